/-- the watch: all its cells by one address function; keys: 0 things, 1 their rows of ints, 2 their reach rows, 3 boxes, 4 places, 5 rows of places (0 to 3 grounds, 4 outside, 5 and on levels), 6 tally, 7 levels, 8 the object, 9 things' row, 10 grounds' row -/
abbrev Ov (ad : Nat → Nat → Nat → Nat) (nt ng : Int) : mE := .inr (4, [.ref (ad 9 0 0), .ref (ad 10 0 0), .ref (ad 4 4 0), .ref (ad 6 0 0), .int (iI nt), .int (iI ng)])
abbrev thGood (sp n : Int) (vt vw vr : Nat → Int) : Prop := (0 ≤ sp ∧ sp ≤ 7) ∧ (0 ≤ n ∧ n ≤ 12) ∧ sOk n vt vw vr ∧ ∀ t, t < 80 → neB (stF sp vt vw vr n.toNat) t
def OvOk (M : mM) (ad : Nat → Nat → Nat → Nat) (nt ng : Int) (sp nn jj : Nat → Int) (vt vw vr : Nat → Nat → Int) (G : Nat → Nat → Nat → Bool) : Prop :=
  M (ad 8 0 0) = some (Ov ad nt ng) ∧ (∃ tf, M (ad 9 0 0) = some (aQ RX3 6 tf) ∧ ∀ i : Nat, (i : Int) < nt → tf i = some (ad 0 i 0)) ∧ (∃ gf, M (ad 10 0 0) = some (aQ RX1 4 gf) ∧ ∀ i : Nat, (i : Int) < ng → gf i = some (ad 4 i 0)) ∧
  (∀ i : Nat, (i : Int) < nt → (∃ rf, ThOk M (ad 0 i 0) (ad 1 i 0) (ad 1 i 1) (ad 1 i 2) (ad 2 i 0) rf (ad 3 i) (sp i) (nn i) (jj i) (vt i) (vw i) (vr i) (stF (sp i) (vt i) (vw i) (vr i) (nn i).toNat)) ∧ thGood (sp i) (nn i) (vt i) (vw i) (vr i)) ∧
  (∀ i : Nat, (i : Int) < ng → M (ad 4 i 0) = some (Pl (ad 5 i 0)) ∧ M (ad 5 i 0) = some (aL 64 (G i))) ∧
  (∃ SO, M (ad 4 4 0) = some (Pl (ad 5 4 0)) ∧ M (ad 5 4 0) = some (aL 64 SO)) ∧
  (∃ lf f g S, TaOk M (ad 6 0 0) (ad 7 0 0) lf (fun k => ad 4 (5 + k) 0) (fun k => ad 5 (5 + k) 0) f g S) ∧ (0 ≤ nt ∧ nt ≤ 6 ∧ 0 ≤ ng ∧ ng ≤ 4)
/-- STATE as a number -/
noncomputable def stN (S : Nat → Nat → Bool) (F : Nat → Nat → Int) (t : Nat) : Int := tf (∃ a c : Nat, F t 0 ≤ a ∧ (a : Int) ≤ F t 1 ∧ F t 2 ≤ c ∧ (c : Int) ≤ F t 3 ∧ S a c = true) * (1 + tf (∀ a c : Nat, F t 0 ≤ a → (a : Int) ≤ F t 1 → F t 2 ≤ c → (c : Int) ≤ F t 3 → S a c = true))
theorem stN_rg (S : Nat → Nat → Bool) (F : Nat → Nat → Int) (t : Nat) : 0 ≤ stN S F t ∧ stN S F t ≤ 2 := by
  unfold stN
  generalize (∃ a c : Nat, F t 0 ≤ a ∧ (a : Int) ≤ F t 1 ∧ F t 2 ≤ c ∧ (c : Int) ≤ F t 3 ∧ S a c = true) = P
  generalize (∀ a c : Nat, F t 0 ≤ a → (a : Int) ≤ F t 1 → F t 2 ≤ c → (c : Int) ≤ F t 3 → S a c = true) = R
  rcases Classical.em P with h | h <;> rcases Classical.em R with g | g <;> simp [tf_t, tf_f, h, g]

set_option maxHeartbeats 4000000 in
set_option maxRecDepth 100000 in
theorem c_X4_thingOf_y (l : Launch) (D : va_G) (b : Nat) (M : mM) (ad : Nat → Nat → Nat → Nat) (nt ng : Int) (sp nn jj : Nat → Int) (vt vw vr : Nat → Nat → Int) (G : Nat → Nat → Nat → Bool) (hO : OvOk M ad nt ng sp nn jj vt vw vr G) (t : Int) (hr0 : rg t) (hq : 0 ≤ t ∧ t < nt) : Met l yX4_thingOf wsX4_thingOf ({ frames := 0, cells := 0, slots := 0, locals := 0 } : Room) (mPc [.ref (ad 8 0 0), .int (iI t)] D b M) (mQq D b (fQ (some (ad 0 t.toNat 0)) M)) 0 0 (mF b) := by
  refine m_met (cc := cX4_thingOf) (maxL := 2) (ret := (some (.object "OverLine$Thing"))) (by decide) rfl (Nat.le_of_ble_eq_true rfl) ?_
  intro p e s m args below meth c Q ls hx hb hml hr hts hown hlk hnm hQ K hG hS hl
  have hown : s.vm.findClass RX4 = some m.cls := hown
  have hl : lv_has ls 2 [(0, .ref (ad 8 0 0)), (1, .int (iI t))] := hl
  obtain ⟨o1, ⟨tf0, o2, o3⟩, ⟨gf0, o4, o5⟩, oT, oG, ⟨SO, o6, o7⟩, oA, ⟨b1, b2, b3, b4⟩⟩ := id hO
  refine lv_iload_n hx hb dX4_thingOf_0 rfl (lv_at hl 1 rfl) ?_
  refine m_if_lt (tgt := 21) hx hb dX4_thingOf_1 (by decide) hr0 (fun c1 => ?_) (fun c1 => ?_)
  · refine lv_null hx hb dX4_thingOf_21 ?_
    exact m_aret none rfl hx hb hr hlk hQ hG hS (Nat.le_of_ble_eq_true rfl) (Nat.le_of_ble_eq_true rfl) dX4_thingOf_22 (absurd hq (by omega))
  · refine lv_iload_n hx hb dX4_thingOf_4 rfl (lv_at hl 1 rfl) ?_
    refine lv_aload_n hx hb dX4_thingOf_5 rfl (lv_at hl 0 rfl) ?_
    refine m_get (ci := 4) (v := .int (iI nt)) (C := RX4) (T := TX4) (N := 6) hx hb hts (by decide +kernel) hown K hG o1 rfl 4 (by decide) (by decide +kernel) rfl dX4_thingOf_6 ?_
    refine m_icmp_ge (tgt := 21) hx hb dX4_thingOf_9 (by decide) hr0 ⟨by omega, by omega⟩ (fun c9 => ?_) (fun c9 => ?_)
    · refine lv_null hx hb dX4_thingOf_21 ?_
      exact m_aret none rfl hx hb hr hlk hQ hG hS (Nat.le_of_ble_eq_true rfl) (Nat.le_of_ble_eq_true rfl) dX4_thingOf_22 (absurd hq (by omega))
    · refine lv_aload_n hx hb dX4_thingOf_12 rfl (lv_at hl 0 rfl) ?_
      refine m_get (ci := 4) (v := .ref (ad 9 0 0)) (C := RX4) (T := TX4) (N := 6) hx hb hts (by decide +kernel) hown K hG o1 rfl 0 (by decide) (by decide +kernel) rfl dX4_thingOf_13 ?_
      refine lv_iload_n hx hb dX4_thingOf_16 rfl (lv_at hl 1 rfl) ?_
      refine m_aald hx hb hG o2 ((t).toNat) (by omega) (by omega) (by decide) (o3 ((t).toNat) (by omega)) dX4_thingOf_17 ?_
      refine lv_goto (tgt := 22) hx hb dX4_thingOf_18 (by decide) ?_
      exact m_aret (some (ad 0 ((t).toNat) 0)) rfl hx hb hr hlk hQ hG hS (Nat.le_of_ble_eq_true rfl) (Nat.le_of_ble_eq_true rfl) dX4_thingOf_22 ⟨rfl, rfl⟩

set_option maxHeartbeats 4000000 in
set_option maxRecDepth 100000 in
theorem c_X4_thingOf_n (l : Launch) (D : va_G) (b : Nat) (M : mM) (ad : Nat → Nat → Nat → Nat) (nt ng : Int) (sp nn jj : Nat → Int) (vt vw vr : Nat → Nat → Int) (G : Nat → Nat → Nat → Bool) (hO : OvOk M ad nt ng sp nn jj vt vw vr G) (t : Int) (hr0 : rg t) (hq : ¬ (0 ≤ t ∧ t < nt)) : Met l yX4_thingOf wsX4_thingOf ({ frames := 0, cells := 0, slots := 0, locals := 0 } : Room) (mPc [.ref (ad 8 0 0), .int (iI t)] D b M) (mQq D b (fQ none M)) 0 0 (mF b) := by
  refine m_met (cc := cX4_thingOf) (maxL := 2) (ret := (some (.object "OverLine$Thing"))) (by decide) rfl (Nat.le_of_ble_eq_true rfl) ?_
  intro p e s m args below meth c Q ls hx hb hml hr hts hown hlk hnm hQ K hG hS hl
  have hown : s.vm.findClass RX4 = some m.cls := hown
  have hl : lv_has ls 2 [(0, .ref (ad 8 0 0)), (1, .int (iI t))] := hl
  obtain ⟨o1, ⟨tf0, o2, o3⟩, ⟨gf0, o4, o5⟩, oT, oG, ⟨SO, o6, o7⟩, oA, ⟨b1, b2, b3, b4⟩⟩ := id hO
  refine lv_iload_n hx hb dX4_thingOf_0 rfl (lv_at hl 1 rfl) ?_
  refine m_if_lt (tgt := 21) hx hb dX4_thingOf_1 (by decide) hr0 (fun c1 => ?_) (fun c1 => ?_)
  · refine lv_null hx hb dX4_thingOf_21 ?_
    exact m_aret none rfl hx hb hr hlk hQ hG hS (Nat.le_of_ble_eq_true rfl) (Nat.le_of_ble_eq_true rfl) dX4_thingOf_22 ⟨rfl, rfl⟩
  · refine lv_iload_n hx hb dX4_thingOf_4 rfl (lv_at hl 1 rfl) ?_
    refine lv_aload_n hx hb dX4_thingOf_5 rfl (lv_at hl 0 rfl) ?_
    refine m_get (ci := 4) (v := .int (iI nt)) (C := RX4) (T := TX4) (N := 6) hx hb hts (by decide +kernel) hown K hG o1 rfl 4 (by decide) (by decide +kernel) rfl dX4_thingOf_6 ?_
    refine m_icmp_ge (tgt := 21) hx hb dX4_thingOf_9 (by decide) hr0 ⟨by omega, by omega⟩ (fun c9 => ?_) (fun c9 => ?_)
    · refine lv_null hx hb dX4_thingOf_21 ?_
      exact m_aret none rfl hx hb hr hlk hQ hG hS (Nat.le_of_ble_eq_true rfl) (Nat.le_of_ble_eq_true rfl) dX4_thingOf_22 ⟨rfl, rfl⟩
    · refine lv_aload_n hx hb dX4_thingOf_12 rfl (lv_at hl 0 rfl) ?_
      refine m_get (ci := 4) (v := .ref (ad 9 0 0)) (C := RX4) (T := TX4) (N := 6) hx hb hts (by decide +kernel) hown K hG o1 rfl 0 (by decide) (by decide +kernel) rfl dX4_thingOf_13 ?_
      refine lv_iload_n hx hb dX4_thingOf_16 rfl (lv_at hl 1 rfl) ?_
      refine m_aald hx hb hG o2 ((t).toNat) (by omega) (by omega) (by decide) (o3 ((t).toNat) (by omega)) dX4_thingOf_17 ?_
      refine lv_goto (tgt := 22) hx hb dX4_thingOf_18 (by decide) ?_
      exact m_aret (some (ad 0 ((t).toNat) 0)) rfl hx hb hr hlk hQ hG hS (Nat.le_of_ble_eq_true rfl) (Nat.le_of_ble_eq_true rfl) dX4_thingOf_22 (absurd (show 0 ≤ t ∧ t < nt by omega) hq)

set_option maxHeartbeats 4000000 in
set_option maxRecDepth 100000 in
theorem c_X4_groundOf_y (l : Launch) (D : va_G) (b : Nat) (M : mM) (ad : Nat → Nat → Nat → Nat) (nt ng : Int) (sp nn jj : Nat → Int) (vt vw vr : Nat → Nat → Int) (G : Nat → Nat → Nat → Bool) (hO : OvOk M ad nt ng sp nn jj vt vw vr G) (t : Int) (hr0 : rg t) (hq : 0 ≤ t ∧ t < ng) : Met l yX4_groundOf wsX4_groundOf ({ frames := 0, cells := 0, slots := 0, locals := 0 } : Room) (mPc [.ref (ad 8 0 0), .int (iI t)] D b M) (mQq D b (fQ (some (ad 4 t.toNat 0)) M)) 0 0 (mF b) := by
  refine m_met (cc := cX4_groundOf) (maxL := 2) (ret := (some (.object "OverLine$Places"))) (by decide) rfl (Nat.le_of_ble_eq_true rfl) ?_
  intro p e s m args below meth c Q ls hx hb hml hr hts hown hlk hnm hQ K hG hS hl
  have hown : s.vm.findClass RX4 = some m.cls := hown
  have hl : lv_has ls 2 [(0, .ref (ad 8 0 0)), (1, .int (iI t))] := hl
  obtain ⟨o1, ⟨tf0, o2, o3⟩, ⟨gf0, o4, o5⟩, oT, oG, ⟨SO, o6, o7⟩, oA, ⟨b1, b2, b3, b4⟩⟩ := id hO
  refine lv_iload_n hx hb dX4_groundOf_0 rfl (lv_at hl 1 rfl) ?_
  refine m_if_lt (tgt := 21) hx hb dX4_groundOf_1 (by decide) hr0 (fun c1 => ?_) (fun c1 => ?_)
  · refine lv_null hx hb dX4_groundOf_21 ?_
    exact m_aret none rfl hx hb hr hlk hQ hG hS (Nat.le_of_ble_eq_true rfl) (Nat.le_of_ble_eq_true rfl) dX4_groundOf_22 (absurd hq (by omega))
  · refine lv_iload_n hx hb dX4_groundOf_4 rfl (lv_at hl 1 rfl) ?_
    refine lv_aload_n hx hb dX4_groundOf_5 rfl (lv_at hl 0 rfl) ?_
    refine m_get (ci := 4) (v := .int (iI ng)) (C := RX4) (T := TX4) (N := 6) hx hb hts (by decide +kernel) hown K hG o1 rfl 5 (by decide) (by decide +kernel) rfl dX4_groundOf_6 ?_
    refine m_icmp_ge (tgt := 21) hx hb dX4_groundOf_9 (by decide) hr0 ⟨by omega, by omega⟩ (fun c9 => ?_) (fun c9 => ?_)
    · refine lv_null hx hb dX4_groundOf_21 ?_
      exact m_aret none rfl hx hb hr hlk hQ hG hS (Nat.le_of_ble_eq_true rfl) (Nat.le_of_ble_eq_true rfl) dX4_groundOf_22 (absurd hq (by omega))
    · refine lv_aload_n hx hb dX4_groundOf_12 rfl (lv_at hl 0 rfl) ?_
      refine m_get (ci := 4) (v := .ref (ad 10 0 0)) (C := RX4) (T := TX4) (N := 6) hx hb hts (by decide +kernel) hown K hG o1 rfl 1 (by decide) (by decide +kernel) rfl dX4_groundOf_13 ?_
      refine lv_iload_n hx hb dX4_groundOf_16 rfl (lv_at hl 1 rfl) ?_
      refine m_aald hx hb hG o4 ((t).toNat) (by omega) (by omega) (by decide) (o5 ((t).toNat) (by omega)) dX4_groundOf_17 ?_
      refine lv_goto (tgt := 22) hx hb dX4_groundOf_18 (by decide) ?_
      exact m_aret (some (ad 4 ((t).toNat) 0)) rfl hx hb hr hlk hQ hG hS (Nat.le_of_ble_eq_true rfl) (Nat.le_of_ble_eq_true rfl) dX4_groundOf_22 ⟨rfl, rfl⟩

set_option maxHeartbeats 4000000 in
set_option maxRecDepth 100000 in
theorem c_X4_groundOf_n (l : Launch) (D : va_G) (b : Nat) (M : mM) (ad : Nat → Nat → Nat → Nat) (nt ng : Int) (sp nn jj : Nat → Int) (vt vw vr : Nat → Nat → Int) (G : Nat → Nat → Nat → Bool) (hO : OvOk M ad nt ng sp nn jj vt vw vr G) (t : Int) (hr0 : rg t) (hq : ¬ (0 ≤ t ∧ t < ng)) : Met l yX4_groundOf wsX4_groundOf ({ frames := 0, cells := 0, slots := 0, locals := 0 } : Room) (mPc [.ref (ad 8 0 0), .int (iI t)] D b M) (mQq D b (fQ none M)) 0 0 (mF b) := by
  refine m_met (cc := cX4_groundOf) (maxL := 2) (ret := (some (.object "OverLine$Places"))) (by decide) rfl (Nat.le_of_ble_eq_true rfl) ?_
  intro p e s m args below meth c Q ls hx hb hml hr hts hown hlk hnm hQ K hG hS hl
  have hown : s.vm.findClass RX4 = some m.cls := hown
  have hl : lv_has ls 2 [(0, .ref (ad 8 0 0)), (1, .int (iI t))] := hl
  obtain ⟨o1, ⟨tf0, o2, o3⟩, ⟨gf0, o4, o5⟩, oT, oG, ⟨SO, o6, o7⟩, oA, ⟨b1, b2, b3, b4⟩⟩ := id hO
  refine lv_iload_n hx hb dX4_groundOf_0 rfl (lv_at hl 1 rfl) ?_
  refine m_if_lt (tgt := 21) hx hb dX4_groundOf_1 (by decide) hr0 (fun c1 => ?_) (fun c1 => ?_)
  · refine lv_null hx hb dX4_groundOf_21 ?_
    exact m_aret none rfl hx hb hr hlk hQ hG hS (Nat.le_of_ble_eq_true rfl) (Nat.le_of_ble_eq_true rfl) dX4_groundOf_22 ⟨rfl, rfl⟩
  · refine lv_iload_n hx hb dX4_groundOf_4 rfl (lv_at hl 1 rfl) ?_
    refine lv_aload_n hx hb dX4_groundOf_5 rfl (lv_at hl 0 rfl) ?_
    refine m_get (ci := 4) (v := .int (iI ng)) (C := RX4) (T := TX4) (N := 6) hx hb hts (by decide +kernel) hown K hG o1 rfl 5 (by decide) (by decide +kernel) rfl dX4_groundOf_6 ?_
    refine m_icmp_ge (tgt := 21) hx hb dX4_groundOf_9 (by decide) hr0 ⟨by omega, by omega⟩ (fun c9 => ?_) (fun c9 => ?_)
    · refine lv_null hx hb dX4_groundOf_21 ?_
      exact m_aret none rfl hx hb hr hlk hQ hG hS (Nat.le_of_ble_eq_true rfl) (Nat.le_of_ble_eq_true rfl) dX4_groundOf_22 ⟨rfl, rfl⟩
    · refine lv_aload_n hx hb dX4_groundOf_12 rfl (lv_at hl 0 rfl) ?_
      refine m_get (ci := 4) (v := .ref (ad 10 0 0)) (C := RX4) (T := TX4) (N := 6) hx hb hts (by decide +kernel) hown K hG o1 rfl 1 (by decide) (by decide +kernel) rfl dX4_groundOf_13 ?_
      refine lv_iload_n hx hb dX4_groundOf_16 rfl (lv_at hl 1 rfl) ?_
      refine m_aald hx hb hG o4 ((t).toNat) (by omega) (by omega) (by decide) (o5 ((t).toNat) (by omega)) dX4_groundOf_17 ?_
      refine lv_goto (tgt := 22) hx hb dX4_groundOf_18 (by decide) ?_
      exact m_aret (some (ad 4 ((t).toNat) 0)) rfl hx hb hr hlk hQ hG hS (Nat.le_of_ble_eq_true rfl) (Nat.le_of_ble_eq_true rfl) dX4_groundOf_22 (absurd (show 0 ≤ t ∧ t < ng by omega) hq)

set_option maxHeartbeats 4000000 in
set_option maxRecDepth 100000 in
theorem c_X4_jumps (l : Launch) (D : va_G) (b : Nat) (M : mM) (ad : Nat → Nat → Nat → Nat) (nt ng : Int) (sp nn jj : Nat → Int) (vt vw vr : Nat → Nat → Int) (G : Nat → Nat → Nat → Bool) (hO : OvOk M ad nt ng sp nn jj vt vw vr G) (t : Int) (hrt : rg t) : Met l yX4_jumps wsX4_jumps ({ frames := 1, cells := 0, slots := 0, locals := 21 } : Room) (mPc [.ref (ad 8 0 0), .int (iI t)] D b M) (mQi D b (fI (if 0 ≤ t ∧ t < nt then jj t.toNat else -1) M)) 0 0 (mF b) := by
  refine m_met (cc := cX4_jumps) (maxL := 3) (ret := (some .int)) (by decide) rfl (Nat.le_of_ble_eq_true rfl) ?_
  intro p e s m args below meth c Q ls hx hb hml hr hts hown hlk hnm hQ K hG hS hl
  have hown : s.vm.findClass RX4 = some m.cls := hown
  have hl : lv_has ls 3 [(0, .ref (ad 8 0 0)), (1, .int (iI t))] := hl
  obtain ⟨o1, ⟨tf0, o2, o3⟩, ⟨gf0, o4, o5⟩, oT, oG, ⟨SO, o6, o7⟩, oA, ⟨b1, b2, b3, b4⟩⟩ := id hO
  refine lv_aload_n hx hb dX4_jumps_0 rfl (lv_at hl 0 rfl) ?_
  refine lv_iload_n hx hb dX4_jumps_1 rfl (lv_at hl 1 rfl) ?_
  rcases Classical.em (0 ≤ t ∧ t < nt) with hqk1 | hqk1
  · obtain ⟨⟨rfk1, hTk1⟩, ⟨hs0k1, hs1k1⟩, ⟨hn0k1, hn1k1⟩, sok1, nek1⟩ := oT t.toNat (by omega)
    have hRk1 : in63 (stF (sp t.toNat) (vt t.toNat) (vw t.toNat) (vr t.toNat) (nn t.toNat).toNat) := stF_rg hs0k1 (fun k hk => (sok1 k (by omega)).2)
    obtain ⟨t1k1, t2k1, t3k1, t4k1, t5k1, t6k1, hBk1, -, -⟩ := id hTk1
    refine m_callfq (m_runV (a := ad 8 0 0) (As := [.int (iI t)]) (rest := []) ⟨hx, hb, hml, hown, hts⟩ (c_X4_thingOf_y l D b _ ad nt ng sp nn jj vt vw vr G hO t hrt hqk1) (cwV 1 hts gX4_jumps_X4_thingOf rfl rfl rfl (by decide +kernel) ⟨Nat.le_of_ble_eq_true rfl, Nat.le_of_ble_eq_true rfl⟩) K hG o1 rfl rfl rfl hl.1 rfl (Nat.le_of_ble_eq_true rfl) dX4_jumps_2 ⟨Nat.le_of_ble_eq_true rfl, Nat.le_of_ble_eq_true rfl⟩) hS (fun H locs hG hS => ?_)
    refine W.eq (g2 := F0 m 5 ls [.ref (ad 0 t.toNat 0)]) rfl ?_
    have hG : mG D b M s H := hG
    refine lv_astore_n (lv' := [(2, .ref (ad 0 t.toNat 0)), (0, .ref (ad 8 0 0)), (1, .int (iI t))]) hx hb dX4_jumps_5 rfl hl (by decide) rfl (fun ls hl => ?_)
    refine lv_aload_n hx hb dX4_jumps_6 rfl (lv_at hl 0 rfl) ?_
    refine lv_ifnonnull (tgt := 14) hx hb dX4_jumps_7 (by decide) ?_
    refine lv_aload_n hx hb dX4_jumps_14 rfl (lv_at hl 0 rfl) ?_
    refine m_callfi (m_runV (a := ad 0 t.toNat 0) (As := []) (rest := []) ⟨hx, hb, hml, hown, hts⟩ (c_X3_leftOut l D b _ (ad 0 t.toNat 0) (ad 1 t.toNat 0) (ad 1 t.toNat 1) (ad 1 t.toNat 2) (ad 2 t.toNat 0) rfk1 (ad 3 t.toNat) (sp t.toNat) (nn t.toNat) (jj t.toNat) (vt t.toNat) (vw t.toNat) (vr t.toNat) (stF (sp t.toNat) (vt t.toNat) (vw t.toNat) (vr t.toNat) (nn t.toNat).toNat) hTk1) (cwV 0 hts gX4_jumps_X3_leftOut rfl rfl rfl (by decide +kernel) ⟨Nat.le_of_ble_eq_true rfl, Nat.le_of_ble_eq_true rfl⟩) K hG t1k1 rfl rfl rfl hl.1 rfl (Nat.le_of_ble_eq_true rfl) dX4_jumps_15 ⟨Nat.le_of_ble_eq_true rfl, Nat.le_of_ble_eq_true rfl⟩) hS (fun H locs hG hS => ?_)
    have hG : mG D b M s H := hG
    exact m_iret hx hb hr hlk hQ hG hS (Nat.le_of_ble_eq_true rfl) (Nat.le_of_ble_eq_true rfl) dX4_jumps_18 ⟨congrArg iI (by rw [if_pos hqk1]), rfl⟩
  · refine m_callfq (m_runV (a := ad 8 0 0) (As := [.int (iI t)]) (rest := []) ⟨hx, hb, hml, hown, hts⟩ (c_X4_thingOf_n l D b _ ad nt ng sp nn jj vt vw vr G hO t hrt hqk1) (cwV 1 hts gX4_jumps_X4_thingOf rfl rfl rfl (by decide +kernel) ⟨Nat.le_of_ble_eq_true rfl, Nat.le_of_ble_eq_true rfl⟩) K hG o1 rfl rfl rfl hl.1 rfl (Nat.le_of_ble_eq_true rfl) dX4_jumps_2 ⟨Nat.le_of_ble_eq_true rfl, Nat.le_of_ble_eq_true rfl⟩) hS (fun H locs hG hS => ?_)
    refine W.eq (g2 := F0 m 5 ls [.null]) rfl ?_
    have hG : mG D b M s H := hG
    refine lv_astore_nN (lv' := [(2, .null), (0, .ref (ad 8 0 0)), (1, .int (iI t))]) hx hb dX4_jumps_5 rfl hl (by decide) rfl (fun ls hl => ?_)
    refine lv_aload_nN hx hb dX4_jumps_6 rfl (lv_at hl 0 rfl) ?_
    refine lv_ifnonnullN hx hb dX4_jumps_7 ?_
    refine lv_iconst (v := iI (-1)) hx hb dX4_jumps_10 rfl ?_
    refine lv_goto (tgt := 18) hx hb dX4_jumps_11 (by decide) ?_
    exact m_iret hx hb hr hlk hQ hG hS (Nat.le_of_ble_eq_true rfl) (Nat.le_of_ble_eq_true rfl) dX4_jumps_18 ⟨congrArg iI (by rw [if_neg hqk1]), rfl⟩

theorem lk_out {x a b e : Int} (h : x < 0 ∨ 1 < x) : Op.lookupswitch.offset [(0, a), (1, b)] e x = e := by
  have h0 : ¬ ((0 : Int) = x) := by omega
  have h1 : ¬ ((1 : Int) = x) := by omega
  have h0' : ¬ (x = (0 : Int)) := by omega
  have h1' : ¬ (x = (1 : Int)) := by omega
  simp [Op.lookupswitch.offset, h0, h1, h0', h1']
/-- WHERE, as a number -/
def whN (F : Nat → Nat → Int) (t : Nat) (w : Int) : Int := if w = 0 then F t 0 else if w = 1 then F t 1 else if w = 2 then F t 2 else if w = 3 then F t 3 else if w = 4 then (F t 1 - F t 0 + 1) * (F t 3 - F t 2 + 1) else -1
set_option maxHeartbeats 4000000 in
set_option maxRecDepth 100000 in
theorem c_X4_where (l : Launch) (D : va_G) (b : Nat) (M : mM) (ad : Nat → Nat → Nat → Nat) (nt ng : Int) (sp nn jj : Nat → Int) (vt vw vr : Nat → Nat → Int) (G : Nat → Nat → Nat → Bool) (hO : OvOk M ad nt ng sp nn jj vt vw vr G) (t u w : Int) (hrt : rg t) (hru : rg u) (hrw : rg w) : Met l yX4_where wsX4_where ({ frames := 1, cells := 0, slots := 0, locals := 21 } : Room) (mPc [.ref (ad 8 0 0), .int (iI t), .int (iI u), .int (iI w)] D b M) (mQi D b (fI (if (0 ≤ t ∧ t < nt) ∧ (0 ≤ u ∧ u < 80) then whN (stF (sp t.toNat) (vt t.toNat) (vw t.toNat) (vr t.toNat) (nn t.toNat).toNat) u.toNat w else -1) M)) 0 0 (mF b) := by
  refine m_met (cc := cX4_where) (maxL := 6) (ret := (some .int)) (by decide) rfl (Nat.le_of_ble_eq_true rfl) ?_
  intro p e s m args below meth c Q ls hx hb hml hr hts hown hlk hnm hQ K hG hS hl
  have hown : s.vm.findClass RX4 = some m.cls := hown
  have hl : lv_has ls 6 [(0, .ref (ad 8 0 0)), (1, .int (iI t)), (2, .int (iI u)), (3, .int (iI w))] := hl
  obtain ⟨o1, ⟨tf0, o2, o3⟩, ⟨gf0, o4, o5⟩, oT, oG, ⟨SO, o6, o7⟩, oA, ⟨b1, b2, b3, b4⟩⟩ := id hO
  refine lv_aload_n hx hb dX4_where_0 rfl (lv_at hl 0 rfl) ?_
  refine lv_iload_n hx hb dX4_where_1 rfl (lv_at hl 1 rfl) ?_
  rcases Classical.em (0 ≤ t ∧ t < nt) with hqk1 | hqk1
  · obtain ⟨⟨rfk1, hTk1⟩, ⟨hs0k1, hs1k1⟩, ⟨hn0k1, hn1k1⟩, sok1, nek1⟩ := oT t.toNat (by omega)
    have hRk1 : in63 (stF (sp t.toNat) (vt t.toNat) (vw t.toNat) (vr t.toNat) (nn t.toNat).toNat) := stF_rg hs0k1 (fun k hk => (sok1 k (by omega)).2)
    obtain ⟨t1k1, t2k1, t3k1, t4k1, t5k1, t6k1, hBk1, -, -⟩ := id hTk1
    refine m_callfq (m_runV (a := ad 8 0 0) (As := [.int (iI t)]) (rest := []) ⟨hx, hb, hml, hown, hts⟩ (c_X4_thingOf_y l D b _ ad nt ng sp nn jj vt vw vr G hO t hrt hqk1) (cwV 1 hts gX4_where_X4_thingOf rfl rfl rfl (by decide +kernel) ⟨Nat.le_of_ble_eq_true rfl, Nat.le_of_ble_eq_true rfl⟩) K hG o1 rfl rfl rfl hl.1 rfl (Nat.le_of_ble_eq_true rfl) dX4_where_2 ⟨Nat.le_of_ble_eq_true rfl, Nat.le_of_ble_eq_true rfl⟩) hS (fun H locs hG hS => ?_)
    refine W.eq (g2 := F0 m 5 ls [.ref (ad 0 t.toNat 0)]) rfl ?_
    have hG : mG D b M s H := hG
    refine lv_astore (lv' := [(4, .ref (ad 0 t.toNat 0)), (0, .ref (ad 8 0 0)), (1, .int (iI t)), (2, .int (iI u)), (3, .int (iI w))]) hx hb dX4_where_5 hl (by decide) rfl (fun ls hl => ?_)
    refine lv_aload hx hb dX4_where_7 (lv_at hl 0 rfl) ?_
    refine lv_ifnull hx hb dX4_where_9 ?_
    refine lv_iload_n hx hb dX4_where_12 rfl (lv_at hl 3 rfl) ?_
    refine m_callfi (m_runS (As := [.int (iI u)]) (rest := []) ⟨hx, hb, hml, hown, hts⟩ (c_X4_isTick l D b _ u hru) (va_cwS 1 hts gX4_where_X4_isTick rfl rfl rfl (by decide +kernel) ⟨Nat.le_of_ble_eq_true rfl, Nat.le_of_ble_eq_true rfl⟩) K hG rfl hl.1 rfl (Nat.le_of_ble_eq_true rfl) dX4_where_13 ⟨Nat.le_of_ble_eq_true rfl, Nat.le_of_ble_eq_true rfl⟩) hS (fun H locs hG hS => ?_)
    have hG : mG D b M s H := hG
    refine m_ifb_ne (tgt := 21) hx hb dX4_where_16 (by decide) (fun c16 => ?_) (fun c16 => ?_)
    · refine lv_aload hx hb dX4_where_21 (lv_at hl 0 rfl) ?_
      refine lv_iload_n hx hb dX4_where_23 rfl (lv_at hl 3 rfl) ?_
      refine m_callfq (m_runV (a := ad 0 t.toNat 0) (As := [.int (iI u)]) (rest := []) ⟨hx, hb, hml, hown, hts⟩ (c_X3_reachAt l D b _ (ad 0 t.toNat 0) (ad 1 t.toNat 0) (ad 1 t.toNat 1) (ad 1 t.toNat 2) (ad 2 t.toNat 0) rfk1 (ad 3 t.toNat) (sp t.toNat) (nn t.toNat) (jj t.toNat) (vt t.toNat) (vw t.toNat) (vr t.toNat) (stF (sp t.toNat) (vt t.toNat) (vw t.toNat) (vr t.toNat) (nn t.toNat).toNat) hTk1 u (by omega) (by omega)) (cwV 1 hts gX4_where_X3_reachAt rfl rfl rfl (by decide +kernel) ⟨Nat.le_of_ble_eq_true rfl, Nat.le_of_ble_eq_true rfl⟩) K hG t1k1 rfl rfl rfl hl.1 rfl (Nat.le_of_ble_eq_true rfl) dX4_where_24 ⟨Nat.le_of_ble_eq_true rfl, Nat.le_of_ble_eq_true rfl⟩) hS (fun H locs hG hS => ?_)
      refine W.eq (g2 := F0 m 27 ls [.ref (ad 3 t.toNat ((u).toNat))]) rfl ?_
      have hG : mG D b M s H := hG
      refine lv_astore (lv' := [(5, .ref (ad 3 t.toNat ((u).toNat))), (4, .ref (ad 0 t.toNat 0)), (0, .ref (ad 8 0 0)), (1, .int (iI t)), (2, .int (iI u)), (3, .int (iI w))]) hx hb dX4_where_27 hl (by decide) rfl (fun ls hl => ?_)
      refine lv_iload_n hx hb dX4_where_29 rfl (lv_at hl 5 rfl) ?_
      rcases (show (w < 0 ∨ 4 < w) ∨ w = 0 ∨ w = 1 ∨ w = 2 ∨ w = 3 ∨ w = 4 by omega) with hc30 | hc30 | hc30 | hc30 | hc30 | hc30
      · refine m_tabOut (tgt := 94) hx hb dX4_where_30 hrw (by omega) (by decide) ?_
        refine lv_iconst (v := iI (-1)) hx hb dX4_where_94 rfl ?_
        exact m_iret hx hb hr hlk hQ hG hS (Nat.le_of_ble_eq_true rfl) (Nat.le_of_ble_eq_true rfl) dX4_where_95 ⟨congrArg iI (by rw [if_pos (by omega)]; unfold whN; rw [if_neg (by omega), if_neg (by omega), if_neg (by omega), if_neg (by omega), if_neg (by omega)]), rfl⟩
      · refine m_tabIn (tgt := 64) (off := 34) hx hb dX4_where_30 hrw (by omega) (by omega) (by rw [hc30]; rfl) (by decide) ?_
        refine lv_aload hx hb dX4_where_64 (lv_at hl 0 rfl) ?_
        refine m_getN (ci := 0) (v := .int (iI ((stF (sp t.toNat) (vt t.toNat) (vw t.toNat) (vr t.toNat) (nn t.toNat).toNat) ((u).toNat) 0))) (C := RX0) (T := TX0) (N := 4) hx hb hts (by decide +kernel) hown K hG (hBk1 ((u).toNat) (by omega)) rfl 0 (by decide) K.2.2.1.1 rfl dX4_where_66 ?_
        exact m_iret hx hb hr hlk hQ hG hS (Nat.le_of_ble_eq_true rfl) (Nat.le_of_ble_eq_true rfl) dX4_where_69 ⟨congrArg iI (by rw [if_pos (by omega)]; unfold whN; rw [if_pos (by omega)]), rfl⟩
      · refine m_tabIn (tgt := 70) (off := 40) hx hb dX4_where_30 hrw (by omega) (by omega) (by rw [hc30]; rfl) (by decide) ?_
        refine lv_aload hx hb dX4_where_70 (lv_at hl 0 rfl) ?_
        refine m_getN (ci := 0) (v := .int (iI ((stF (sp t.toNat) (vt t.toNat) (vw t.toNat) (vr t.toNat) (nn t.toNat).toNat) ((u).toNat) 1))) (C := RX0) (T := TX0) (N := 4) hx hb hts (by decide +kernel) hown K hG (hBk1 ((u).toNat) (by omega)) rfl 1 (by decide) K.2.2.1.2.1 rfl dX4_where_72 ?_
        exact m_iret hx hb hr hlk hQ hG hS (Nat.le_of_ble_eq_true rfl) (Nat.le_of_ble_eq_true rfl) dX4_where_75 ⟨congrArg iI (by rw [if_pos (by omega)]; unfold whN; rw [if_neg (by omega), if_pos (by omega)]), rfl⟩
      · refine m_tabIn (tgt := 76) (off := 46) hx hb dX4_where_30 hrw (by omega) (by omega) (by rw [hc30]; rfl) (by decide) ?_
        refine lv_aload hx hb dX4_where_76 (lv_at hl 0 rfl) ?_
        refine m_getN (ci := 0) (v := .int (iI ((stF (sp t.toNat) (vt t.toNat) (vw t.toNat) (vr t.toNat) (nn t.toNat).toNat) ((u).toNat) 2))) (C := RX0) (T := TX0) (N := 4) hx hb hts (by decide +kernel) hown K hG (hBk1 ((u).toNat) (by omega)) rfl 2 (by decide) K.2.2.1.2.2.1 rfl dX4_where_78 ?_
        exact m_iret hx hb hr hlk hQ hG hS (Nat.le_of_ble_eq_true rfl) (Nat.le_of_ble_eq_true rfl) dX4_where_81 ⟨congrArg iI (by rw [if_pos (by omega)]; unfold whN; rw [if_neg (by omega), if_neg (by omega), if_pos (by omega)]), rfl⟩
      · refine m_tabIn (tgt := 82) (off := 52) hx hb dX4_where_30 hrw (by omega) (by omega) (by rw [hc30]; rfl) (by decide) ?_
        refine lv_aload hx hb dX4_where_82 (lv_at hl 0 rfl) ?_
        refine m_getN (ci := 0) (v := .int (iI ((stF (sp t.toNat) (vt t.toNat) (vw t.toNat) (vr t.toNat) (nn t.toNat).toNat) ((u).toNat) 3))) (C := RX0) (T := TX0) (N := 4) hx hb hts (by decide +kernel) hown K hG (hBk1 ((u).toNat) (by omega)) rfl 3 (by decide) K.2.2.1.2.2.2 rfl dX4_where_84 ?_
        exact m_iret hx hb hr hlk hQ hG hS (Nat.le_of_ble_eq_true rfl) (Nat.le_of_ble_eq_true rfl) dX4_where_87 ⟨congrArg iI (by rw [if_pos (by omega)]; unfold whN; rw [if_neg (by omega), if_neg (by omega), if_neg (by omega), if_pos (by omega)]), rfl⟩
      · refine m_tabIn (tgt := 88) (off := 58) hx hb dX4_where_30 hrw (by omega) (by omega) (by rw [hc30]; rfl) (by decide) ?_
        refine lv_aload hx hb dX4_where_88 (lv_at hl 0 rfl) ?_
        refine m_callfi (m_runV (a := ad 3 t.toNat ((u).toNat)) (As := []) (rest := []) ⟨hx, hb, hml, hown, hts⟩ (c_X0_size l D b _ (ad 3 t.toNat ((u).toNat)) ((stF (sp t.toNat) (vt t.toNat) (vw t.toNat) (vr t.toNat) (nn t.toNat).toNat) ((u).toNat) 0) ((stF (sp t.toNat) (vt t.toNat) (vw t.toNat) (vr t.toNat) (nn t.toNat).toNat) ((u).toNat) 1) ((stF (sp t.toNat) (vt t.toNat) (vw t.toNat) (vr t.toNat) (nn t.toNat).toNat) ((u).toNat) 2) ((stF (sp t.toNat) (vt t.toNat) (vw t.toNat) (vr t.toNat) (nn t.toNat).toNat) ((u).toNat) 3) (hBk1 ((u).toNat) (by omega))) (cwV 0 hts gX4_where_X0_size rfl rfl rfl (by decide +kernel) ⟨Nat.le_of_ble_eq_true rfl, Nat.le_of_ble_eq_true rfl⟩) K hG (hBk1 ((u).toNat) (by omega)) rfl rfl rfl hl.1 rfl (Nat.le_of_ble_eq_true rfl) dX4_where_90 ⟨Nat.le_of_ble_eq_true rfl, Nat.le_of_ble_eq_true rfl⟩) hS (fun H locs hG hS => ?_)
        have hG : mG D b M s H := hG
        exact m_iret hx hb hr hlk hQ hG hS (Nat.le_of_ble_eq_true rfl) (Nat.le_of_ble_eq_true rfl) dX4_where_93 ⟨congrArg iI (by rw [if_pos (by omega)]; unfold whN; rw [if_neg (by omega), if_neg (by omega), if_neg (by omega), if_neg (by omega), if_pos (by omega)]), rfl⟩
    · refine lv_iconst (v := iI (-1)) hx hb dX4_where_19 rfl ?_
      exact m_iret hx hb hr hlk hQ hG hS (Nat.le_of_ble_eq_true rfl) (Nat.le_of_ble_eq_true rfl) dX4_where_20 ⟨congrArg iI (by rw [if_neg (by omega)]), rfl⟩
  · refine m_callfq (m_runV (a := ad 8 0 0) (As := [.int (iI t)]) (rest := []) ⟨hx, hb, hml, hown, hts⟩ (c_X4_thingOf_n l D b _ ad nt ng sp nn jj vt vw vr G hO t hrt hqk1) (cwV 1 hts gX4_where_X4_thingOf rfl rfl rfl (by decide +kernel) ⟨Nat.le_of_ble_eq_true rfl, Nat.le_of_ble_eq_true rfl⟩) K hG o1 rfl rfl rfl hl.1 rfl (Nat.le_of_ble_eq_true rfl) dX4_where_2 ⟨Nat.le_of_ble_eq_true rfl, Nat.le_of_ble_eq_true rfl⟩) hS (fun H locs hG hS => ?_)
    refine W.eq (g2 := F0 m 5 ls [.null]) rfl ?_
    have hG : mG D b M s H := hG
    refine lv_astoreN (lv' := [(4, .null), (0, .ref (ad 8 0 0)), (1, .int (iI t)), (2, .int (iI u)), (3, .int (iI w))]) hx hb dX4_where_5 hl (by decide) rfl (fun ls hl => ?_)
    refine lv_aloadN hx hb dX4_where_7 (lv_at hl 0 rfl) ?_
    refine lv_ifnullN (tgt := 19) hx hb dX4_where_9 (by decide) ?_
    refine lv_iconst (v := iI (-1)) hx hb dX4_where_19 rfl ?_
    exact m_iret hx hb hr hlk hQ hG hS (Nat.le_of_ble_eq_true rfl) (Nat.le_of_ble_eq_true rfl) dX4_where_20 ⟨congrArg iI (by rw [if_neg (by omega)]), rfl⟩

set_option maxHeartbeats 4000000 in
set_option maxRecDepth 100000 in
theorem c_X4_has (l : Launch) (D : va_G) (b : Nat) (M : mM) (ad : Nat → Nat → Nat → Nat) (nt ng : Int) (sp nn jj : Nat → Int) (vt vw vr : Nat → Nat → Int) (G : Nat → Nat → Nat → Bool) (hO : OvOk M ad nt ng sp nn jj vt vw vr G) (t u : Int) (hrt : rg t) (hru : rg u) : Met l yX4_has wsX4_has ({ frames := 1, cells := 0, slots := 0, locals := 22 } : Room) (mPc [.ref (ad 8 0 0), .int (iI t), .int (iI u)] D b M) (mQi D b (fI (if (0 ≤ t ∧ t < ng) ∧ (0 ≤ u ∧ u < 4096) ∧ G t.toNat (u / 64).toNat (u % 64).toNat = true then 1 else 0) M)) 0 0 (mF b) := by
  refine m_met (cc := cX4_has) (maxL := 4) (ret := (some .boolean)) (by decide) rfl (Nat.le_of_ble_eq_true rfl) ?_
  intro p e s m args below meth c Q ls hx hb hml hr hts hown hlk hnm hQ K hG hS hl
  have hown : s.vm.findClass RX4 = some m.cls := hown
  have hl : lv_has ls 4 [(0, .ref (ad 8 0 0)), (1, .int (iI t)), (2, .int (iI u))] := hl
  obtain ⟨o1, ⟨tf0, o2, o3⟩, ⟨gf0, o4, o5⟩, oT, oG, ⟨SO, o6, o7⟩, oA, ⟨b1, b2, b3, b4⟩⟩ := id hO
  refine lv_aload_n hx hb dX4_has_0 rfl (lv_at hl 0 rfl) ?_
  refine lv_iload_n hx hb dX4_has_1 rfl (lv_at hl 1 rfl) ?_
  rcases Classical.em (0 ≤ t ∧ t < ng) with hqk1 | hqk1
  · obtain ⟨p1k1, p2k1⟩ := oG t.toNat (by omega)
    refine m_callfq (m_runV (a := ad 8 0 0) (As := [.int (iI t)]) (rest := []) ⟨hx, hb, hml, hown, hts⟩ (c_X4_groundOf_y l D b _ ad nt ng sp nn jj vt vw vr G hO t hrt hqk1) (cwV 1 hts gX4_has_X4_groundOf rfl rfl rfl (by decide +kernel) ⟨Nat.le_of_ble_eq_true rfl, Nat.le_of_ble_eq_true rfl⟩) K hG o1 rfl rfl rfl hl.1 rfl (Nat.le_of_ble_eq_true rfl) dX4_has_2 ⟨Nat.le_of_ble_eq_true rfl, Nat.le_of_ble_eq_true rfl⟩) hS (fun H locs hG hS => ?_)
    refine W.eq (g2 := F0 m 5 ls [.ref (ad 4 t.toNat 0)]) rfl ?_
    have hG : mG D b M s H := hG
    refine lv_astore_n (lv' := [(3, .ref (ad 4 t.toNat 0)), (0, .ref (ad 8 0 0)), (1, .int (iI t)), (2, .int (iI u))]) hx hb dX4_has_5 rfl hl (by decide) rfl (fun ls hl => ?_)
    refine lv_aload_n hx hb dX4_has_6 rfl (lv_at hl 0 rfl) ?_
    refine lv_ifnull hx hb dX4_has_7 ?_
    refine lv_iload_n hx hb dX4_has_10 rfl (lv_at hl 3 rfl) ?_
    refine m_callfi (m_runS (As := [.int (iI u)]) (rest := []) ⟨hx, hb, hml, hown, hts⟩ (c_X4_isPlace l D b _ u hru) (va_cwS 1 hts gX4_has_X4_isPlace rfl rfl rfl (by decide +kernel) ⟨Nat.le_of_ble_eq_true rfl, Nat.le_of_ble_eq_true rfl⟩) K hG rfl hl.1 rfl (Nat.le_of_ble_eq_true rfl) dX4_has_11 ⟨Nat.le_of_ble_eq_true rfl, Nat.le_of_ble_eq_true rfl⟩) hS (fun H locs hG hS => ?_)
    have hG : mG D b M s H := hG
    refine m_ifb_eq (tgt := 36) hx hb dX4_has_14 (by decide) (fun c14 => ?_) (fun c14 => ?_)
    · refine lv_iconst (v := iI 0) hx hb dX4_has_36 rfl ?_
      exact m_zret hx hb hr hlk hQ hG hS (Nat.le_of_ble_eq_true rfl) (Nat.le_of_ble_eq_true rfl) dX4_has_37 (Or.inl rfl) ⟨congrArg iI (by first | rw [if_neg (fun z => by omega)] | rw [if_neg (fun z => c29 z.2.2)] | rw [if_pos ⟨by omega, by omega, c29⟩]), rfl⟩
    · refine lv_aload_n hx hb dX4_has_17 rfl (lv_at hl 0 rfl) ?_
      refine lv_iload_n hx hb dX4_has_18 rfl (lv_at hl 3 rfl) ?_
      refine m_callfi (m_runS (As := [.int (iI u)]) (rest := [.ref (ad 4 t.toNat 0)]) ⟨hx, hb, hml, hown, hts⟩ (c_X4_xOf l D b _ u (by omega) (by omega)) (va_cwS 1 hts gX4_has_X4_xOf rfl rfl rfl (by decide +kernel) ⟨Nat.le_of_ble_eq_true rfl, Nat.le_of_ble_eq_true rfl⟩) K hG rfl hl.1 rfl (Nat.le_of_ble_eq_true rfl) dX4_has_19 ⟨Nat.le_of_ble_eq_true rfl, Nat.le_of_ble_eq_true rfl⟩) hS (fun H locs hG hS => ?_)
      have hG : mG D b M s H := hG
      refine lv_iload_n hx hb dX4_has_22 rfl (lv_at hl 3 rfl) ?_
      refine m_callfi (m_runS (As := [.int (iI u)]) (rest := [.int (iI (u / 64)), .ref (ad 4 t.toNat 0)]) ⟨hx, hb, hml, hown, hts⟩ (c_X4_yOf l D b _ u (by omega) (by omega)) (va_cwS 1 hts gX4_has_X4_yOf rfl rfl rfl (by decide +kernel) ⟨Nat.le_of_ble_eq_true rfl, Nat.le_of_ble_eq_true rfl⟩) K hG rfl hl.1 rfl (Nat.le_of_ble_eq_true rfl) dX4_has_23 ⟨Nat.le_of_ble_eq_true rfl, Nat.le_of_ble_eq_true rfl⟩) hS (fun H locs hG hS => ?_)
      have hG : mG D b M s H := hG
      refine m_callfi (m_runV (a := ad 4 t.toNat 0) (As := [.int (iI (u / 64)), .int (iI (u % 64))]) (rest := []) ⟨hx, hb, hml, hown, hts⟩ (c_X1_holds l D b _ (ad 4 t.toNat 0) (ad 5 t.toNat 0) (G t.toNat) p1k1 p2k1 (u / 64) (u % 64) (by omega) (by omega) (by omega) (by omega)) (cwV 2 hts gX4_has_X1_holds rfl rfl rfl (by decide +kernel) ⟨Nat.le_of_ble_eq_true rfl, Nat.le_of_ble_eq_true rfl⟩) K hG p1k1 rfl rfl rfl hl.1 rfl (Nat.le_of_ble_eq_true rfl) dX4_has_26 ⟨Nat.le_of_ble_eq_true rfl, Nat.le_of_ble_eq_true rfl⟩) hS (fun H locs hG hS => ?_)
      have hG : mG D b M s H := hG
      refine m_ifb_eq (tgt := 36) hx hb dX4_has_29 (by decide) (fun c29 => ?_) (fun c29 => ?_)
      · refine lv_iconst (v := iI 0) hx hb dX4_has_36 rfl ?_
        exact m_zret hx hb hr hlk hQ hG hS (Nat.le_of_ble_eq_true rfl) (Nat.le_of_ble_eq_true rfl) dX4_has_37 (Or.inl rfl) ⟨congrArg iI (by first | rw [if_neg (fun z => by omega)] | rw [if_neg (fun z => c29 z.2.2)] | rw [if_pos ⟨by omega, by omega, c29⟩]), rfl⟩
      · refine lv_iconst (v := iI 1) hx hb dX4_has_32 rfl ?_
        refine lv_goto (tgt := 37) hx hb dX4_has_33 (by decide) ?_
        exact m_zret hx hb hr hlk hQ hG hS (Nat.le_of_ble_eq_true rfl) (Nat.le_of_ble_eq_true rfl) dX4_has_37 (Or.inr rfl) ⟨congrArg iI (by first | rw [if_neg (fun z => by omega)] | rw [if_neg (fun z => c29 z.2.2)] | rw [if_pos ⟨by omega, by omega, c29⟩]), rfl⟩
  · refine m_callfq (m_runV (a := ad 8 0 0) (As := [.int (iI t)]) (rest := []) ⟨hx, hb, hml, hown, hts⟩ (c_X4_groundOf_n l D b _ ad nt ng sp nn jj vt vw vr G hO t hrt hqk1) (cwV 1 hts gX4_has_X4_groundOf rfl rfl rfl (by decide +kernel) ⟨Nat.le_of_ble_eq_true rfl, Nat.le_of_ble_eq_true rfl⟩) K hG o1 rfl rfl rfl hl.1 rfl (Nat.le_of_ble_eq_true rfl) dX4_has_2 ⟨Nat.le_of_ble_eq_true rfl, Nat.le_of_ble_eq_true rfl⟩) hS (fun H locs hG hS => ?_)
    refine W.eq (g2 := F0 m 5 ls [.null]) rfl ?_
    have hG : mG D b M s H := hG
    refine lv_astore_nN (lv' := [(3, .null), (0, .ref (ad 8 0 0)), (1, .int (iI t)), (2, .int (iI u))]) hx hb dX4_has_5 rfl hl (by decide) rfl (fun ls hl => ?_)
    refine lv_aload_nN hx hb dX4_has_6 rfl (lv_at hl 0 rfl) ?_
    refine lv_ifnullN (tgt := 36) hx hb dX4_has_7 (by decide) ?_
    refine lv_iconst (v := iI 0) hx hb dX4_has_36 rfl ?_
    exact m_zret hx hb hr hlk hQ hG hS (Nat.le_of_ble_eq_true rfl) (Nat.le_of_ble_eq_true rfl) dX4_has_37 (Or.inl rfl) ⟨congrArg iI (by first | rw [if_neg (fun z => by omega)] | rw [if_neg (fun z => c29 z.2.2)] | rw [if_pos ⟨by omega, by omega, c29⟩]), rfl⟩

