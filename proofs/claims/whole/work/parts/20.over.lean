/-- the watch: all its cells by one address function; keys: 0 things, 1 their rows of ints, 2 their reach rows, 3 boxes, 4 places, 5 rows of places (0 to 3 grounds, 4 outside, 5 and on levels), 6 tally, 7 levels, 8 the object, 9 things' row, 10 grounds' row -/
abbrev Ov (ad : Nat → Nat → Nat → Nat) (nt ng : Int) : mE := .inr (4, [.ref (ad 9 0 0), .ref (ad 10 0 0), .ref (ad 4 4 0), .ref (ad 6 0 0), .int (iI nt), .int (iI ng)])
abbrev thGood (sp n : Int) (vt vw vr : Nat → Int) : Prop := (0 ≤ sp ∧ sp ≤ 7) ∧ (0 ≤ n ∧ n ≤ 12) ∧ sOk n vt vw vr ∧ ∀ t, t < 80 → neB (stF sp vt vw vr n.toNat) t
def OvOk (M : mM) (ad : Nat → Nat → Nat → Nat) (nt ng : Int) (sp nn jj : Nat → Int) (vt vw vr : Nat → Nat → Int) (G : Nat → Nat → Nat → Bool) : Prop :=
  M (ad 8 0 0) = some (Ov ad nt ng) ∧ (∃ tf, M (ad 9 0 0) = some (aQ RX3 6 tf) ∧ (∀ i : Nat, (i : Int) < nt → tf i = some (ad 0 i 0)) ∧ ∀ i : Nat, nt ≤ (i : Int) → tf i = none) ∧ (∃ gf, M (ad 10 0 0) = some (aQ RX1 4 gf) ∧ ∀ i : Nat, (i : Int) < ng → gf i = some (ad 4 i 0)) ∧
  (∀ i : Nat, (i : Int) < nt → (∃ rf, ThOk M (ad 0 i 0) (ad 1 i 0) (ad 1 i 1) (ad 1 i 2) (ad 2 i 0) rf (ad 3 i) (sp i) (nn i) (jj i) (vt i) (vw i) (vr i) (stF (sp i) (vt i) (vw i) (vr i) (nn i).toNat)) ∧ thGood (sp i) (nn i) (vt i) (vw i) (vr i)) ∧
  (∀ i : Nat, (i : Int) < ng → M (ad 4 i 0) = some (Pl (ad 5 i 0)) ∧ M (ad 5 i 0) = some (aL 64 (G i))) ∧
  (∃ SO, M (ad 4 4 0) = some (Pl (ad 5 4 0)) ∧ M (ad 5 4 0) = some (aL 64 SO)) ∧
  (∃ lf f g S, TaOk M (ad 6 0 0) (ad 7 0 0) lf (fun k => ad 4 (5 + k) 0) (fun k => ad 5 (5 + k) 0) f g S) ∧ (0 ≤ nt ∧ nt ≤ 6 ∧ 0 ≤ ng ∧ ng ≤ 4)
/-- STATE as a number -/
noncomputable def stN (S : Nat → Nat → Bool) (F : Nat → Nat → Int) (t : Nat) : Int := tf (∃ a c : Nat, F t 0 ≤ a ∧ (a : Int) ≤ F t 1 ∧ F t 2 ≤ c ∧ (c : Int) ≤ F t 3 ∧ S a c = true) * (1 + tf (∀ a c : Nat, F t 0 ≤ a → (a : Int) ≤ F t 1 → F t 2 ≤ c → (c : Int) ≤ F t 3 → S a c = true))
theorem stN_rg (S : Nat → Nat → Bool) (F : Nat → Nat → Int) (t : Nat) : 0 ≤ stN S F t ∧ stN S F t ≤ 2 := by
  unfold stN
  generalize (∃ a c : Nat, F t 0 ≤ a ∧ (a : Int) ≤ F t 1 ∧ F t 2 ≤ c ∧ (c : Int) ≤ F t 3 ∧ S a c = true) = P
  generalize (∀ a c : Nat, F t 0 ≤ a → (a : Int) ≤ F t 1 → F t 2 ≤ c → (c : Int) ≤ F t 3 → S a c = true) = R
  rcases Classical.em P with h | h <;> rcases Classical.em R with g | g <;> simp [tf_t, tf_f, h, g]

set_option maxHeartbeats 4000000 in
set_option maxRecDepth 100000 in
theorem c_X4_thingOf_y (l : Launch) (D : va_G) (b : Nat) (M : mM) (ad : Nat → Nat → Nat → Nat) (nt ng : Int) (sp nn jj : Nat → Int) (vt vw vr : Nat → Nat → Int) (G : Nat → Nat → Nat → Bool) (hO : OvOk M ad nt ng sp nn jj vt vw vr G) (t : Int) (hr0 : rg t) (hq : 0 ≤ t ∧ t < nt) : Met l yX4_thingOf wsX4_thingOf ({ frames := 0, cells := 0, slots := 0, locals := 0 } : Room) (mPc [.ref (ad 8 0 0), .int (iI t)] D b M) (mQq D b (fQ (some (ad 0 t.toNat 0)) M)) 0 0 (mF b) := by
  refine m_met (cc := cX4_thingOf) (maxL := 2) (ret := (some (.object "OverLine$Thing"))) (by decide) rfl (Nat.le_of_ble_eq_true rfl) ?_
  intro p e s m args below meth c Q ls hx hb hml hr hts hown hlk hnm hQ K hG hS hl
  have hown : s.vm.findClass RX4 = some m.cls := hown
  have hl : lv_has ls 2 [(0, .ref (ad 8 0 0)), (1, .int (iI t))] := hl
  obtain ⟨o1, ⟨tf0, o2, o3, o3n⟩, ⟨gf0, o4, o5⟩, oT, oG, ⟨SO, o6, o7⟩, oA, ⟨b1, b2, b3, b4⟩⟩ := id hO
  refine lv_iload_n hx hb dX4_thingOf_0 rfl (lv_at hl 1 rfl) ?_
  refine m_if_lt (tgt := 21) hx hb dX4_thingOf_1 (by decide) hr0 (fun c1 => ?_) (fun c1 => ?_)
  · refine lv_null hx hb dX4_thingOf_21 ?_
    exact m_aret none rfl hx hb hr hlk hQ hG hS (Nat.le_of_ble_eq_true rfl) (Nat.le_of_ble_eq_true rfl) dX4_thingOf_22 (absurd hq (by omega))
  · refine lv_iload_n hx hb dX4_thingOf_4 rfl (lv_at hl 1 rfl) ?_
    refine lv_aload_n hx hb dX4_thingOf_5 rfl (lv_at hl 0 rfl) ?_
    refine m_get (ci := 4) (v := .int (iI nt)) (C := RX4) (T := TX4) (N := 6) hx hb hts (by decide +kernel) hown K hG o1 rfl 4 (by decide) (by decide +kernel) rfl dX4_thingOf_6 ?_
    refine m_icmp_ge (tgt := 21) hx hb dX4_thingOf_9 (by decide) hr0 ⟨by omega, by omega⟩ (fun c9 => ?_) (fun c9 => ?_)
    · refine lv_null hx hb dX4_thingOf_21 ?_
      exact m_aret none rfl hx hb hr hlk hQ hG hS (Nat.le_of_ble_eq_true rfl) (Nat.le_of_ble_eq_true rfl) dX4_thingOf_22 (absurd hq (by omega))
    · refine lv_aload_n hx hb dX4_thingOf_12 rfl (lv_at hl 0 rfl) ?_
      refine m_get (ci := 4) (v := .ref (ad 9 0 0)) (C := RX4) (T := TX4) (N := 6) hx hb hts (by decide +kernel) hown K hG o1 rfl 0 (by decide) (by decide +kernel) rfl dX4_thingOf_13 ?_
      refine lv_iload_n hx hb dX4_thingOf_16 rfl (lv_at hl 1 rfl) ?_
      refine m_aald hx hb hG o2 t.toNat (by omega) (by omega) (by decide) (o3 t.toNat (by omega)) dX4_thingOf_17 ?_
      refine lv_goto (tgt := 22) hx hb dX4_thingOf_18 (by decide) ?_
      exact m_aret (some (ad 0 t.toNat 0)) rfl hx hb hr hlk hQ hG hS (Nat.le_of_ble_eq_true rfl) (Nat.le_of_ble_eq_true rfl) dX4_thingOf_22 ⟨rfl, rfl⟩

set_option maxHeartbeats 4000000 in
set_option maxRecDepth 100000 in
theorem c_X4_thingOf_n (l : Launch) (D : va_G) (b : Nat) (M : mM) (ad : Nat → Nat → Nat → Nat) (nt ng : Int) (sp nn jj : Nat → Int) (vt vw vr : Nat → Nat → Int) (G : Nat → Nat → Nat → Bool) (hO : OvOk M ad nt ng sp nn jj vt vw vr G) (t : Int) (hr0 : rg t) (hq : ¬ (0 ≤ t ∧ t < nt)) : Met l yX4_thingOf wsX4_thingOf ({ frames := 0, cells := 0, slots := 0, locals := 0 } : Room) (mPc [.ref (ad 8 0 0), .int (iI t)] D b M) (mQq D b (fQ none M)) 0 0 (mF b) := by
  refine m_met (cc := cX4_thingOf) (maxL := 2) (ret := (some (.object "OverLine$Thing"))) (by decide) rfl (Nat.le_of_ble_eq_true rfl) ?_
  intro p e s m args below meth c Q ls hx hb hml hr hts hown hlk hnm hQ K hG hS hl
  have hown : s.vm.findClass RX4 = some m.cls := hown
  have hl : lv_has ls 2 [(0, .ref (ad 8 0 0)), (1, .int (iI t))] := hl
  obtain ⟨o1, ⟨tf0, o2, o3, o3n⟩, ⟨gf0, o4, o5⟩, oT, oG, ⟨SO, o6, o7⟩, oA, ⟨b1, b2, b3, b4⟩⟩ := id hO
  refine lv_iload_n hx hb dX4_thingOf_0 rfl (lv_at hl 1 rfl) ?_
  refine m_if_lt (tgt := 21) hx hb dX4_thingOf_1 (by decide) hr0 (fun c1 => ?_) (fun c1 => ?_)
  · refine lv_null hx hb dX4_thingOf_21 ?_
    exact m_aret none rfl hx hb hr hlk hQ hG hS (Nat.le_of_ble_eq_true rfl) (Nat.le_of_ble_eq_true rfl) dX4_thingOf_22 ⟨rfl, rfl⟩
  · refine lv_iload_n hx hb dX4_thingOf_4 rfl (lv_at hl 1 rfl) ?_
    refine lv_aload_n hx hb dX4_thingOf_5 rfl (lv_at hl 0 rfl) ?_
    refine m_get (ci := 4) (v := .int (iI nt)) (C := RX4) (T := TX4) (N := 6) hx hb hts (by decide +kernel) hown K hG o1 rfl 4 (by decide) (by decide +kernel) rfl dX4_thingOf_6 ?_
    refine m_icmp_ge (tgt := 21) hx hb dX4_thingOf_9 (by decide) hr0 ⟨by omega, by omega⟩ (fun c9 => ?_) (fun c9 => ?_)
    · refine lv_null hx hb dX4_thingOf_21 ?_
      exact m_aret none rfl hx hb hr hlk hQ hG hS (Nat.le_of_ble_eq_true rfl) (Nat.le_of_ble_eq_true rfl) dX4_thingOf_22 ⟨rfl, rfl⟩
    · refine lv_aload_n hx hb dX4_thingOf_12 rfl (lv_at hl 0 rfl) ?_
      refine m_get (ci := 4) (v := .ref (ad 9 0 0)) (C := RX4) (T := TX4) (N := 6) hx hb hts (by decide +kernel) hown K hG o1 rfl 0 (by decide) (by decide +kernel) rfl dX4_thingOf_13 ?_
      refine lv_iload_n hx hb dX4_thingOf_16 rfl (lv_at hl 1 rfl) ?_
      refine m_aald hx hb hG o2 t.toNat (by omega) (by omega) (by decide) (o3 t.toNat (by omega)) dX4_thingOf_17 ?_
      refine lv_goto (tgt := 22) hx hb dX4_thingOf_18 (by decide) ?_
      exact m_aret (some (ad 0 t.toNat 0)) rfl hx hb hr hlk hQ hG hS (Nat.le_of_ble_eq_true rfl) (Nat.le_of_ble_eq_true rfl) dX4_thingOf_22 (absurd (show 0 ≤ t ∧ t < nt by omega) hq)

set_option maxHeartbeats 4000000 in
set_option maxRecDepth 100000 in
theorem c_X4_groundOf_y (l : Launch) (D : va_G) (b : Nat) (M : mM) (ad : Nat → Nat → Nat → Nat) (nt ng : Int) (sp nn jj : Nat → Int) (vt vw vr : Nat → Nat → Int) (G : Nat → Nat → Nat → Bool) (hO : OvOk M ad nt ng sp nn jj vt vw vr G) (t : Int) (hr0 : rg t) (hq : 0 ≤ t ∧ t < ng) : Met l yX4_groundOf wsX4_groundOf ({ frames := 0, cells := 0, slots := 0, locals := 0 } : Room) (mPc [.ref (ad 8 0 0), .int (iI t)] D b M) (mQq D b (fQ (some (ad 4 t.toNat 0)) M)) 0 0 (mF b) := by
  refine m_met (cc := cX4_groundOf) (maxL := 2) (ret := (some (.object "OverLine$Places"))) (by decide) rfl (Nat.le_of_ble_eq_true rfl) ?_
  intro p e s m args below meth c Q ls hx hb hml hr hts hown hlk hnm hQ K hG hS hl
  have hown : s.vm.findClass RX4 = some m.cls := hown
  have hl : lv_has ls 2 [(0, .ref (ad 8 0 0)), (1, .int (iI t))] := hl
  obtain ⟨o1, ⟨tf0, o2, o3, o3n⟩, ⟨gf0, o4, o5⟩, oT, oG, ⟨SO, o6, o7⟩, oA, ⟨b1, b2, b3, b4⟩⟩ := id hO
  refine lv_iload_n hx hb dX4_groundOf_0 rfl (lv_at hl 1 rfl) ?_
  refine m_if_lt (tgt := 21) hx hb dX4_groundOf_1 (by decide) hr0 (fun c1 => ?_) (fun c1 => ?_)
  · refine lv_null hx hb dX4_groundOf_21 ?_
    exact m_aret none rfl hx hb hr hlk hQ hG hS (Nat.le_of_ble_eq_true rfl) (Nat.le_of_ble_eq_true rfl) dX4_groundOf_22 (absurd hq (by omega))
  · refine lv_iload_n hx hb dX4_groundOf_4 rfl (lv_at hl 1 rfl) ?_
    refine lv_aload_n hx hb dX4_groundOf_5 rfl (lv_at hl 0 rfl) ?_
    refine m_get (ci := 4) (v := .int (iI ng)) (C := RX4) (T := TX4) (N := 6) hx hb hts (by decide +kernel) hown K hG o1 rfl 5 (by decide) (by decide +kernel) rfl dX4_groundOf_6 ?_
    refine m_icmp_ge (tgt := 21) hx hb dX4_groundOf_9 (by decide) hr0 ⟨by omega, by omega⟩ (fun c9 => ?_) (fun c9 => ?_)
    · refine lv_null hx hb dX4_groundOf_21 ?_
      exact m_aret none rfl hx hb hr hlk hQ hG hS (Nat.le_of_ble_eq_true rfl) (Nat.le_of_ble_eq_true rfl) dX4_groundOf_22 (absurd hq (by omega))
    · refine lv_aload_n hx hb dX4_groundOf_12 rfl (lv_at hl 0 rfl) ?_
      refine m_get (ci := 4) (v := .ref (ad 10 0 0)) (C := RX4) (T := TX4) (N := 6) hx hb hts (by decide +kernel) hown K hG o1 rfl 1 (by decide) (by decide +kernel) rfl dX4_groundOf_13 ?_
      refine lv_iload_n hx hb dX4_groundOf_16 rfl (lv_at hl 1 rfl) ?_
      refine m_aald hx hb hG o4 t.toNat (by omega) (by omega) (by decide) (o5 t.toNat (by omega)) dX4_groundOf_17 ?_
      refine lv_goto (tgt := 22) hx hb dX4_groundOf_18 (by decide) ?_
      exact m_aret (some (ad 4 t.toNat 0)) rfl hx hb hr hlk hQ hG hS (Nat.le_of_ble_eq_true rfl) (Nat.le_of_ble_eq_true rfl) dX4_groundOf_22 ⟨rfl, rfl⟩

set_option maxHeartbeats 4000000 in
set_option maxRecDepth 100000 in
theorem c_X4_groundOf_n (l : Launch) (D : va_G) (b : Nat) (M : mM) (ad : Nat → Nat → Nat → Nat) (nt ng : Int) (sp nn jj : Nat → Int) (vt vw vr : Nat → Nat → Int) (G : Nat → Nat → Nat → Bool) (hO : OvOk M ad nt ng sp nn jj vt vw vr G) (t : Int) (hr0 : rg t) (hq : ¬ (0 ≤ t ∧ t < ng)) : Met l yX4_groundOf wsX4_groundOf ({ frames := 0, cells := 0, slots := 0, locals := 0 } : Room) (mPc [.ref (ad 8 0 0), .int (iI t)] D b M) (mQq D b (fQ none M)) 0 0 (mF b) := by
  refine m_met (cc := cX4_groundOf) (maxL := 2) (ret := (some (.object "OverLine$Places"))) (by decide) rfl (Nat.le_of_ble_eq_true rfl) ?_
  intro p e s m args below meth c Q ls hx hb hml hr hts hown hlk hnm hQ K hG hS hl
  have hown : s.vm.findClass RX4 = some m.cls := hown
  have hl : lv_has ls 2 [(0, .ref (ad 8 0 0)), (1, .int (iI t))] := hl
  obtain ⟨o1, ⟨tf0, o2, o3, o3n⟩, ⟨gf0, o4, o5⟩, oT, oG, ⟨SO, o6, o7⟩, oA, ⟨b1, b2, b3, b4⟩⟩ := id hO
  refine lv_iload_n hx hb dX4_groundOf_0 rfl (lv_at hl 1 rfl) ?_
  refine m_if_lt (tgt := 21) hx hb dX4_groundOf_1 (by decide) hr0 (fun c1 => ?_) (fun c1 => ?_)
  · refine lv_null hx hb dX4_groundOf_21 ?_
    exact m_aret none rfl hx hb hr hlk hQ hG hS (Nat.le_of_ble_eq_true rfl) (Nat.le_of_ble_eq_true rfl) dX4_groundOf_22 ⟨rfl, rfl⟩
  · refine lv_iload_n hx hb dX4_groundOf_4 rfl (lv_at hl 1 rfl) ?_
    refine lv_aload_n hx hb dX4_groundOf_5 rfl (lv_at hl 0 rfl) ?_
    refine m_get (ci := 4) (v := .int (iI ng)) (C := RX4) (T := TX4) (N := 6) hx hb hts (by decide +kernel) hown K hG o1 rfl 5 (by decide) (by decide +kernel) rfl dX4_groundOf_6 ?_
    refine m_icmp_ge (tgt := 21) hx hb dX4_groundOf_9 (by decide) hr0 ⟨by omega, by omega⟩ (fun c9 => ?_) (fun c9 => ?_)
    · refine lv_null hx hb dX4_groundOf_21 ?_
      exact m_aret none rfl hx hb hr hlk hQ hG hS (Nat.le_of_ble_eq_true rfl) (Nat.le_of_ble_eq_true rfl) dX4_groundOf_22 ⟨rfl, rfl⟩
    · refine lv_aload_n hx hb dX4_groundOf_12 rfl (lv_at hl 0 rfl) ?_
      refine m_get (ci := 4) (v := .ref (ad 10 0 0)) (C := RX4) (T := TX4) (N := 6) hx hb hts (by decide +kernel) hown K hG o1 rfl 1 (by decide) (by decide +kernel) rfl dX4_groundOf_13 ?_
      refine lv_iload_n hx hb dX4_groundOf_16 rfl (lv_at hl 1 rfl) ?_
      refine m_aald hx hb hG o4 t.toNat (by omega) (by omega) (by decide) (o5 t.toNat (by omega)) dX4_groundOf_17 ?_
      refine lv_goto (tgt := 22) hx hb dX4_groundOf_18 (by decide) ?_
      exact m_aret (some (ad 4 t.toNat 0)) rfl hx hb hr hlk hQ hG hS (Nat.le_of_ble_eq_true rfl) (Nat.le_of_ble_eq_true rfl) dX4_groundOf_22 (absurd (show 0 ≤ t ∧ t < ng by omega) hq)

set_option maxHeartbeats 4000000 in
set_option maxRecDepth 100000 in
theorem c_X4_stateOf (l : Launch) (D : va_G) (b : Nat) (M : mM) (th tk wh ra rc : Nat) (rf : Nat → Option Nat) (bx : Nat → Nat) (sp n j : Int) (vt vw vr : Nat → Int) (F : Nat → Nat → Int) (hT : ThOk M th tk wh ra rc rf bx sp n j vt vw vr F) (h r : Nat) (S : Nat → Nat → Bool) (hp : M h = some (Pl r)) (h2 : M r = some (aL 64 S)) (t0 : Int) (ht0 : 0 ≤ t0) (ht1 : t0 < 80) (hR : in63 F) (hne : neB F t0.toNat) : Met l yX4_stateOf wsX4_stateOf ({ frames := 2, cells := 0, slots := 0, locals := 44 } : Room) (mPc [.ref th, .ref h, .int (iI t0)] D b M) (mQi D b (fI (stN S F t0.toNat) M)) 0 0 (mF b) := by
  refine m_met (cc := cX4_stateOf) (maxL := 4) (ret := (some .int)) (by decide) rfl (Nat.le_of_ble_eq_true rfl) ?_
  intro p e s m args below meth c Q ls hx hb hml hr hts hown hlk hnm hQ K hG hS hl
  have hown : s.vm.findClass RX4 = some m.cls := hown
  have hl : lv_has ls 4 [(0, .ref th), (1, .ref h), (2, .int (iI t0))] := hl
  obtain ⟨h1, ht, hw, hra, hrc, hrf, hB, ⟨n1, n2, n3⟩, inj⟩ := id hT
  have nth : ∀ t, t < 80 → th ≠ bx t := fun t q => mne h1 (hB t q) (by intro h; cases h)
  have ntk : ∀ t, t < 80 → tk ≠ bx t := fun t q => mne ht (hB t q) (by intro h; cases h)
  have nwh : ∀ t, t < 80 → wh ≠ bx t := fun t q => mne hw (hB t q) (by intro h; cases h)
  have nra : ∀ t, t < 80 → ra ≠ bx t := fun t q => mne hra (hB t q) (by intro h; cases h)
  have nrc : ∀ t, t < 80 → rc ≠ bx t := fun t q => mne hrc (hB t q) (by intro h; cases h)
  refine lv_aload_n hx hb dX4_stateOf_0 rfl (lv_at hl 0 rfl) ?_
  refine lv_iload_n hx hb dX4_stateOf_1 rfl (lv_at hl 2 rfl) ?_
  refine m_callfq (m_runV (a := th) (As := [.int (iI t0)]) (rest := []) ⟨hx, hb, hml, hown, hts⟩ (c_X3_reachAt l D b _ th tk wh ra rc rf bx sp n j vt vw vr F hT t0 ht0 ht1) (cwV 1 hts gX4_stateOf_X3_reachAt rfl rfl rfl (by decide +kernel) ⟨Nat.le_of_ble_eq_true rfl, Nat.le_of_ble_eq_true rfl⟩) K hG h1 rfl rfl rfl hl.1 rfl (Nat.le_of_ble_eq_true rfl) dX4_stateOf_2 ⟨Nat.le_of_ble_eq_true rfl, Nat.le_of_ble_eq_true rfl⟩) hS (fun H locs hG hS => ?_)
  refine W.eq (g2 := F0 m 5 ls [.ref (bx t0.toNat)]) rfl ?_
  have hG : mG D b M s H := hG
  refine lv_astore_n (lv' := [(3, .ref (bx t0.toNat)), (0, .ref th), (1, .ref h), (2, .int (iI t0))]) hx hb dX4_stateOf_5 rfl hl (by decide) rfl (fun ls hl => ?_)
  refine lv_aload_n hx hb dX4_stateOf_6 rfl (lv_at hl 2 rfl) ?_
  refine lv_aload_n hx hb dX4_stateOf_7 rfl (lv_at hl 0 rfl) ?_
  refine m_callfi (m_runV (a := h) (As := [.ref (bx t0.toNat)]) (rest := []) ⟨hx, hb, hml, hown, hts⟩ (c_X1_meets l D b _ h r S hp h2 (bx t0.toNat) (F t0.toNat 0) (F t0.toNat 1) (F t0.toNat 2) (F t0.toNat 3) (hB t0.toNat (by omega)) (hR t0.toNat 0).1 hne.1 (hR t0.toNat 1).2 (hR t0.toNat 2).1 hne.2 (hR t0.toNat 3).2) (cwV 1 hts gX4_stateOf_X1_meets rfl rfl rfl (by decide +kernel) ⟨Nat.le_of_ble_eq_true rfl, Nat.le_of_ble_eq_true rfl⟩) K hG hp rfl rfl rfl hl.1 rfl (Nat.le_of_ble_eq_true rfl) dX4_stateOf_8 ⟨Nat.le_of_ble_eq_true rfl, Nat.le_of_ble_eq_true rfl⟩) hS (fun H locs hG hS => ?_)
  have hG : mG D b M s H := hG
  refine m_ift_ne (tgt := 16) hx hb dX4_stateOf_11 (by decide) (fun c11 => ?_) (fun c11 => ?_)
  · refine lv_aload_n hx hb dX4_stateOf_16 rfl (lv_at hl 2 rfl) ?_
    refine lv_aload_n hx hb dX4_stateOf_17 rfl (lv_at hl 0 rfl) ?_
    refine m_callfi (m_runV (a := h) (As := [.ref (bx t0.toNat)]) (rest := []) ⟨hx, hb, hml, hown, hts⟩ (c_X1_covers l D b _ h r S hp h2 (bx t0.toNat) (F t0.toNat 0) (F t0.toNat 1) (F t0.toNat 2) (F t0.toNat 3) (hB t0.toNat (by omega)) (hR t0.toNat 0).1 hne.1 (hR t0.toNat 1).2 (hR t0.toNat 2).1 hne.2 (hR t0.toNat 3).2) (cwV 1 hts gX4_stateOf_X1_covers rfl rfl rfl (by decide +kernel) ⟨Nat.le_of_ble_eq_true rfl, Nat.le_of_ble_eq_true rfl⟩) K hG hp rfl rfl rfl hl.1 rfl (Nat.le_of_ble_eq_true rfl) dX4_stateOf_18 ⟨Nat.le_of_ble_eq_true rfl, Nat.le_of_ble_eq_true rfl⟩) hS (fun H locs hG hS => ?_)
    have hG : mG D b M s H := hG
    refine m_ift_eq (tgt := 28) hx hb dX4_stateOf_21 (by decide) (fun c21 => ?_) (fun c21 => ?_)
    · refine lv_iconst (v := iI 1) hx hb dX4_stateOf_28 rfl ?_
      exact m_iret hx hb hr hlk hQ hG hS (Nat.le_of_ble_eq_true rfl) (Nat.le_of_ble_eq_true rfl) dX4_stateOf_29 ⟨congrArg iI (by unfold stN; rw [tf_t c11, tf_f c21]; rfl), rfl⟩
    · refine lv_iconst (v := iI 2) hx hb dX4_stateOf_24 rfl ?_
      refine lv_goto (tgt := 29) hx hb dX4_stateOf_25 (by decide) ?_
      exact m_iret hx hb hr hlk hQ hG hS (Nat.le_of_ble_eq_true rfl) (Nat.le_of_ble_eq_true rfl) dX4_stateOf_29 ⟨congrArg iI (by unfold stN; rw [tf_t c11, tf_t c21]; rfl), rfl⟩
  · refine lv_iconst (v := iI 0) hx hb dX4_stateOf_14 rfl ?_
    exact m_iret hx hb hr hlk hQ hG hS (Nat.le_of_ble_eq_true rfl) (Nat.le_of_ble_eq_true rfl) dX4_stateOf_15 ⟨congrArg iI (by unfold stN; rw [tf_f c11, Int.zero_mul]), rfl⟩

set_option maxHeartbeats 4000000 in
set_option maxRecDepth 100000 in
theorem c_X4_jumps (l : Launch) (D : va_G) (b : Nat) (M : mM) (ad : Nat → Nat → Nat → Nat) (nt ng : Int) (sp nn jj : Nat → Int) (vt vw vr : Nat → Nat → Int) (G : Nat → Nat → Nat → Bool) (hO : OvOk M ad nt ng sp nn jj vt vw vr G) (t : Int) (hrt : rg t) : Met l yX4_jumps wsX4_jumps ({ frames := 1, cells := 0, slots := 0, locals := 21 } : Room) (mPc [.ref (ad 8 0 0), .int (iI t)] D b M) (mQi D b (fI (if 0 ≤ t ∧ t < nt then jj t.toNat else -1) M)) 0 0 (mF b) := by
  refine m_met (cc := cX4_jumps) (maxL := 3) (ret := (some .int)) (by decide) rfl (Nat.le_of_ble_eq_true rfl) ?_
  intro p e s m args below meth c Q ls hx hb hml hr hts hown hlk hnm hQ K hG hS hl
  have hown : s.vm.findClass RX4 = some m.cls := hown
  have hl : lv_has ls 3 [(0, .ref (ad 8 0 0)), (1, .int (iI t))] := hl
  obtain ⟨o1, ⟨tf0, o2, o3, o3n⟩, ⟨gf0, o4, o5⟩, oT, oG, ⟨SO, o6, o7⟩, oA, ⟨b1, b2, b3, b4⟩⟩ := id hO
  refine lv_aload_n hx hb dX4_jumps_0 rfl (lv_at hl 0 rfl) ?_
  refine lv_iload_n hx hb dX4_jumps_1 rfl (lv_at hl 1 rfl) ?_
  rcases Classical.em (0 ≤ t ∧ t < nt) with hqk1 | hqk1
  · obtain ⟨⟨rfk1, hTk1⟩, ⟨hs0k1, hs1k1⟩, ⟨hn0k1, hn1k1⟩, sok1, nek1⟩ := oT t.toNat (by omega)
    have hRk1 : in63 (stF (sp t.toNat) (vt t.toNat) (vw t.toNat) (vr t.toNat) (nn t.toNat).toNat) := stF_rg hs0k1 (fun k hk => (sok1 k (by omega)).2)
    obtain ⟨t1k1, t2k1, t3k1, t4k1, t5k1, t6k1, hBk1, -, -⟩ := id hTk1
    refine m_callfq (m_runV (a := ad 8 0 0) (As := [.int (iI t)]) (rest := []) ⟨hx, hb, hml, hown, hts⟩ (c_X4_thingOf_y l D b _ ad nt ng sp nn jj vt vw vr G hO t hrt hqk1) (cwV 1 hts gX4_jumps_X4_thingOf rfl rfl rfl (by decide +kernel) ⟨Nat.le_of_ble_eq_true rfl, Nat.le_of_ble_eq_true rfl⟩) K hG o1 rfl rfl rfl hl.1 rfl (Nat.le_of_ble_eq_true rfl) dX4_jumps_2 ⟨Nat.le_of_ble_eq_true rfl, Nat.le_of_ble_eq_true rfl⟩) hS (fun H locs hG hS => ?_)
    refine W.eq (g2 := F0 m 5 ls [.ref (ad 0 t.toNat 0)]) rfl ?_
    have hG : mG D b M s H := hG
    refine lv_astore_n (lv' := [(2, .ref (ad 0 t.toNat 0)), (0, .ref (ad 8 0 0)), (1, .int (iI t))]) hx hb dX4_jumps_5 rfl hl (by decide) rfl (fun ls hl => ?_)
    refine lv_aload_n hx hb dX4_jumps_6 rfl (lv_at hl 0 rfl) ?_
    refine lv_ifnonnull (tgt := 14) hx hb dX4_jumps_7 (by decide) ?_
    refine lv_aload_n hx hb dX4_jumps_14 rfl (lv_at hl 0 rfl) ?_
    refine m_callfi (m_runV (a := ad 0 t.toNat 0) (As := []) (rest := []) ⟨hx, hb, hml, hown, hts⟩ (c_X3_leftOut l D b _ (ad 0 t.toNat 0) (ad 1 t.toNat 0) (ad 1 t.toNat 1) (ad 1 t.toNat 2) (ad 2 t.toNat 0) rfk1 (ad 3 t.toNat) (sp t.toNat) (nn t.toNat) (jj t.toNat) (vt t.toNat) (vw t.toNat) (vr t.toNat) (stF (sp t.toNat) (vt t.toNat) (vw t.toNat) (vr t.toNat) (nn t.toNat).toNat) hTk1) (cwV 0 hts gX4_jumps_X3_leftOut rfl rfl rfl (by decide +kernel) ⟨Nat.le_of_ble_eq_true rfl, Nat.le_of_ble_eq_true rfl⟩) K hG t1k1 rfl rfl rfl hl.1 rfl (Nat.le_of_ble_eq_true rfl) dX4_jumps_15 ⟨Nat.le_of_ble_eq_true rfl, Nat.le_of_ble_eq_true rfl⟩) hS (fun H locs hG hS => ?_)
    have hG : mG D b M s H := hG
    exact m_iret hx hb hr hlk hQ hG hS (Nat.le_of_ble_eq_true rfl) (Nat.le_of_ble_eq_true rfl) dX4_jumps_18 ⟨congrArg iI (by rw [if_pos hqk1]), rfl⟩
  · refine m_callfq (m_runV (a := ad 8 0 0) (As := [.int (iI t)]) (rest := []) ⟨hx, hb, hml, hown, hts⟩ (c_X4_thingOf_n l D b _ ad nt ng sp nn jj vt vw vr G hO t hrt hqk1) (cwV 1 hts gX4_jumps_X4_thingOf rfl rfl rfl (by decide +kernel) ⟨Nat.le_of_ble_eq_true rfl, Nat.le_of_ble_eq_true rfl⟩) K hG o1 rfl rfl rfl hl.1 rfl (Nat.le_of_ble_eq_true rfl) dX4_jumps_2 ⟨Nat.le_of_ble_eq_true rfl, Nat.le_of_ble_eq_true rfl⟩) hS (fun H locs hG hS => ?_)
    refine W.eq (g2 := F0 m 5 ls [.null]) rfl ?_
    have hG : mG D b M s H := hG
    refine lv_astore_nN (lv' := [(2, .null), (0, .ref (ad 8 0 0)), (1, .int (iI t))]) hx hb dX4_jumps_5 rfl hl (by decide) rfl (fun ls hl => ?_)
    refine lv_aload_nN hx hb dX4_jumps_6 rfl (lv_at hl 0 rfl) ?_
    refine lv_ifnonnullN hx hb dX4_jumps_7 ?_
    refine lv_iconst (v := iI (-1)) hx hb dX4_jumps_10 rfl ?_
    refine lv_goto (tgt := 18) hx hb dX4_jumps_11 (by decide) ?_
    exact m_iret hx hb hr hlk hQ hG hS (Nat.le_of_ble_eq_true rfl) (Nat.le_of_ble_eq_true rfl) dX4_jumps_18 ⟨congrArg iI (by rw [if_neg hqk1]), rfl⟩

theorem lk_out {x a b e : Int} (h : x < 0 ∨ 1 < x) : Op.lookupswitch.offset [(0, a), (1, b)] e x = e := by
  have h0 : ¬ ((0 : Int) = x) := by omega
  have h1 : ¬ ((1 : Int) = x) := by omega
  have h0' : ¬ (x = (0 : Int)) := by omega
  have h1' : ¬ (x = (1 : Int)) := by omega
  simp [Op.lookupswitch.offset, h0, h1, h0', h1']
/-- WHERE, as a number -/
def whN (F : Nat → Nat → Int) (t : Nat) (w : Int) : Int := if w = 0 then F t 0 else if w = 1 then F t 1 else if w = 2 then F t 2 else if w = 3 then F t 3 else if w = 4 then (F t 1 - F t 0 + 1) * (F t 3 - F t 2 + 1) else -1
set_option maxHeartbeats 4000000 in
set_option maxRecDepth 100000 in
theorem c_X4_where (l : Launch) (D : va_G) (b : Nat) (M : mM) (ad : Nat → Nat → Nat → Nat) (nt ng : Int) (sp nn jj : Nat → Int) (vt vw vr : Nat → Nat → Int) (G : Nat → Nat → Nat → Bool) (hO : OvOk M ad nt ng sp nn jj vt vw vr G) (t u w : Int) (hrt : rg t) (hru : rg u) (hrw : rg w) : Met l yX4_where wsX4_where ({ frames := 1, cells := 0, slots := 0, locals := 21 } : Room) (mPc [.ref (ad 8 0 0), .int (iI t), .int (iI u), .int (iI w)] D b M) (mQi D b (fI (if (0 ≤ t ∧ t < nt) ∧ (0 ≤ u ∧ u < 80) then whN (stF (sp t.toNat) (vt t.toNat) (vw t.toNat) (vr t.toNat) (nn t.toNat).toNat) u.toNat w else -1) M)) 0 0 (mF b) := by
  refine m_met (cc := cX4_where) (maxL := 6) (ret := (some .int)) (by decide) rfl (Nat.le_of_ble_eq_true rfl) ?_
  intro p e s m args below meth c Q ls hx hb hml hr hts hown hlk hnm hQ K hG hS hl
  have hown : s.vm.findClass RX4 = some m.cls := hown
  have hl : lv_has ls 6 [(0, .ref (ad 8 0 0)), (1, .int (iI t)), (2, .int (iI u)), (3, .int (iI w))] := hl
  obtain ⟨o1, ⟨tf0, o2, o3, o3n⟩, ⟨gf0, o4, o5⟩, oT, oG, ⟨SO, o6, o7⟩, oA, ⟨b1, b2, b3, b4⟩⟩ := id hO
  refine lv_aload_n hx hb dX4_where_0 rfl (lv_at hl 0 rfl) ?_
  refine lv_iload_n hx hb dX4_where_1 rfl (lv_at hl 1 rfl) ?_
  rcases Classical.em (0 ≤ t ∧ t < nt) with hqk1 | hqk1
  · obtain ⟨⟨rfk1, hTk1⟩, ⟨hs0k1, hs1k1⟩, ⟨hn0k1, hn1k1⟩, sok1, nek1⟩ := oT t.toNat (by omega)
    have hRk1 : in63 (stF (sp t.toNat) (vt t.toNat) (vw t.toNat) (vr t.toNat) (nn t.toNat).toNat) := stF_rg hs0k1 (fun k hk => (sok1 k (by omega)).2)
    obtain ⟨t1k1, t2k1, t3k1, t4k1, t5k1, t6k1, hBk1, -, -⟩ := id hTk1
    refine m_callfq (m_runV (a := ad 8 0 0) (As := [.int (iI t)]) (rest := []) ⟨hx, hb, hml, hown, hts⟩ (c_X4_thingOf_y l D b _ ad nt ng sp nn jj vt vw vr G hO t hrt hqk1) (cwV 1 hts gX4_where_X4_thingOf rfl rfl rfl (by decide +kernel) ⟨Nat.le_of_ble_eq_true rfl, Nat.le_of_ble_eq_true rfl⟩) K hG o1 rfl rfl rfl hl.1 rfl (Nat.le_of_ble_eq_true rfl) dX4_where_2 ⟨Nat.le_of_ble_eq_true rfl, Nat.le_of_ble_eq_true rfl⟩) hS (fun H locs hG hS => ?_)
    refine W.eq (g2 := F0 m 5 ls [.ref (ad 0 t.toNat 0)]) rfl ?_
    have hG : mG D b M s H := hG
    refine lv_astore (lv' := [(4, .ref (ad 0 t.toNat 0)), (0, .ref (ad 8 0 0)), (1, .int (iI t)), (2, .int (iI u)), (3, .int (iI w))]) hx hb dX4_where_5 hl (by decide) rfl (fun ls hl => ?_)
    refine lv_aload hx hb dX4_where_7 (lv_at hl 0 rfl) ?_
    refine lv_ifnull hx hb dX4_where_9 ?_
    refine lv_iload_n hx hb dX4_where_12 rfl (lv_at hl 3 rfl) ?_
    refine m_callfi (m_runS (As := [.int (iI u)]) (rest := []) ⟨hx, hb, hml, hown, hts⟩ (c_X4_isTick l D b _ u hru) (va_cwS 1 hts gX4_where_X4_isTick rfl rfl rfl (by decide +kernel) ⟨Nat.le_of_ble_eq_true rfl, Nat.le_of_ble_eq_true rfl⟩) K hG rfl hl.1 rfl (Nat.le_of_ble_eq_true rfl) dX4_where_13 ⟨Nat.le_of_ble_eq_true rfl, Nat.le_of_ble_eq_true rfl⟩) hS (fun H locs hG hS => ?_)
    have hG : mG D b M s H := hG
    refine m_ifb_ne (tgt := 21) hx hb dX4_where_16 (by decide) (fun c16 => ?_) (fun c16 => ?_)
    · refine lv_aload hx hb dX4_where_21 (lv_at hl 0 rfl) ?_
      refine lv_iload_n hx hb dX4_where_23 rfl (lv_at hl 3 rfl) ?_
      refine m_callfq (m_runV (a := ad 0 t.toNat 0) (As := [.int (iI u)]) (rest := []) ⟨hx, hb, hml, hown, hts⟩ (c_X3_reachAt l D b _ (ad 0 t.toNat 0) (ad 1 t.toNat 0) (ad 1 t.toNat 1) (ad 1 t.toNat 2) (ad 2 t.toNat 0) rfk1 (ad 3 t.toNat) (sp t.toNat) (nn t.toNat) (jj t.toNat) (vt t.toNat) (vw t.toNat) (vr t.toNat) (stF (sp t.toNat) (vt t.toNat) (vw t.toNat) (vr t.toNat) (nn t.toNat).toNat) hTk1 u (by omega) (by omega)) (cwV 1 hts gX4_where_X3_reachAt rfl rfl rfl (by decide +kernel) ⟨Nat.le_of_ble_eq_true rfl, Nat.le_of_ble_eq_true rfl⟩) K hG t1k1 rfl rfl rfl hl.1 rfl (Nat.le_of_ble_eq_true rfl) dX4_where_24 ⟨Nat.le_of_ble_eq_true rfl, Nat.le_of_ble_eq_true rfl⟩) hS (fun H locs hG hS => ?_)
      refine W.eq (g2 := F0 m 27 ls [.ref (ad 3 t.toNat u.toNat)]) rfl ?_
      have hG : mG D b M s H := hG
      refine lv_astore (lv' := [(5, .ref (ad 3 t.toNat u.toNat)), (4, .ref (ad 0 t.toNat 0)), (0, .ref (ad 8 0 0)), (1, .int (iI t)), (2, .int (iI u)), (3, .int (iI w))]) hx hb dX4_where_27 hl (by decide) rfl (fun ls hl => ?_)
      refine lv_iload_n hx hb dX4_where_29 rfl (lv_at hl 5 rfl) ?_
      rcases (show (w < 0 ∨ 4 < w) ∨ w = 0 ∨ w = 1 ∨ w = 2 ∨ w = 3 ∨ w = 4 by omega) with hc30 | hc30 | hc30 | hc30 | hc30 | hc30
      · refine m_tabOut (tgt := 94) hx hb dX4_where_30 hrw (by omega) (by decide) ?_
        refine lv_iconst (v := iI (-1)) hx hb dX4_where_94 rfl ?_
        exact m_iret hx hb hr hlk hQ hG hS (Nat.le_of_ble_eq_true rfl) (Nat.le_of_ble_eq_true rfl) dX4_where_95 ⟨congrArg iI (by rw [if_pos (by omega)]; unfold whN; rw [if_neg (by omega), if_neg (by omega), if_neg (by omega), if_neg (by omega), if_neg (by omega)]), rfl⟩
      · refine m_tabIn (tgt := 64) (off := 34) hx hb dX4_where_30 hrw (by omega) (by omega) (by rw [hc30]; rfl) (by decide) ?_
        refine lv_aload hx hb dX4_where_64 (lv_at hl 0 rfl) ?_
        refine m_getN (ci := 0) (v := .int (iI ((stF (sp t.toNat) (vt t.toNat) (vw t.toNat) (vr t.toNat) (nn t.toNat).toNat) u.toNat 0))) (C := RX0) (T := TX0) (N := 4) hx hb hts (by decide +kernel) hown K hG (hBk1 u.toNat (by omega)) rfl 0 (by decide) K.2.2.1.1 rfl dX4_where_66 ?_
        exact m_iret hx hb hr hlk hQ hG hS (Nat.le_of_ble_eq_true rfl) (Nat.le_of_ble_eq_true rfl) dX4_where_69 ⟨congrArg iI (by rw [if_pos (by omega)]; unfold whN; rw [if_pos (by omega)]), rfl⟩
      · refine m_tabIn (tgt := 70) (off := 40) hx hb dX4_where_30 hrw (by omega) (by omega) (by rw [hc30]; rfl) (by decide) ?_
        refine lv_aload hx hb dX4_where_70 (lv_at hl 0 rfl) ?_
        refine m_getN (ci := 0) (v := .int (iI ((stF (sp t.toNat) (vt t.toNat) (vw t.toNat) (vr t.toNat) (nn t.toNat).toNat) u.toNat 1))) (C := RX0) (T := TX0) (N := 4) hx hb hts (by decide +kernel) hown K hG (hBk1 u.toNat (by omega)) rfl 1 (by decide) K.2.2.1.2.1 rfl dX4_where_72 ?_
        exact m_iret hx hb hr hlk hQ hG hS (Nat.le_of_ble_eq_true rfl) (Nat.le_of_ble_eq_true rfl) dX4_where_75 ⟨congrArg iI (by rw [if_pos (by omega)]; unfold whN; rw [if_neg (by omega), if_pos (by omega)]), rfl⟩
      · refine m_tabIn (tgt := 76) (off := 46) hx hb dX4_where_30 hrw (by omega) (by omega) (by rw [hc30]; rfl) (by decide) ?_
        refine lv_aload hx hb dX4_where_76 (lv_at hl 0 rfl) ?_
        refine m_getN (ci := 0) (v := .int (iI ((stF (sp t.toNat) (vt t.toNat) (vw t.toNat) (vr t.toNat) (nn t.toNat).toNat) u.toNat 2))) (C := RX0) (T := TX0) (N := 4) hx hb hts (by decide +kernel) hown K hG (hBk1 u.toNat (by omega)) rfl 2 (by decide) K.2.2.1.2.2.1 rfl dX4_where_78 ?_
        exact m_iret hx hb hr hlk hQ hG hS (Nat.le_of_ble_eq_true rfl) (Nat.le_of_ble_eq_true rfl) dX4_where_81 ⟨congrArg iI (by rw [if_pos (by omega)]; unfold whN; rw [if_neg (by omega), if_neg (by omega), if_pos (by omega)]), rfl⟩
      · refine m_tabIn (tgt := 82) (off := 52) hx hb dX4_where_30 hrw (by omega) (by omega) (by rw [hc30]; rfl) (by decide) ?_
        refine lv_aload hx hb dX4_where_82 (lv_at hl 0 rfl) ?_
        refine m_getN (ci := 0) (v := .int (iI ((stF (sp t.toNat) (vt t.toNat) (vw t.toNat) (vr t.toNat) (nn t.toNat).toNat) u.toNat 3))) (C := RX0) (T := TX0) (N := 4) hx hb hts (by decide +kernel) hown K hG (hBk1 u.toNat (by omega)) rfl 3 (by decide) K.2.2.1.2.2.2 rfl dX4_where_84 ?_
        exact m_iret hx hb hr hlk hQ hG hS (Nat.le_of_ble_eq_true rfl) (Nat.le_of_ble_eq_true rfl) dX4_where_87 ⟨congrArg iI (by rw [if_pos (by omega)]; unfold whN; rw [if_neg (by omega), if_neg (by omega), if_neg (by omega), if_pos (by omega)]), rfl⟩
      · refine m_tabIn (tgt := 88) (off := 58) hx hb dX4_where_30 hrw (by omega) (by omega) (by rw [hc30]; rfl) (by decide) ?_
        refine lv_aload hx hb dX4_where_88 (lv_at hl 0 rfl) ?_
        refine m_callfi (m_runV (a := ad 3 t.toNat u.toNat) (As := []) (rest := []) ⟨hx, hb, hml, hown, hts⟩ (c_X0_size l D b _ (ad 3 t.toNat u.toNat) ((stF (sp t.toNat) (vt t.toNat) (vw t.toNat) (vr t.toNat) (nn t.toNat).toNat) u.toNat 0) ((stF (sp t.toNat) (vt t.toNat) (vw t.toNat) (vr t.toNat) (nn t.toNat).toNat) u.toNat 1) ((stF (sp t.toNat) (vt t.toNat) (vw t.toNat) (vr t.toNat) (nn t.toNat).toNat) u.toNat 2) ((stF (sp t.toNat) (vt t.toNat) (vw t.toNat) (vr t.toNat) (nn t.toNat).toNat) u.toNat 3) (hBk1 u.toNat (by omega))) (cwV 0 hts gX4_where_X0_size rfl rfl rfl (by decide +kernel) ⟨Nat.le_of_ble_eq_true rfl, Nat.le_of_ble_eq_true rfl⟩) K hG (hBk1 u.toNat (by omega)) rfl rfl rfl hl.1 rfl (Nat.le_of_ble_eq_true rfl) dX4_where_90 ⟨Nat.le_of_ble_eq_true rfl, Nat.le_of_ble_eq_true rfl⟩) hS (fun H locs hG hS => ?_)
        have hG : mG D b M s H := hG
        exact m_iret hx hb hr hlk hQ hG hS (Nat.le_of_ble_eq_true rfl) (Nat.le_of_ble_eq_true rfl) dX4_where_93 ⟨congrArg iI (by rw [if_pos (by omega)]; unfold whN; rw [if_neg (by omega), if_neg (by omega), if_neg (by omega), if_neg (by omega), if_pos (by omega)]), rfl⟩
    · refine lv_iconst (v := iI (-1)) hx hb dX4_where_19 rfl ?_
      exact m_iret hx hb hr hlk hQ hG hS (Nat.le_of_ble_eq_true rfl) (Nat.le_of_ble_eq_true rfl) dX4_where_20 ⟨congrArg iI (by rw [if_neg (by omega)]), rfl⟩
  · refine m_callfq (m_runV (a := ad 8 0 0) (As := [.int (iI t)]) (rest := []) ⟨hx, hb, hml, hown, hts⟩ (c_X4_thingOf_n l D b _ ad nt ng sp nn jj vt vw vr G hO t hrt hqk1) (cwV 1 hts gX4_where_X4_thingOf rfl rfl rfl (by decide +kernel) ⟨Nat.le_of_ble_eq_true rfl, Nat.le_of_ble_eq_true rfl⟩) K hG o1 rfl rfl rfl hl.1 rfl (Nat.le_of_ble_eq_true rfl) dX4_where_2 ⟨Nat.le_of_ble_eq_true rfl, Nat.le_of_ble_eq_true rfl⟩) hS (fun H locs hG hS => ?_)
    refine W.eq (g2 := F0 m 5 ls [.null]) rfl ?_
    have hG : mG D b M s H := hG
    refine lv_astoreN (lv' := [(4, .null), (0, .ref (ad 8 0 0)), (1, .int (iI t)), (2, .int (iI u)), (3, .int (iI w))]) hx hb dX4_where_5 hl (by decide) rfl (fun ls hl => ?_)
    refine lv_aloadN hx hb dX4_where_7 (lv_at hl 0 rfl) ?_
    refine lv_ifnullN (tgt := 19) hx hb dX4_where_9 (by decide) ?_
    refine lv_iconst (v := iI (-1)) hx hb dX4_where_19 rfl ?_
    exact m_iret hx hb hr hlk hQ hG hS (Nat.le_of_ble_eq_true rfl) (Nat.le_of_ble_eq_true rfl) dX4_where_20 ⟨congrArg iI (by rw [if_neg (by omega)]), rfl⟩

set_option maxHeartbeats 4000000 in
set_option maxRecDepth 100000 in
theorem c_X4_has (l : Launch) (D : va_G) (b : Nat) (M : mM) (ad : Nat → Nat → Nat → Nat) (nt ng : Int) (sp nn jj : Nat → Int) (vt vw vr : Nat → Nat → Int) (G : Nat → Nat → Nat → Bool) (hO : OvOk M ad nt ng sp nn jj vt vw vr G) (t u : Int) (hrt : rg t) (hru : rg u) : Met l yX4_has wsX4_has ({ frames := 1, cells := 0, slots := 0, locals := 22 } : Room) (mPc [.ref (ad 8 0 0), .int (iI t), .int (iI u)] D b M) (mQi D b (fI (if (0 ≤ t ∧ t < ng) ∧ (0 ≤ u ∧ u < 4096) ∧ G t.toNat (u / 64).toNat (u % 64).toNat = true then 1 else 0) M)) 0 0 (mF b) := by
  refine m_met (cc := cX4_has) (maxL := 4) (ret := (some .boolean)) (by decide) rfl (Nat.le_of_ble_eq_true rfl) ?_
  intro p e s m args below meth c Q ls hx hb hml hr hts hown hlk hnm hQ K hG hS hl
  have hown : s.vm.findClass RX4 = some m.cls := hown
  have hl : lv_has ls 4 [(0, .ref (ad 8 0 0)), (1, .int (iI t)), (2, .int (iI u))] := hl
  obtain ⟨o1, ⟨tf0, o2, o3, o3n⟩, ⟨gf0, o4, o5⟩, oT, oG, ⟨SO, o6, o7⟩, oA, ⟨b1, b2, b3, b4⟩⟩ := id hO
  refine lv_aload_n hx hb dX4_has_0 rfl (lv_at hl 0 rfl) ?_
  refine lv_iload_n hx hb dX4_has_1 rfl (lv_at hl 1 rfl) ?_
  rcases Classical.em (0 ≤ t ∧ t < ng) with hqk1 | hqk1
  · obtain ⟨p1k1, p2k1⟩ := oG t.toNat (by omega)
    refine m_callfq (m_runV (a := ad 8 0 0) (As := [.int (iI t)]) (rest := []) ⟨hx, hb, hml, hown, hts⟩ (c_X4_groundOf_y l D b _ ad nt ng sp nn jj vt vw vr G hO t hrt hqk1) (cwV 1 hts gX4_has_X4_groundOf rfl rfl rfl (by decide +kernel) ⟨Nat.le_of_ble_eq_true rfl, Nat.le_of_ble_eq_true rfl⟩) K hG o1 rfl rfl rfl hl.1 rfl (Nat.le_of_ble_eq_true rfl) dX4_has_2 ⟨Nat.le_of_ble_eq_true rfl, Nat.le_of_ble_eq_true rfl⟩) hS (fun H locs hG hS => ?_)
    refine W.eq (g2 := F0 m 5 ls [.ref (ad 4 t.toNat 0)]) rfl ?_
    have hG : mG D b M s H := hG
    refine lv_astore_n (lv' := [(3, .ref (ad 4 t.toNat 0)), (0, .ref (ad 8 0 0)), (1, .int (iI t)), (2, .int (iI u))]) hx hb dX4_has_5 rfl hl (by decide) rfl (fun ls hl => ?_)
    refine lv_aload_n hx hb dX4_has_6 rfl (lv_at hl 0 rfl) ?_
    refine lv_ifnull hx hb dX4_has_7 ?_
    refine lv_iload_n hx hb dX4_has_10 rfl (lv_at hl 3 rfl) ?_
    refine m_callfi (m_runS (As := [.int (iI u)]) (rest := []) ⟨hx, hb, hml, hown, hts⟩ (c_X4_isPlace l D b _ u hru) (va_cwS 1 hts gX4_has_X4_isPlace rfl rfl rfl (by decide +kernel) ⟨Nat.le_of_ble_eq_true rfl, Nat.le_of_ble_eq_true rfl⟩) K hG rfl hl.1 rfl (Nat.le_of_ble_eq_true rfl) dX4_has_11 ⟨Nat.le_of_ble_eq_true rfl, Nat.le_of_ble_eq_true rfl⟩) hS (fun H locs hG hS => ?_)
    have hG : mG D b M s H := hG
    refine m_ifb_eq (tgt := 36) hx hb dX4_has_14 (by decide) (fun c14 => ?_) (fun c14 => ?_)
    · refine lv_iconst (v := iI 0) hx hb dX4_has_36 rfl ?_
      exact m_zret hx hb hr hlk hQ hG hS (Nat.le_of_ble_eq_true rfl) (Nat.le_of_ble_eq_true rfl) dX4_has_37 (Or.inl rfl) ⟨congrArg iI (by first | rw [if_neg (fun z => by omega)] | rw [if_neg (fun z => c29 z.2.2)] | rw [if_pos ⟨by omega, by omega, c29⟩]), rfl⟩
    · refine lv_aload_n hx hb dX4_has_17 rfl (lv_at hl 0 rfl) ?_
      refine lv_iload_n hx hb dX4_has_18 rfl (lv_at hl 3 rfl) ?_
      refine m_callfi (m_runS (As := [.int (iI u)]) (rest := [.ref (ad 4 t.toNat 0)]) ⟨hx, hb, hml, hown, hts⟩ (c_X4_xOf l D b _ u (by omega) (by omega)) (va_cwS 1 hts gX4_has_X4_xOf rfl rfl rfl (by decide +kernel) ⟨Nat.le_of_ble_eq_true rfl, Nat.le_of_ble_eq_true rfl⟩) K hG rfl hl.1 rfl (Nat.le_of_ble_eq_true rfl) dX4_has_19 ⟨Nat.le_of_ble_eq_true rfl, Nat.le_of_ble_eq_true rfl⟩) hS (fun H locs hG hS => ?_)
      have hG : mG D b M s H := hG
      refine lv_iload_n hx hb dX4_has_22 rfl (lv_at hl 3 rfl) ?_
      refine m_callfi (m_runS (As := [.int (iI u)]) (rest := [.int (iI (u / 64)), .ref (ad 4 t.toNat 0)]) ⟨hx, hb, hml, hown, hts⟩ (c_X4_yOf l D b _ u (by omega) (by omega)) (va_cwS 1 hts gX4_has_X4_yOf rfl rfl rfl (by decide +kernel) ⟨Nat.le_of_ble_eq_true rfl, Nat.le_of_ble_eq_true rfl⟩) K hG rfl hl.1 rfl (Nat.le_of_ble_eq_true rfl) dX4_has_23 ⟨Nat.le_of_ble_eq_true rfl, Nat.le_of_ble_eq_true rfl⟩) hS (fun H locs hG hS => ?_)
      have hG : mG D b M s H := hG
      refine m_callfi (m_runV (a := ad 4 t.toNat 0) (As := [.int (iI (u / 64)), .int (iI (u % 64))]) (rest := []) ⟨hx, hb, hml, hown, hts⟩ (c_X1_holds l D b _ (ad 4 t.toNat 0) (ad 5 t.toNat 0) (G t.toNat) p1k1 p2k1 (u / 64) (u % 64) (by omega) (by omega) (by omega) (by omega)) (cwV 2 hts gX4_has_X1_holds rfl rfl rfl (by decide +kernel) ⟨Nat.le_of_ble_eq_true rfl, Nat.le_of_ble_eq_true rfl⟩) K hG p1k1 rfl rfl rfl hl.1 rfl (Nat.le_of_ble_eq_true rfl) dX4_has_26 ⟨Nat.le_of_ble_eq_true rfl, Nat.le_of_ble_eq_true rfl⟩) hS (fun H locs hG hS => ?_)
      have hG : mG D b M s H := hG
      refine m_ifb_eq (tgt := 36) hx hb dX4_has_29 (by decide) (fun c29 => ?_) (fun c29 => ?_)
      · refine lv_iconst (v := iI 0) hx hb dX4_has_36 rfl ?_
        exact m_zret hx hb hr hlk hQ hG hS (Nat.le_of_ble_eq_true rfl) (Nat.le_of_ble_eq_true rfl) dX4_has_37 (Or.inl rfl) ⟨congrArg iI (by first | rw [if_neg (fun z => by omega)] | rw [if_neg (fun z => c29 z.2.2)] | rw [if_pos ⟨by omega, by omega, c29⟩]), rfl⟩
      · refine lv_iconst (v := iI 1) hx hb dX4_has_32 rfl ?_
        refine lv_goto (tgt := 37) hx hb dX4_has_33 (by decide) ?_
        exact m_zret hx hb hr hlk hQ hG hS (Nat.le_of_ble_eq_true rfl) (Nat.le_of_ble_eq_true rfl) dX4_has_37 (Or.inr rfl) ⟨congrArg iI (by first | rw [if_neg (fun z => by omega)] | rw [if_neg (fun z => c29 z.2.2)] | rw [if_pos ⟨by omega, by omega, c29⟩]), rfl⟩
  · refine m_callfq (m_runV (a := ad 8 0 0) (As := [.int (iI t)]) (rest := []) ⟨hx, hb, hml, hown, hts⟩ (c_X4_groundOf_n l D b _ ad nt ng sp nn jj vt vw vr G hO t hrt hqk1) (cwV 1 hts gX4_has_X4_groundOf rfl rfl rfl (by decide +kernel) ⟨Nat.le_of_ble_eq_true rfl, Nat.le_of_ble_eq_true rfl⟩) K hG o1 rfl rfl rfl hl.1 rfl (Nat.le_of_ble_eq_true rfl) dX4_has_2 ⟨Nat.le_of_ble_eq_true rfl, Nat.le_of_ble_eq_true rfl⟩) hS (fun H locs hG hS => ?_)
    refine W.eq (g2 := F0 m 5 ls [.null]) rfl ?_
    have hG : mG D b M s H := hG
    refine lv_astore_nN (lv' := [(3, .null), (0, .ref (ad 8 0 0)), (1, .int (iI t)), (2, .int (iI u))]) hx hb dX4_has_5 rfl hl (by decide) rfl (fun ls hl => ?_)
    refine lv_aload_nN hx hb dX4_has_6 rfl (lv_at hl 0 rfl) ?_
    refine lv_ifnullN (tgt := 36) hx hb dX4_has_7 (by decide) ?_
    refine lv_iconst (v := iI 0) hx hb dX4_has_36 rfl ?_
    exact m_zret hx hb hr hlk hQ hG hS (Nat.le_of_ble_eq_true rfl) (Nat.le_of_ble_eq_true rfl) dX4_has_37 (Or.inl rfl) ⟨congrArg iI (by first | rw [if_neg (fun z => by omega)] | rw [if_neg (fun z => c29 z.2.2)] | rw [if_pos ⟨by omega, by omega, c29⟩]), rfl⟩

set_option maxHeartbeats 4000000 in
set_option maxRecDepth 100000 in
theorem c_X4_state (l : Launch) (D : va_G) (b : Nat) (M : mM) (ad : Nat → Nat → Nat → Nat) (nt ng : Int) (sp nn jj : Nat → Int) (vt vw vr : Nat → Nat → Int) (G : Nat → Nat → Nat → Bool) (hO : OvOk M ad nt ng sp nn jj vt vw vr G) (t v u : Int) (hrt : rg t) (hrv : rg v) (hru : rg u) : Met l yX4_state wsX4_state ({ frames := 3, cells := 0, slots := 0, locals := 67 } : Room) (mPc [.ref (ad 8 0 0), .int (iI t), .int (iI v), .int (iI u)] D b M) (mQi D b (fI (if (0 ≤ t ∧ t < nt) ∧ (0 ≤ v ∧ v < ng) ∧ (0 ≤ u ∧ u < 80) then stN (G v.toNat) (stF (sp t.toNat) (vt t.toNat) (vw t.toNat) (vr t.toNat) (nn t.toNat).toNat) u.toNat else -1) M)) 0 0 (mF b) := by
  refine m_met (cc := cX4_state) (maxL := 6) (ret := (some .int)) (by decide) rfl (Nat.le_of_ble_eq_true rfl) ?_
  intro p e s m args below meth c Q ls hx hb hml hr hts hown hlk hnm hQ K hG hS hl
  have hown : s.vm.findClass RX4 = some m.cls := hown
  have hl : lv_has ls 6 [(0, .ref (ad 8 0 0)), (1, .int (iI t)), (2, .int (iI v)), (3, .int (iI u))] := hl
  obtain ⟨o1, ⟨tf0, o2, o3, o3n⟩, ⟨gf0, o4, o5⟩, oT, oG, ⟨SO, o6, o7⟩, oA, ⟨b1, b2, b3, b4⟩⟩ := id hO
  refine lv_aload_n hx hb dX4_state_0 rfl (lv_at hl 0 rfl) ?_
  refine lv_iload_n hx hb dX4_state_1 rfl (lv_at hl 1 rfl) ?_
  rcases Classical.em (0 ≤ t ∧ t < nt) with hqk1 | hqk1
  · obtain ⟨⟨rfk1, hTk1⟩, ⟨hs0k1, hs1k1⟩, ⟨hn0k1, hn1k1⟩, sok1, nek1⟩ := oT t.toNat (by omega)
    have hRk1 : in63 (stF (sp t.toNat) (vt t.toNat) (vw t.toNat) (vr t.toNat) (nn t.toNat).toNat) := stF_rg hs0k1 (fun k hk => (sok1 k (by omega)).2)
    obtain ⟨t1k1, t2k1, t3k1, t4k1, t5k1, t6k1, hBk1, -, -⟩ := id hTk1
    refine m_callfq (m_runV (a := ad 8 0 0) (As := [.int (iI t)]) (rest := []) ⟨hx, hb, hml, hown, hts⟩ (c_X4_thingOf_y l D b _ ad nt ng sp nn jj vt vw vr G hO t hrt hqk1) (cwV 1 hts gX4_state_X4_thingOf rfl rfl rfl (by decide +kernel) ⟨Nat.le_of_ble_eq_true rfl, Nat.le_of_ble_eq_true rfl⟩) K hG o1 rfl rfl rfl hl.1 rfl (Nat.le_of_ble_eq_true rfl) dX4_state_2 ⟨Nat.le_of_ble_eq_true rfl, Nat.le_of_ble_eq_true rfl⟩) hS (fun H locs hG hS => ?_)
    refine W.eq (g2 := F0 m 5 ls [.ref (ad 0 t.toNat 0)]) rfl ?_
    have hG : mG D b M s H := hG
    refine lv_astore (lv' := [(4, .ref (ad 0 t.toNat 0)), (0, .ref (ad 8 0 0)), (1, .int (iI t)), (2, .int (iI v)), (3, .int (iI u))]) hx hb dX4_state_5 hl (by decide) rfl (fun ls hl => ?_)
    refine lv_aload_n hx hb dX4_state_7 rfl (lv_at hl 1 rfl) ?_
    refine lv_iload_n hx hb dX4_state_8 rfl (lv_at hl 3 rfl) ?_
    rcases Classical.em (0 ≤ v ∧ v < ng) with hqk2 | hqk2
    · obtain ⟨p1k2, p2k2⟩ := oG v.toNat (by omega)
      refine m_callfq (m_runV (a := ad 8 0 0) (As := [.int (iI v)]) (rest := []) ⟨hx, hb, hml, hown, hts⟩ (c_X4_groundOf_y l D b _ ad nt ng sp nn jj vt vw vr G hO v hrv hqk2) (cwV 1 hts gX4_state_X4_groundOf rfl rfl rfl (by decide +kernel) ⟨Nat.le_of_ble_eq_true rfl, Nat.le_of_ble_eq_true rfl⟩) K hG o1 rfl rfl rfl hl.1 rfl (Nat.le_of_ble_eq_true rfl) dX4_state_9 ⟨Nat.le_of_ble_eq_true rfl, Nat.le_of_ble_eq_true rfl⟩) hS (fun H locs hG hS => ?_)
      refine W.eq (g2 := F0 m 12 ls [.ref (ad 4 v.toNat 0)]) rfl ?_
      have hG : mG D b M s H := hG
      refine lv_astore (lv' := [(5, .ref (ad 4 v.toNat 0)), (4, .ref (ad 0 t.toNat 0)), (0, .ref (ad 8 0 0)), (1, .int (iI t)), (2, .int (iI v)), (3, .int (iI u))]) hx hb dX4_state_12 hl (by decide) rfl (fun ls hl => ?_)
      refine lv_aload hx hb dX4_state_14 (lv_at hl 1 rfl) ?_
      refine lv_ifnull hx hb dX4_state_16 ?_
      refine lv_aload hx hb dX4_state_19 (lv_at hl 0 rfl) ?_
      refine lv_ifnull hx hb dX4_state_21 ?_
      refine lv_iload_n hx hb dX4_state_24 rfl (lv_at hl 5 rfl) ?_
      refine m_callfi (m_runS (As := [.int (iI u)]) (rest := []) ⟨hx, hb, hml, hown, hts⟩ (c_X4_isTick l D b _ u hru) (va_cwS 1 hts gX4_state_X4_isTick rfl rfl rfl (by decide +kernel) ⟨Nat.le_of_ble_eq_true rfl, Nat.le_of_ble_eq_true rfl⟩) K hG rfl hl.1 rfl (Nat.le_of_ble_eq_true rfl) dX4_state_25 ⟨Nat.le_of_ble_eq_true rfl, Nat.le_of_ble_eq_true rfl⟩) hS (fun H locs hG hS => ?_)
      have hG : mG D b M s H := hG
      refine m_ifb_ne (tgt := 33) hx hb dX4_state_28 (by decide) (fun c28 => ?_) (fun c28 => ?_)
      · refine lv_aload hx hb dX4_state_33 (lv_at hl 1 rfl) ?_
        refine lv_aload hx hb dX4_state_35 (lv_at hl 0 rfl) ?_
        refine lv_iload_n hx hb dX4_state_37 rfl (lv_at hl 5 rfl) ?_
        refine m_callfi (m_runS (As := [.ref (ad 0 t.toNat 0), .ref (ad 4 v.toNat 0), .int (iI u)]) (rest := []) ⟨hx, hb, hml, hown, hts⟩ (c_X4_stateOf l D b _ (ad 0 t.toNat 0) (ad 1 t.toNat 0) (ad 1 t.toNat 1) (ad 1 t.toNat 2) (ad 2 t.toNat 0) rfk1 (ad 3 t.toNat) (sp t.toNat) (nn t.toNat) (jj t.toNat) (vt t.toNat) (vw t.toNat) (vr t.toNat) (stF (sp t.toNat) (vt t.toNat) (vw t.toNat) (vr t.toNat) (nn t.toNat).toNat) hTk1 (ad 4 v.toNat 0) (ad 5 v.toNat 0) (G v.toNat) p1k2 p2k2 u (by omega) (by omega) hRk1 (nek1 _ (by omega))) (va_cwS 3 hts gX4_state_X4_stateOf rfl rfl rfl (by decide +kernel) ⟨Nat.le_of_ble_eq_true rfl, Nat.le_of_ble_eq_true rfl⟩) K hG rfl hl.1 rfl (Nat.le_of_ble_eq_true rfl) dX4_state_38 ⟨Nat.le_of_ble_eq_true rfl, Nat.le_of_ble_eq_true rfl⟩) hS (fun H locs hG hS => ?_)
        have hG : mG D b M s H := hG
        exact m_iret hx hb hr hlk hQ hG hS (Nat.le_of_ble_eq_true rfl) (Nat.le_of_ble_eq_true rfl) dX4_state_41 ⟨congrArg iI (by rw [if_pos (by omega)]), rfl⟩
      · refine lv_iconst (v := iI (-1)) hx hb dX4_state_31 rfl ?_
        exact m_iret hx hb hr hlk hQ hG hS (Nat.le_of_ble_eq_true rfl) (Nat.le_of_ble_eq_true rfl) dX4_state_32 ⟨congrArg iI (by rw [if_neg (by omega)]), rfl⟩
    · refine m_callfq (m_runV (a := ad 8 0 0) (As := [.int (iI v)]) (rest := []) ⟨hx, hb, hml, hown, hts⟩ (c_X4_groundOf_n l D b _ ad nt ng sp nn jj vt vw vr G hO v hrv hqk2) (cwV 1 hts gX4_state_X4_groundOf rfl rfl rfl (by decide +kernel) ⟨Nat.le_of_ble_eq_true rfl, Nat.le_of_ble_eq_true rfl⟩) K hG o1 rfl rfl rfl hl.1 rfl (Nat.le_of_ble_eq_true rfl) dX4_state_9 ⟨Nat.le_of_ble_eq_true rfl, Nat.le_of_ble_eq_true rfl⟩) hS (fun H locs hG hS => ?_)
      refine W.eq (g2 := F0 m 12 ls [.null]) rfl ?_
      have hG : mG D b M s H := hG
      refine lv_astoreN (lv' := [(5, .null), (4, .ref (ad 0 t.toNat 0)), (0, .ref (ad 8 0 0)), (1, .int (iI t)), (2, .int (iI v)), (3, .int (iI u))]) hx hb dX4_state_12 hl (by decide) rfl (fun ls hl => ?_)
      refine lv_aload hx hb dX4_state_14 (lv_at hl 1 rfl) ?_
      refine lv_ifnull hx hb dX4_state_16 ?_
      refine lv_aloadN hx hb dX4_state_19 (lv_at hl 0 rfl) ?_
      refine lv_ifnullN (tgt := 31) hx hb dX4_state_21 (by decide) ?_
      refine lv_iconst (v := iI (-1)) hx hb dX4_state_31 rfl ?_
      exact m_iret hx hb hr hlk hQ hG hS (Nat.le_of_ble_eq_true rfl) (Nat.le_of_ble_eq_true rfl) dX4_state_32 ⟨congrArg iI (by rw [if_neg (by omega)]), rfl⟩
  · refine m_callfq (m_runV (a := ad 8 0 0) (As := [.int (iI t)]) (rest := []) ⟨hx, hb, hml, hown, hts⟩ (c_X4_thingOf_n l D b _ ad nt ng sp nn jj vt vw vr G hO t hrt hqk1) (cwV 1 hts gX4_state_X4_thingOf rfl rfl rfl (by decide +kernel) ⟨Nat.le_of_ble_eq_true rfl, Nat.le_of_ble_eq_true rfl⟩) K hG o1 rfl rfl rfl hl.1 rfl (Nat.le_of_ble_eq_true rfl) dX4_state_2 ⟨Nat.le_of_ble_eq_true rfl, Nat.le_of_ble_eq_true rfl⟩) hS (fun H locs hG hS => ?_)
    refine W.eq (g2 := F0 m 5 ls [.null]) rfl ?_
    have hG : mG D b M s H := hG
    refine lv_astoreN (lv' := [(4, .null), (0, .ref (ad 8 0 0)), (1, .int (iI t)), (2, .int (iI v)), (3, .int (iI u))]) hx hb dX4_state_5 hl (by decide) rfl (fun ls hl => ?_)
    refine lv_aload_n hx hb dX4_state_7 rfl (lv_at hl 1 rfl) ?_
    refine lv_iload_n hx hb dX4_state_8 rfl (lv_at hl 3 rfl) ?_
    rcases Classical.em (0 ≤ v ∧ v < ng) with hqk3 | hqk3
    · obtain ⟨p1k3, p2k3⟩ := oG v.toNat (by omega)
      refine m_callfq (m_runV (a := ad 8 0 0) (As := [.int (iI v)]) (rest := []) ⟨hx, hb, hml, hown, hts⟩ (c_X4_groundOf_y l D b _ ad nt ng sp nn jj vt vw vr G hO v hrv hqk3) (cwV 1 hts gX4_state_X4_groundOf rfl rfl rfl (by decide +kernel) ⟨Nat.le_of_ble_eq_true rfl, Nat.le_of_ble_eq_true rfl⟩) K hG o1 rfl rfl rfl hl.1 rfl (Nat.le_of_ble_eq_true rfl) dX4_state_9 ⟨Nat.le_of_ble_eq_true rfl, Nat.le_of_ble_eq_true rfl⟩) hS (fun H locs hG hS => ?_)
      refine W.eq (g2 := F0 m 12 ls [.ref (ad 4 v.toNat 0)]) rfl ?_
      have hG : mG D b M s H := hG
      refine lv_astore (lv' := [(5, .ref (ad 4 v.toNat 0)), (4, .null), (0, .ref (ad 8 0 0)), (1, .int (iI t)), (2, .int (iI v)), (3, .int (iI u))]) hx hb dX4_state_12 hl (by decide) rfl (fun ls hl => ?_)
      refine lv_aloadN hx hb dX4_state_14 (lv_at hl 1 rfl) ?_
      refine lv_ifnullN (tgt := 31) hx hb dX4_state_16 (by decide) ?_
      refine lv_iconst (v := iI (-1)) hx hb dX4_state_31 rfl ?_
      exact m_iret hx hb hr hlk hQ hG hS (Nat.le_of_ble_eq_true rfl) (Nat.le_of_ble_eq_true rfl) dX4_state_32 ⟨congrArg iI (by rw [if_neg (by omega)]), rfl⟩
    · refine m_callfq (m_runV (a := ad 8 0 0) (As := [.int (iI v)]) (rest := []) ⟨hx, hb, hml, hown, hts⟩ (c_X4_groundOf_n l D b _ ad nt ng sp nn jj vt vw vr G hO v hrv hqk3) (cwV 1 hts gX4_state_X4_groundOf rfl rfl rfl (by decide +kernel) ⟨Nat.le_of_ble_eq_true rfl, Nat.le_of_ble_eq_true rfl⟩) K hG o1 rfl rfl rfl hl.1 rfl (Nat.le_of_ble_eq_true rfl) dX4_state_9 ⟨Nat.le_of_ble_eq_true rfl, Nat.le_of_ble_eq_true rfl⟩) hS (fun H locs hG hS => ?_)
      refine W.eq (g2 := F0 m 12 ls [.null]) rfl ?_
      have hG : mG D b M s H := hG
      refine lv_astoreN (lv' := [(5, .null), (4, .null), (0, .ref (ad 8 0 0)), (1, .int (iI t)), (2, .int (iI v)), (3, .int (iI u))]) hx hb dX4_state_12 hl (by decide) rfl (fun ls hl => ?_)
      refine lv_aloadN hx hb dX4_state_14 (lv_at hl 1 rfl) ?_
      refine lv_ifnullN (tgt := 31) hx hb dX4_state_16 (by decide) ?_
      refine lv_iconst (v := iI (-1)) hx hb dX4_state_31 rfl ?_
      exact m_iret hx hb hr hlk hQ hG hS (Nat.le_of_ble_eq_true rfl) (Nat.le_of_ble_eq_true rfl) dX4_state_32 ⟨congrArg iI (by rw [if_neg (by omega)]), rfl⟩

/-- LOOK, n ticks before the end -/
noncomputable def lkN (S : Nat → Nat → Bool) (F : Nat → Nat → Int) (w : Int) : Nat → Int
  | 0 => 79
  | n + 1 => if stN S F (79 - n) ≠ 0 then min (((79 - n : Nat) : Int) + w) 79 else lkN S F w n
set_option maxHeartbeats 4000000 in
set_option maxRecDepth 100000 in
theorem c_X4_look (l : Launch) (D : va_G) (b : Nat) (M : mM) (ad : Nat → Nat → Nat → Nat) (nt ng : Int) (sp nn jj : Nat → Int) (vt vw vr : Nat → Nat → Int) (G : Nat → Nat → Nat → Bool) (hO : OvOk M ad nt ng sp nn jj vt vw vr G) (t v u w : Int) (hrt : rg t) (hrv : rg v) (hru : rg u) (hrw : rg w) : Met l yX4_look wsX4_look ({ frames := 3, cells := 0, slots := 0, locals := 67 } : Room) (mPc [.ref (ad 8 0 0), .int (iI t), .int (iI v), .int (iI u), .int (iI w)] D b M) (mQi D b (fI (if ((0 ≤ t ∧ t < nt) ∧ (0 ≤ v ∧ v < ng) ∧ (0 ≤ u ∧ u < 80)) ∧ (0 ≤ w ∧ w ≤ 79) ∧ stN (G v.toNat) (stF (sp t.toNat) (vt t.toNat) (vw t.toNat) (vr t.toNat) (nn t.toNat).toNat) u.toNat = 0 then lkN (G v.toNat) (stF (sp t.toNat) (vt t.toNat) (vw t.toNat) (vr t.toNat) (nn t.toNat).toNat) w (79 - u).toNat else -1) M)) 0 0 (mF b) := by
  refine m_met (cc := cX4_look) (maxL := 8) (ret := (some .int)) (by decide) rfl (Nat.le_of_ble_eq_true rfl) ?_
  intro p e s m args below meth c Q ls hx hb hml hr hts hown hlk hnm hQ K hG hS hl
  have hown : s.vm.findClass RX4 = some m.cls := hown
  have hl : lv_has ls 8 [(0, .ref (ad 8 0 0)), (1, .int (iI t)), (2, .int (iI v)), (3, .int (iI u)), (4, .int (iI w))] := hl
  obtain ⟨o1, ⟨tf0, o2, o3, o3n⟩, ⟨gf0, o4, o5⟩, oT, oG, ⟨SO, o6, o7⟩, oA, ⟨b1, b2, b3, b4⟩⟩ := id hO
  refine lv_aload_n hx hb dX4_look_0 rfl (lv_at hl 0 rfl) ?_
  refine lv_iload_n hx hb dX4_look_1 rfl (lv_at hl 1 rfl) ?_
  rcases Classical.em (0 ≤ t ∧ t < nt) with hqk1 | hqk1
  · obtain ⟨⟨rfk1, hTk1⟩, ⟨hs0k1, hs1k1⟩, ⟨hn0k1, hn1k1⟩, sok1, nek1⟩ := oT t.toNat (by omega)
    have hRk1 : in63 (stF (sp t.toNat) (vt t.toNat) (vw t.toNat) (vr t.toNat) (nn t.toNat).toNat) := stF_rg hs0k1 (fun k hk => (sok1 k (by omega)).2)
    obtain ⟨t1k1, t2k1, t3k1, t4k1, t5k1, t6k1, hBk1, -, -⟩ := id hTk1
    refine m_callfq (m_runV (a := ad 8 0 0) (As := [.int (iI t)]) (rest := []) ⟨hx, hb, hml, hown, hts⟩ (c_X4_thingOf_y l D b _ ad nt ng sp nn jj vt vw vr G hO t hrt hqk1) (cwV 1 hts gX4_look_X4_thingOf rfl rfl rfl (by decide +kernel) ⟨Nat.le_of_ble_eq_true rfl, Nat.le_of_ble_eq_true rfl⟩) K hG o1 rfl rfl rfl hl.1 rfl (Nat.le_of_ble_eq_true rfl) dX4_look_2 ⟨Nat.le_of_ble_eq_true rfl, Nat.le_of_ble_eq_true rfl⟩) hS (fun H locs hG hS => ?_)
    refine W.eq (g2 := F0 m 5 ls [.ref (ad 0 t.toNat 0)]) rfl ?_
    have hG : mG D b M s H := hG
    refine lv_astore (lv' := [(5, .ref (ad 0 t.toNat 0)), (0, .ref (ad 8 0 0)), (1, .int (iI t)), (2, .int (iI v)), (3, .int (iI u)), (4, .int (iI w))]) hx hb dX4_look_5 hl (by decide) rfl (fun ls hl => ?_)
    refine lv_aload_n hx hb dX4_look_7 rfl (lv_at hl 1 rfl) ?_
    refine lv_iload_n hx hb dX4_look_8 rfl (lv_at hl 3 rfl) ?_
    rcases Classical.em (0 ≤ v ∧ v < ng) with hqk2 | hqk2
    · obtain ⟨p1k2, p2k2⟩ := oG v.toNat (by omega)
      refine m_callfq (m_runV (a := ad 8 0 0) (As := [.int (iI v)]) (rest := []) ⟨hx, hb, hml, hown, hts⟩ (c_X4_groundOf_y l D b _ ad nt ng sp nn jj vt vw vr G hO v hrv hqk2) (cwV 1 hts gX4_look_X4_groundOf rfl rfl rfl (by decide +kernel) ⟨Nat.le_of_ble_eq_true rfl, Nat.le_of_ble_eq_true rfl⟩) K hG o1 rfl rfl rfl hl.1 rfl (Nat.le_of_ble_eq_true rfl) dX4_look_9 ⟨Nat.le_of_ble_eq_true rfl, Nat.le_of_ble_eq_true rfl⟩) hS (fun H locs hG hS => ?_)
      refine W.eq (g2 := F0 m 12 ls [.ref (ad 4 v.toNat 0)]) rfl ?_
      have hG : mG D b M s H := hG
      refine lv_astore (lv' := [(6, .ref (ad 4 v.toNat 0)), (5, .ref (ad 0 t.toNat 0)), (0, .ref (ad 8 0 0)), (1, .int (iI t)), (2, .int (iI v)), (3, .int (iI u)), (4, .int (iI w))]) hx hb dX4_look_12 hl (by decide) rfl (fun ls hl => ?_)
      refine lv_aload hx hb dX4_look_14 (lv_at hl 1 rfl) ?_
      refine lv_ifnull hx hb dX4_look_16 ?_
      refine lv_aload hx hb dX4_look_19 (lv_at hl 0 rfl) ?_
      refine lv_ifnull hx hb dX4_look_21 ?_
      refine lv_iload_n hx hb dX4_look_24 rfl (lv_at hl 5 rfl) ?_
      refine m_callfi (m_runS (As := [.int (iI u)]) (rest := []) ⟨hx, hb, hml, hown, hts⟩ (c_X4_isTick l D b _ u hru) (va_cwS 1 hts gX4_look_X4_isTick rfl rfl rfl (by decide +kernel) ⟨Nat.le_of_ble_eq_true rfl, Nat.le_of_ble_eq_true rfl⟩) K hG rfl hl.1 rfl (Nat.le_of_ble_eq_true rfl) dX4_look_25 ⟨Nat.le_of_ble_eq_true rfl, Nat.le_of_ble_eq_true rfl⟩) hS (fun H locs hG hS => ?_)
      have hG : mG D b M s H := hG
      refine m_ifb_ne (tgt := 33) hx hb dX4_look_28 (by decide) (fun c28 => ?_) (fun c28 => ?_)
      · refine lv_iload hx hb dX4_look_33 (lv_at hl 6 rfl) ?_
        refine m_if_lt (tgt := 56) hx hb dX4_look_35 (by decide) hrw (fun c35 => ?_) (fun c35 => ?_)
        · refine lv_iconst (v := iI (-1)) hx hb dX4_look_56 rfl ?_
          exact m_iret hx hb hr hlk hQ hG hS (Nat.le_of_ble_eq_true rfl) (Nat.le_of_ble_eq_true rfl) dX4_look_57 ⟨congrArg iI (by first | rw [if_neg (by omega)] | rw [if_neg (fun z => c53 z.2.2)]), rfl⟩
        · refine lv_iload hx hb dX4_look_38 (lv_at hl 6 rfl) ?_
          refine lv_bipush (v := iI 79) hx hb dX4_look_40 (by decide) ?_
          refine m_icmp_gt (tgt := 56) hx hb dX4_look_42 (by decide) hrw ⟨by omega, by omega⟩ (fun c42 => ?_) (fun c42 => ?_)
          · refine lv_iconst (v := iI (-1)) hx hb dX4_look_56 rfl ?_
            exact m_iret hx hb hr hlk hQ hG hS (Nat.le_of_ble_eq_true rfl) (Nat.le_of_ble_eq_true rfl) dX4_look_57 ⟨congrArg iI (by first | rw [if_neg (by omega)] | rw [if_neg (fun z => c53 z.2.2)]), rfl⟩
          · refine lv_aload hx hb dX4_look_45 (lv_at hl 1 rfl) ?_
            refine lv_aload hx hb dX4_look_47 (lv_at hl 0 rfl) ?_
            refine lv_iload_n hx hb dX4_look_49 rfl (lv_at hl 5 rfl) ?_
            refine m_callfi (m_runS (As := [.ref (ad 0 t.toNat 0), .ref (ad 4 v.toNat 0), .int (iI u)]) (rest := []) ⟨hx, hb, hml, hown, hts⟩ (c_X4_stateOf l D b _ (ad 0 t.toNat 0) (ad 1 t.toNat 0) (ad 1 t.toNat 1) (ad 1 t.toNat 2) (ad 2 t.toNat 0) rfk1 (ad 3 t.toNat) (sp t.toNat) (nn t.toNat) (jj t.toNat) (vt t.toNat) (vw t.toNat) (vr t.toNat) (stF (sp t.toNat) (vt t.toNat) (vw t.toNat) (vr t.toNat) (nn t.toNat).toNat) hTk1 (ad 4 v.toNat 0) (ad 5 v.toNat 0) (G v.toNat) p1k2 p2k2 u (by omega) (by omega) hRk1 (nek1 _ (by omega))) (va_cwS 3 hts gX4_look_X4_stateOf rfl rfl rfl (by decide +kernel) ⟨Nat.le_of_ble_eq_true rfl, Nat.le_of_ble_eq_true rfl⟩) K hG rfl hl.1 rfl (Nat.le_of_ble_eq_true rfl) dX4_look_50 ⟨Nat.le_of_ble_eq_true rfl, Nat.le_of_ble_eq_true rfl⟩) hS (fun H locs hG hS => ?_)
            have hG : mG D b M s H := hG
            refine m_if_eq (tgt := 58) hx hb dX4_look_53 (by decide) ⟨by have := stN_rg (G v.toNat) (stF (sp t.toNat) (vt t.toNat) (vw t.toNat) (vr t.toNat) (nn t.toNat).toNat) u.toNat; omega, by have := stN_rg (G v.toNat) (stF (sp t.toNat) (vt t.toNat) (vw t.toNat) (vr t.toNat) (nn t.toNat).toNat) u.toNat; omega⟩ (fun c53 => ?_) (fun c53 => ?_)
            · refine lv_iload_n hx hb dX4_look_58 rfl (lv_at hl 5 rfl) ?_
              refine lv_iconst (v := iI 1) hx hb dX4_look_59 rfl ?_
              refine m_iadd hx hb dX4_look_60 ?_
              refine lv_istore (lv' := [(7, .int (iI (u + 1))), (6, .ref (ad 4 v.toNat 0)), (5, .ref (ad 0 t.toNat 0)), (0, .ref (ad 8 0 0)), (1, .int (iI t)), (2, .int (iI v)), (3, .int (iI u)), (4, .int (iI w))]) hx hb dX4_look_61 hl (by decide) rfl (fun ls hl => ?_)
              have loop63 : ∀ (fuel : Nat) (i : Int) (H : Heap) (locs : List Loc) (ls : Array Slot), (u + 1 ≤ i) → (i ≤ 80) → (lkN (G v.toNat) (stF (sp t.toNat) (vt t.toNat) (vw t.toNat) (vr t.toNat) (nn t.toNat).toNat) w (79 - u).toNat = lkN (G v.toNat) (stF (sp t.toNat) (vt t.toNat) (vw t.toNat) (vr t.toNat) (nn t.toNat).toNat) w (80 - i).toNat) → (80 - i).toNat < fuel → mG D b M s H → va_S (mF b) s.heap H locs → lv_has ls 8 [(7, .int (iI i)), (6, .ref (ad 4 v.toNat 0)), (5, .ref (ad 0 t.toNat 0)), (0, .ref (ad 8 0 0)), (1, .int (iI t)), (2, .int (iI v)), (3, .int (iI u)), (4, .int (iI w))] → W p l e ({ frames := 3, cells := 0, slots := 0, locals := 67 } : Room) s m args below meth c H locs 0 0 Q (F0 m 63 ls []) := by
                intro fuel
                induction fuel with
                | zero => intro i H locs ls hi0 hi1 hL hm; exact absurd hm (Nat.not_lt_zero _)
                | succ fuel ih63 =>
                  intro i H locs ls hi0 hi1 hL hm hG hS hl
                  refine lv_iload hx hb dX4_look_63 (lv_at hl 0 rfl) ?_
                  refine lv_bipush (v := iI 80) hx hb dX4_look_65 (by decide) ?_
                  refine m_icmp_ge (tgt := 99) hx hb dX4_look_67 (by decide) ⟨by omega, by omega⟩ ⟨by omega, by omega⟩ (fun c67 => ?_) (fun c67 => ?_)
                  · refine lv_bipush (v := iI 79) hx hb dX4_look_99 (by decide) ?_
                    exact m_iret hx hb hr hlk hQ hG hS (Nat.le_of_ble_eq_true rfl) (Nat.le_of_ble_eq_true rfl) dX4_look_101 ⟨congrArg iI (by rw [if_pos ⟨by omega, by omega, c53⟩, hL, show (80 - i).toNat = 0 by omega]; rfl), rfl⟩
                  · refine lv_aload hx hb dX4_look_70 (lv_at hl 2 rfl) ?_
                    refine lv_aload hx hb dX4_look_72 (lv_at hl 1 rfl) ?_
                    refine lv_iload hx hb dX4_look_74 (lv_at hl 0 rfl) ?_
                    refine m_callfi (m_runS (As := [.ref (ad 0 t.toNat 0), .ref (ad 4 v.toNat 0), .int (iI i)]) (rest := []) ⟨hx, hb, hml, hown, hts⟩ (c_X4_stateOf l D b _ (ad 0 t.toNat 0) (ad 1 t.toNat 0) (ad 1 t.toNat 1) (ad 1 t.toNat 2) (ad 2 t.toNat 0) rfk1 (ad 3 t.toNat) (sp t.toNat) (nn t.toNat) (jj t.toNat) (vt t.toNat) (vw t.toNat) (vr t.toNat) (stF (sp t.toNat) (vt t.toNat) (vw t.toNat) (vr t.toNat) (nn t.toNat).toNat) hTk1 (ad 4 v.toNat 0) (ad 5 v.toNat 0) (G v.toNat) p1k2 p2k2 i (by omega) (by omega) hRk1 (nek1 _ (by omega))) (va_cwS 3 hts gX4_look_X4_stateOf rfl rfl rfl (by decide +kernel) ⟨Nat.le_of_ble_eq_true rfl, Nat.le_of_ble_eq_true rfl⟩) K hG rfl hl.1 rfl (Nat.le_of_ble_eq_true rfl) dX4_look_76 ⟨Nat.le_of_ble_eq_true rfl, Nat.le_of_ble_eq_true rfl⟩) hS (fun H locs hG hS => ?_)
                    have hG : mG D b M s H := hG
                    refine m_if_eq (tgt := 93) hx hb dX4_look_79 (by decide) ⟨by have := stN_rg (G v.toNat) (stF (sp t.toNat) (vt t.toNat) (vw t.toNat) (vr t.toNat) (nn t.toNat).toNat) i.toNat; omega, by have := stN_rg (G v.toNat) (stF (sp t.toNat) (vt t.toNat) (vw t.toNat) (vr t.toNat) (nn t.toNat).toNat) i.toNat; omega⟩ (fun c79 => ?_) (fun c79 => ?_)
                    · refine m_iinc (lv' := [(7, .int (iI (i + 1))), (6, .ref (ad 4 v.toNat 0)), (5, .ref (ad 0 t.toNat 0)), (0, .ref (ad 8 0 0)), (1, .int (iI t)), (2, .int (iI v)), (3, .int (iI u)), (4, .int (iI w))]) (k := 0) hx hb dX4_look_93 hl rfl (by decide) rfl (fun ls hl => ?_)
                      refine lv_goto (tgt := 63) hx hb dX4_look_96 (by decide) ?_
                      exact ih63 (i + 1) _ _ _ (by omega) (by omega) (by rw [hL, show (80 - i).toNat = (80 - (i + 1)).toNat + 1 by omega, lkN, if_neg (by rw [show 79 - (80 - (i + 1)).toNat = i.toNat by omega]; exact fun z => z c79)]) (by omega) hG hS (lv_sub hl [0, 1, 2, 3, 4, 5, 6, 7] rfl)
                    · refine lv_iload hx hb dX4_look_82 (lv_at hl 0 rfl) ?_
                      refine lv_iload hx hb dX4_look_84 (lv_at hl 7 rfl) ?_
                      refine m_iadd hx hb dX4_look_86 ?_
                      refine lv_bipush (v := iI 79) hx hb dX4_look_87 (by decide) ?_
                      refine m_mmin hx hb (hml.trans hl.1.symm) hts hown (by decide +kernel) (by decide +kernel) (by decide +kernel) (by decide +kernel) (Nat.le_of_ble_eq_true rfl) (Nat.le_of_ble_eq_true rfl) (Nat.zero_le _) (Nat.zero_le _) ⟨by omega, by omega⟩ ⟨by omega, by omega⟩ dX4_look_89 ?_
                      exact m_iret hx hb hr hlk hQ hG hS (Nat.le_of_ble_eq_true rfl) (Nat.le_of_ble_eq_true rfl) dX4_look_92 ⟨congrArg iI (by rw [if_pos ⟨by omega, by omega, c53⟩, hL, show (80 - i).toNat = (79 - i).toNat + 1 by omega, lkN, show 79 - (79 - i).toNat = i.toNat by omega, if_pos c79]; omega), rfl⟩
              exact loop63 _ (u + 1) _ _ _ (by omega) (by omega) (by rw [show (80 - (u + 1)).toNat = (79 - u).toNat by omega]) (Nat.lt_succ_self _) hG hS (lv_sub hl [0, 1, 2, 3, 4, 5, 6, 7] rfl)
            · refine lv_iconst (v := iI (-1)) hx hb dX4_look_56 rfl ?_
              exact m_iret hx hb hr hlk hQ hG hS (Nat.le_of_ble_eq_true rfl) (Nat.le_of_ble_eq_true rfl) dX4_look_57 ⟨congrArg iI (by first | rw [if_neg (by omega)] | rw [if_neg (fun z => c53 z.2.2)]), rfl⟩
      · refine lv_iconst (v := iI (-1)) hx hb dX4_look_31 rfl ?_
        exact m_iret hx hb hr hlk hQ hG hS (Nat.le_of_ble_eq_true rfl) (Nat.le_of_ble_eq_true rfl) dX4_look_32 ⟨congrArg iI (by rw [if_neg (by omega)]), rfl⟩
    · refine m_callfq (m_runV (a := ad 8 0 0) (As := [.int (iI v)]) (rest := []) ⟨hx, hb, hml, hown, hts⟩ (c_X4_groundOf_n l D b _ ad nt ng sp nn jj vt vw vr G hO v hrv hqk2) (cwV 1 hts gX4_look_X4_groundOf rfl rfl rfl (by decide +kernel) ⟨Nat.le_of_ble_eq_true rfl, Nat.le_of_ble_eq_true rfl⟩) K hG o1 rfl rfl rfl hl.1 rfl (Nat.le_of_ble_eq_true rfl) dX4_look_9 ⟨Nat.le_of_ble_eq_true rfl, Nat.le_of_ble_eq_true rfl⟩) hS (fun H locs hG hS => ?_)
      refine W.eq (g2 := F0 m 12 ls [.null]) rfl ?_
      have hG : mG D b M s H := hG
      refine lv_astoreN (lv' := [(6, .null), (5, .ref (ad 0 t.toNat 0)), (0, .ref (ad 8 0 0)), (1, .int (iI t)), (2, .int (iI v)), (3, .int (iI u)), (4, .int (iI w))]) hx hb dX4_look_12 hl (by decide) rfl (fun ls hl => ?_)
      refine lv_aload hx hb dX4_look_14 (lv_at hl 1 rfl) ?_
      refine lv_ifnull hx hb dX4_look_16 ?_
      refine lv_aloadN hx hb dX4_look_19 (lv_at hl 0 rfl) ?_
      refine lv_ifnullN (tgt := 31) hx hb dX4_look_21 (by decide) ?_
      refine lv_iconst (v := iI (-1)) hx hb dX4_look_31 rfl ?_
      exact m_iret hx hb hr hlk hQ hG hS (Nat.le_of_ble_eq_true rfl) (Nat.le_of_ble_eq_true rfl) dX4_look_32 ⟨congrArg iI (by rw [if_neg (by omega)]), rfl⟩
  · refine m_callfq (m_runV (a := ad 8 0 0) (As := [.int (iI t)]) (rest := []) ⟨hx, hb, hml, hown, hts⟩ (c_X4_thingOf_n l D b _ ad nt ng sp nn jj vt vw vr G hO t hrt hqk1) (cwV 1 hts gX4_look_X4_thingOf rfl rfl rfl (by decide +kernel) ⟨Nat.le_of_ble_eq_true rfl, Nat.le_of_ble_eq_true rfl⟩) K hG o1 rfl rfl rfl hl.1 rfl (Nat.le_of_ble_eq_true rfl) dX4_look_2 ⟨Nat.le_of_ble_eq_true rfl, Nat.le_of_ble_eq_true rfl⟩) hS (fun H locs hG hS => ?_)
    refine W.eq (g2 := F0 m 5 ls [.null]) rfl ?_
    have hG : mG D b M s H := hG
    refine lv_astoreN (lv' := [(5, .null), (0, .ref (ad 8 0 0)), (1, .int (iI t)), (2, .int (iI v)), (3, .int (iI u)), (4, .int (iI w))]) hx hb dX4_look_5 hl (by decide) rfl (fun ls hl => ?_)
    refine lv_aload_n hx hb dX4_look_7 rfl (lv_at hl 1 rfl) ?_
    refine lv_iload_n hx hb dX4_look_8 rfl (lv_at hl 3 rfl) ?_
    rcases Classical.em (0 ≤ v ∧ v < ng) with hqk3 | hqk3
    · obtain ⟨p1k3, p2k3⟩ := oG v.toNat (by omega)
      refine m_callfq (m_runV (a := ad 8 0 0) (As := [.int (iI v)]) (rest := []) ⟨hx, hb, hml, hown, hts⟩ (c_X4_groundOf_y l D b _ ad nt ng sp nn jj vt vw vr G hO v hrv hqk3) (cwV 1 hts gX4_look_X4_groundOf rfl rfl rfl (by decide +kernel) ⟨Nat.le_of_ble_eq_true rfl, Nat.le_of_ble_eq_true rfl⟩) K hG o1 rfl rfl rfl hl.1 rfl (Nat.le_of_ble_eq_true rfl) dX4_look_9 ⟨Nat.le_of_ble_eq_true rfl, Nat.le_of_ble_eq_true rfl⟩) hS (fun H locs hG hS => ?_)
      refine W.eq (g2 := F0 m 12 ls [.ref (ad 4 v.toNat 0)]) rfl ?_
      have hG : mG D b M s H := hG
      refine lv_astore (lv' := [(6, .ref (ad 4 v.toNat 0)), (5, .null), (0, .ref (ad 8 0 0)), (1, .int (iI t)), (2, .int (iI v)), (3, .int (iI u)), (4, .int (iI w))]) hx hb dX4_look_12 hl (by decide) rfl (fun ls hl => ?_)
      refine lv_aloadN hx hb dX4_look_14 (lv_at hl 1 rfl) ?_
      refine lv_ifnullN (tgt := 31) hx hb dX4_look_16 (by decide) ?_
      refine lv_iconst (v := iI (-1)) hx hb dX4_look_31 rfl ?_
      exact m_iret hx hb hr hlk hQ hG hS (Nat.le_of_ble_eq_true rfl) (Nat.le_of_ble_eq_true rfl) dX4_look_32 ⟨congrArg iI (by rw [if_neg (by omega)]), rfl⟩
    · refine m_callfq (m_runV (a := ad 8 0 0) (As := [.int (iI v)]) (rest := []) ⟨hx, hb, hml, hown, hts⟩ (c_X4_groundOf_n l D b _ ad nt ng sp nn jj vt vw vr G hO v hrv hqk3) (cwV 1 hts gX4_look_X4_groundOf rfl rfl rfl (by decide +kernel) ⟨Nat.le_of_ble_eq_true rfl, Nat.le_of_ble_eq_true rfl⟩) K hG o1 rfl rfl rfl hl.1 rfl (Nat.le_of_ble_eq_true rfl) dX4_look_9 ⟨Nat.le_of_ble_eq_true rfl, Nat.le_of_ble_eq_true rfl⟩) hS (fun H locs hG hS => ?_)
      refine W.eq (g2 := F0 m 12 ls [.null]) rfl ?_
      have hG : mG D b M s H := hG
      refine lv_astoreN (lv' := [(6, .null), (5, .null), (0, .ref (ad 8 0 0)), (1, .int (iI t)), (2, .int (iI v)), (3, .int (iI u)), (4, .int (iI w))]) hx hb dX4_look_12 hl (by decide) rfl (fun ls hl => ?_)
      refine lv_aloadN hx hb dX4_look_14 (lv_at hl 1 rfl) ?_
      refine lv_ifnullN (tgt := 31) hx hb dX4_look_16 (by decide) ?_
      refine lv_iconst (v := iI (-1)) hx hb dX4_look_31 rfl ?_
      exact m_iret hx hb hr hlk hQ hG hS (Nat.le_of_ble_eq_true rfl) (Nat.le_of_ble_eq_true rfl) dX4_look_32 ⟨congrArg iI (by rw [if_neg (by omega)]), rfl⟩

/-- APART, as a number -/
def apN (F E : Nat → Nat → Int) (t : Nat) (w : Int) : Int := if w = 0 then max 0 (max (max (F t 0 - E t 1) (E t 0 - F t 1)) (max (F t 2 - E t 3) (E t 2 - F t 3))) else if w = 1 then max (max (F t 1 - E t 0) (E t 1 - F t 0)) (max (F t 3 - E t 2) (E t 3 - F t 2)) else -1
set_option maxHeartbeats 4000000 in
set_option maxRecDepth 100000 in
theorem c_X4_apart (l : Launch) (D : va_G) (b : Nat) (M : mM) (ad : Nat → Nat → Nat → Nat) (nt ng : Int) (sp nn jj : Nat → Int) (vt vw vr : Nat → Nat → Int) (G : Nat → Nat → Nat → Bool) (hO : OvOk M ad nt ng sp nn jj vt vw vr G) (t v u w : Int) (hrt : rg t) (hrv : rg v) (hru : rg u) (hrw : rg w) : Met l yX4_apart wsX4_apart ({ frames := 2, cells := 0, slots := 0, locals := 37 } : Room) (mPc [.ref (ad 8 0 0), .int (iI t), .int (iI v), .int (iI u), .int (iI w)] D b M) (mQi D b (fI (if (0 ≤ t ∧ t < nt) ∧ (0 ≤ v ∧ v < nt) ∧ ¬ t = v ∧ (0 ≤ u ∧ u < 80) then apN (stF (sp t.toNat) (vt t.toNat) (vw t.toNat) (vr t.toNat) (nn t.toNat).toNat) (stF (sp v.toNat) (vt v.toNat) (vw v.toNat) (vr v.toNat) (nn v.toNat).toNat) u.toNat w else -1) M)) 0 0 (mF b) := by
  refine m_met (cc := cX4_apart) (maxL := 9) (ret := (some .int)) (by decide) rfl (Nat.le_of_ble_eq_true rfl) ?_
  intro p e s m args below meth c Q ls hx hb hml hr hts hown hlk hnm hQ K hG hS hl
  have hown : s.vm.findClass RX4 = some m.cls := hown
  have hl : lv_has ls 9 [(0, .ref (ad 8 0 0)), (1, .int (iI t)), (2, .int (iI v)), (3, .int (iI u)), (4, .int (iI w))] := hl
  obtain ⟨o1, ⟨tf0, o2, o3, o3n⟩, ⟨gf0, o4, o5⟩, oT, oG, ⟨SO, o6, o7⟩, oA, ⟨b1, b2, b3, b4⟩⟩ := id hO
  refine lv_aload_n hx hb dX4_apart_0 rfl (lv_at hl 0 rfl) ?_
  refine lv_iload_n hx hb dX4_apart_1 rfl (lv_at hl 1 rfl) ?_
  rcases Classical.em (0 ≤ t ∧ t < nt) with hqk1 | hqk1
  · obtain ⟨⟨rfk1, hTk1⟩, ⟨hs0k1, hs1k1⟩, ⟨hn0k1, hn1k1⟩, sok1, nek1⟩ := oT t.toNat (by omega)
    have hRk1 : in63 (stF (sp t.toNat) (vt t.toNat) (vw t.toNat) (vr t.toNat) (nn t.toNat).toNat) := stF_rg hs0k1 (fun k hk => (sok1 k (by omega)).2)
    obtain ⟨t1k1, t2k1, t3k1, t4k1, t5k1, t6k1, hBk1, -, -⟩ := id hTk1
    refine m_callfq (m_runV (a := ad 8 0 0) (As := [.int (iI t)]) (rest := []) ⟨hx, hb, hml, hown, hts⟩ (c_X4_thingOf_y l D b _ ad nt ng sp nn jj vt vw vr G hO t hrt hqk1) (cwV 1 hts gX4_apart_X4_thingOf rfl rfl rfl (by decide +kernel) ⟨Nat.le_of_ble_eq_true rfl, Nat.le_of_ble_eq_true rfl⟩) K hG o1 rfl rfl rfl hl.1 rfl (Nat.le_of_ble_eq_true rfl) dX4_apart_2 ⟨Nat.le_of_ble_eq_true rfl, Nat.le_of_ble_eq_true rfl⟩) hS (fun H locs hG hS => ?_)
    refine W.eq (g2 := F0 m 5 ls [.ref (ad 0 t.toNat 0)]) rfl ?_
    have hG : mG D b M s H := hG
    refine lv_astore (lv' := [(5, .ref (ad 0 t.toNat 0)), (0, .ref (ad 8 0 0)), (1, .int (iI t)), (2, .int (iI v)), (3, .int (iI u)), (4, .int (iI w))]) hx hb dX4_apart_5 hl (by decide) rfl (fun ls hl => ?_)
    refine lv_aload_n hx hb dX4_apart_7 rfl (lv_at hl 1 rfl) ?_
    refine lv_iload_n hx hb dX4_apart_8 rfl (lv_at hl 3 rfl) ?_
    rcases Classical.em (0 ≤ v ∧ v < nt) with hqk2 | hqk2
    · obtain ⟨⟨rfk2, hTk2⟩, ⟨hs0k2, hs1k2⟩, ⟨hn0k2, hn1k2⟩, sok2, nek2⟩ := oT v.toNat (by omega)
      have hRk2 : in63 (stF (sp v.toNat) (vt v.toNat) (vw v.toNat) (vr v.toNat) (nn v.toNat).toNat) := stF_rg hs0k2 (fun k hk => (sok2 k (by omega)).2)
      obtain ⟨t1k2, t2k2, t3k2, t4k2, t5k2, t6k2, hBk2, -, -⟩ := id hTk2
      refine m_callfq (m_runV (a := ad 8 0 0) (As := [.int (iI v)]) (rest := []) ⟨hx, hb, hml, hown, hts⟩ (c_X4_thingOf_y l D b _ ad nt ng sp nn jj vt vw vr G hO v hrv hqk2) (cwV 1 hts gX4_apart_X4_thingOf rfl rfl rfl (by decide +kernel) ⟨Nat.le_of_ble_eq_true rfl, Nat.le_of_ble_eq_true rfl⟩) K hG o1 rfl rfl rfl hl.1 rfl (Nat.le_of_ble_eq_true rfl) dX4_apart_9 ⟨Nat.le_of_ble_eq_true rfl, Nat.le_of_ble_eq_true rfl⟩) hS (fun H locs hG hS => ?_)
      refine W.eq (g2 := F0 m 12 ls [.ref (ad 0 v.toNat 0)]) rfl ?_
      have hG : mG D b M s H := hG
      refine lv_astore (lv' := [(6, .ref (ad 0 v.toNat 0)), (5, .ref (ad 0 t.toNat 0)), (0, .ref (ad 8 0 0)), (1, .int (iI t)), (2, .int (iI v)), (3, .int (iI u)), (4, .int (iI w))]) hx hb dX4_apart_12 hl (by decide) rfl (fun ls hl => ?_)
      refine lv_aload hx hb dX4_apart_14 (lv_at hl 1 rfl) ?_
      refine lv_ifnull hx hb dX4_apart_16 ?_
      refine lv_aload hx hb dX4_apart_19 (lv_at hl 0 rfl) ?_
      refine lv_ifnull hx hb dX4_apart_21 ?_
      refine lv_iload_n hx hb dX4_apart_24 rfl (lv_at hl 3 rfl) ?_
      refine lv_iload_n hx hb dX4_apart_25 rfl (lv_at hl 4 rfl) ?_
      refine m_icmp_eq (tgt := 36) hx hb dX4_apart_26 (by decide) hrt hrv (fun c26 => ?_) (fun c26 => ?_)
      · refine lv_iconst (v := iI (-1)) hx hb dX4_apart_36 rfl ?_
        exact m_iret hx hb hr hlk hQ hG hS (Nat.le_of_ble_eq_true rfl) (Nat.le_of_ble_eq_true rfl) dX4_apart_37 ⟨congrArg iI (by rw [if_neg (by omega)]), rfl⟩
      · refine lv_iload_n hx hb dX4_apart_29 rfl (lv_at hl 5 rfl) ?_
        refine m_callfi (m_runS (As := [.int (iI u)]) (rest := []) ⟨hx, hb, hml, hown, hts⟩ (c_X4_isTick l D b _ u hru) (va_cwS 1 hts gX4_apart_X4_isTick rfl rfl rfl (by decide +kernel) ⟨Nat.le_of_ble_eq_true rfl, Nat.le_of_ble_eq_true rfl⟩) K hG rfl hl.1 rfl (Nat.le_of_ble_eq_true rfl) dX4_apart_30 ⟨Nat.le_of_ble_eq_true rfl, Nat.le_of_ble_eq_true rfl⟩) hS (fun H locs hG hS => ?_)
        have hG : mG D b M s H := hG
        refine m_ifb_ne (tgt := 38) hx hb dX4_apart_33 (by decide) (fun c33 => ?_) (fun c33 => ?_)
        · refine lv_aload hx hb dX4_apart_38 (lv_at hl 1 rfl) ?_
          refine lv_iload_n hx hb dX4_apart_40 rfl (lv_at hl 5 rfl) ?_
          refine m_callfq (m_runV (a := ad 0 t.toNat 0) (As := [.int (iI u)]) (rest := []) ⟨hx, hb, hml, hown, hts⟩ (c_X3_reachAt l D b _ (ad 0 t.toNat 0) (ad 1 t.toNat 0) (ad 1 t.toNat 1) (ad 1 t.toNat 2) (ad 2 t.toNat 0) rfk1 (ad 3 t.toNat) (sp t.toNat) (nn t.toNat) (jj t.toNat) (vt t.toNat) (vw t.toNat) (vr t.toNat) (stF (sp t.toNat) (vt t.toNat) (vw t.toNat) (vr t.toNat) (nn t.toNat).toNat) hTk1 u (by omega) (by omega)) (cwV 1 hts gX4_apart_X3_reachAt rfl rfl rfl (by decide +kernel) ⟨Nat.le_of_ble_eq_true rfl, Nat.le_of_ble_eq_true rfl⟩) K hG t1k1 rfl rfl rfl hl.1 rfl (Nat.le_of_ble_eq_true rfl) dX4_apart_41 ⟨Nat.le_of_ble_eq_true rfl, Nat.le_of_ble_eq_true rfl⟩) hS (fun H locs hG hS => ?_)
          refine W.eq (g2 := F0 m 44 ls [.ref (ad 3 t.toNat u.toNat)]) rfl ?_
          have hG : mG D b M s H := hG
          refine lv_astore (lv' := [(7, .ref (ad 3 t.toNat u.toNat)), (6, .ref (ad 0 v.toNat 0)), (5, .ref (ad 0 t.toNat 0)), (0, .ref (ad 8 0 0)), (1, .int (iI t)), (2, .int (iI v)), (3, .int (iI u)), (4, .int (iI w))]) hx hb dX4_apart_44 hl (by decide) rfl (fun ls hl => ?_)
          refine lv_aload hx hb dX4_apart_46 (lv_at hl 1 rfl) ?_
          refine lv_iload_n hx hb dX4_apart_48 rfl (lv_at hl 6 rfl) ?_
          refine m_callfq (m_runV (a := ad 0 v.toNat 0) (As := [.int (iI u)]) (rest := []) ⟨hx, hb, hml, hown, hts⟩ (c_X3_reachAt l D b _ (ad 0 v.toNat 0) (ad 1 v.toNat 0) (ad 1 v.toNat 1) (ad 1 v.toNat 2) (ad 2 v.toNat 0) rfk2 (ad 3 v.toNat) (sp v.toNat) (nn v.toNat) (jj v.toNat) (vt v.toNat) (vw v.toNat) (vr v.toNat) (stF (sp v.toNat) (vt v.toNat) (vw v.toNat) (vr v.toNat) (nn v.toNat).toNat) hTk2 u (by omega) (by omega)) (cwV 1 hts gX4_apart_X3_reachAt rfl rfl rfl (by decide +kernel) ⟨Nat.le_of_ble_eq_true rfl, Nat.le_of_ble_eq_true rfl⟩) K hG t1k2 rfl rfl rfl hl.1 rfl (Nat.le_of_ble_eq_true rfl) dX4_apart_49 ⟨Nat.le_of_ble_eq_true rfl, Nat.le_of_ble_eq_true rfl⟩) hS (fun H locs hG hS => ?_)
          refine W.eq (g2 := F0 m 52 ls [.ref (ad 3 v.toNat u.toNat)]) rfl ?_
          have hG : mG D b M s H := hG
          refine lv_astore (lv' := [(8, .ref (ad 3 v.toNat u.toNat)), (7, .ref (ad 3 t.toNat u.toNat)), (6, .ref (ad 0 v.toNat 0)), (5, .ref (ad 0 t.toNat 0)), (0, .ref (ad 8 0 0)), (1, .int (iI t)), (2, .int (iI v)), (3, .int (iI u)), (4, .int (iI w))]) hx hb dX4_apart_52 hl (by decide) rfl (fun ls hl => ?_)
          refine lv_iload hx hb dX4_apart_54 (lv_at hl 8 rfl) ?_
          rcases (show (w < 0 ∨ 1 < w) ∨ w = 0 ∨ w = 1 by omega) with hc56 | hc56 | hc56
          · refine m_lookup (tgt := 100) (off := 44) hx hb dX4_apart_56 (by decide) hrw (lk_out hc56) (by decide) ?_
            refine lv_iconst (v := iI (-1)) hx hb dX4_apart_100 rfl ?_
            exact m_iret hx hb hr hlk hQ hG hS (Nat.le_of_ble_eq_true rfl) (Nat.le_of_ble_eq_true rfl) dX4_apart_101 ⟨congrArg iI (by rw [if_pos (by omega)]; unfold apN; rw [if_neg (by omega), if_neg (by omega)]), rfl⟩
          · refine m_lookup (tgt := 84) (off := 28) hx hb dX4_apart_56 (by decide) hrw (by rw [hc56]; decide) (by decide) ?_
            refine lv_aload hx hb dX4_apart_84 (lv_at hl 1 rfl) ?_
            refine lv_aload hx hb dX4_apart_86 (lv_at hl 0 rfl) ?_
            refine m_callfi (m_runV (a := ad 3 t.toNat u.toNat) (As := [.ref (ad 3 v.toNat u.toNat)]) (rest := []) ⟨hx, hb, hml, hown, hts⟩ (c_X0_leastApart l D b _ (ad 3 t.toNat u.toNat) ((stF (sp t.toNat) (vt t.toNat) (vw t.toNat) (vr t.toNat) (nn t.toNat).toNat) u.toNat 0) ((stF (sp t.toNat) (vt t.toNat) (vw t.toNat) (vr t.toNat) (nn t.toNat).toNat) u.toNat 1) ((stF (sp t.toNat) (vt t.toNat) (vw t.toNat) (vr t.toNat) (nn t.toNat).toNat) u.toNat 2) ((stF (sp t.toNat) (vt t.toNat) (vw t.toNat) (vr t.toNat) (nn t.toNat).toNat) u.toNat 3) (hBk1 u.toNat (by omega)) (sm63 (hRk1 u.toNat 0)) (sm63 (hRk1 u.toNat 1)) (sm63 (hRk1 u.toNat 2)) (sm63 (hRk1 u.toNat 3)) (ad 3 v.toNat u.toNat) ((stF (sp v.toNat) (vt v.toNat) (vw v.toNat) (vr v.toNat) (nn v.toNat).toNat) u.toNat 0) ((stF (sp v.toNat) (vt v.toNat) (vw v.toNat) (vr v.toNat) (nn v.toNat).toNat) u.toNat 1) ((stF (sp v.toNat) (vt v.toNat) (vw v.toNat) (vr v.toNat) (nn v.toNat).toNat) u.toNat 2) ((stF (sp v.toNat) (vt v.toNat) (vw v.toNat) (vr v.toNat) (nn v.toNat).toNat) u.toNat 3) (hBk2 u.toNat (by omega)) (sm63 (hRk2 u.toNat 0)) (sm63 (hRk2 u.toNat 1)) (sm63 (hRk2 u.toNat 2)) (sm63 (hRk2 u.toNat 3))) (cwV 1 hts gX4_apart_X0_leastApart rfl rfl rfl (by decide +kernel) ⟨Nat.le_of_ble_eq_true rfl, Nat.le_of_ble_eq_true rfl⟩) K hG (hBk1 u.toNat (by omega)) rfl rfl rfl hl.1 rfl (Nat.le_of_ble_eq_true rfl) dX4_apart_88 ⟨Nat.le_of_ble_eq_true rfl, Nat.le_of_ble_eq_true rfl⟩) hS (fun H locs hG hS => ?_)
            have hG : mG D b M s H := hG
            exact m_iret hx hb hr hlk hQ hG hS (Nat.le_of_ble_eq_true rfl) (Nat.le_of_ble_eq_true rfl) dX4_apart_91 ⟨congrArg iI (by rw [if_pos (by omega)]; unfold apN; rw [if_pos (by omega)]), rfl⟩
          · refine m_lookup (tgt := 92) (off := 36) hx hb dX4_apart_56 (by decide) hrw (by rw [hc56]; decide) (by decide) ?_
            refine lv_aload hx hb dX4_apart_92 (lv_at hl 1 rfl) ?_
            refine lv_aload hx hb dX4_apart_94 (lv_at hl 0 rfl) ?_
            refine m_callfi (m_runV (a := ad 3 t.toNat u.toNat) (As := [.ref (ad 3 v.toNat u.toNat)]) (rest := []) ⟨hx, hb, hml, hown, hts⟩ (c_X0_mostApart l D b _ (ad 3 t.toNat u.toNat) ((stF (sp t.toNat) (vt t.toNat) (vw t.toNat) (vr t.toNat) (nn t.toNat).toNat) u.toNat 0) ((stF (sp t.toNat) (vt t.toNat) (vw t.toNat) (vr t.toNat) (nn t.toNat).toNat) u.toNat 1) ((stF (sp t.toNat) (vt t.toNat) (vw t.toNat) (vr t.toNat) (nn t.toNat).toNat) u.toNat 2) ((stF (sp t.toNat) (vt t.toNat) (vw t.toNat) (vr t.toNat) (nn t.toNat).toNat) u.toNat 3) (hBk1 u.toNat (by omega)) (sm63 (hRk1 u.toNat 0)) (sm63 (hRk1 u.toNat 1)) (sm63 (hRk1 u.toNat 2)) (sm63 (hRk1 u.toNat 3)) (ad 3 v.toNat u.toNat) ((stF (sp v.toNat) (vt v.toNat) (vw v.toNat) (vr v.toNat) (nn v.toNat).toNat) u.toNat 0) ((stF (sp v.toNat) (vt v.toNat) (vw v.toNat) (vr v.toNat) (nn v.toNat).toNat) u.toNat 1) ((stF (sp v.toNat) (vt v.toNat) (vw v.toNat) (vr v.toNat) (nn v.toNat).toNat) u.toNat 2) ((stF (sp v.toNat) (vt v.toNat) (vw v.toNat) (vr v.toNat) (nn v.toNat).toNat) u.toNat 3) (hBk2 u.toNat (by omega)) (sm63 (hRk2 u.toNat 0)) (sm63 (hRk2 u.toNat 1)) (sm63 (hRk2 u.toNat 2)) (sm63 (hRk2 u.toNat 3))) (cwV 1 hts gX4_apart_X0_mostApart rfl rfl rfl (by decide +kernel) ⟨Nat.le_of_ble_eq_true rfl, Nat.le_of_ble_eq_true rfl⟩) K hG (hBk1 u.toNat (by omega)) rfl rfl rfl hl.1 rfl (Nat.le_of_ble_eq_true rfl) dX4_apart_96 ⟨Nat.le_of_ble_eq_true rfl, Nat.le_of_ble_eq_true rfl⟩) hS (fun H locs hG hS => ?_)
            have hG : mG D b M s H := hG
            exact m_iret hx hb hr hlk hQ hG hS (Nat.le_of_ble_eq_true rfl) (Nat.le_of_ble_eq_true rfl) dX4_apart_99 ⟨congrArg iI (by rw [if_pos (by omega)]; unfold apN; rw [if_neg (by omega), if_pos (by omega)]), rfl⟩
        · refine lv_iconst (v := iI (-1)) hx hb dX4_apart_36 rfl ?_
          exact m_iret hx hb hr hlk hQ hG hS (Nat.le_of_ble_eq_true rfl) (Nat.le_of_ble_eq_true rfl) dX4_apart_37 ⟨congrArg iI (by rw [if_neg (by omega)]), rfl⟩
    · refine m_callfq (m_runV (a := ad 8 0 0) (As := [.int (iI v)]) (rest := []) ⟨hx, hb, hml, hown, hts⟩ (c_X4_thingOf_n l D b _ ad nt ng sp nn jj vt vw vr G hO v hrv hqk2) (cwV 1 hts gX4_apart_X4_thingOf rfl rfl rfl (by decide +kernel) ⟨Nat.le_of_ble_eq_true rfl, Nat.le_of_ble_eq_true rfl⟩) K hG o1 rfl rfl rfl hl.1 rfl (Nat.le_of_ble_eq_true rfl) dX4_apart_9 ⟨Nat.le_of_ble_eq_true rfl, Nat.le_of_ble_eq_true rfl⟩) hS (fun H locs hG hS => ?_)
      refine W.eq (g2 := F0 m 12 ls [.null]) rfl ?_
      have hG : mG D b M s H := hG
      refine lv_astoreN (lv' := [(6, .null), (5, .ref (ad 0 t.toNat 0)), (0, .ref (ad 8 0 0)), (1, .int (iI t)), (2, .int (iI v)), (3, .int (iI u)), (4, .int (iI w))]) hx hb dX4_apart_12 hl (by decide) rfl (fun ls hl => ?_)
      refine lv_aload hx hb dX4_apart_14 (lv_at hl 1 rfl) ?_
      refine lv_ifnull hx hb dX4_apart_16 ?_
      refine lv_aloadN hx hb dX4_apart_19 (lv_at hl 0 rfl) ?_
      refine lv_ifnullN (tgt := 36) hx hb dX4_apart_21 (by decide) ?_
      refine lv_iconst (v := iI (-1)) hx hb dX4_apart_36 rfl ?_
      exact m_iret hx hb hr hlk hQ hG hS (Nat.le_of_ble_eq_true rfl) (Nat.le_of_ble_eq_true rfl) dX4_apart_37 ⟨congrArg iI (by rw [if_neg (by omega)]), rfl⟩
  · refine m_callfq (m_runV (a := ad 8 0 0) (As := [.int (iI t)]) (rest := []) ⟨hx, hb, hml, hown, hts⟩ (c_X4_thingOf_n l D b _ ad nt ng sp nn jj vt vw vr G hO t hrt hqk1) (cwV 1 hts gX4_apart_X4_thingOf rfl rfl rfl (by decide +kernel) ⟨Nat.le_of_ble_eq_true rfl, Nat.le_of_ble_eq_true rfl⟩) K hG o1 rfl rfl rfl hl.1 rfl (Nat.le_of_ble_eq_true rfl) dX4_apart_2 ⟨Nat.le_of_ble_eq_true rfl, Nat.le_of_ble_eq_true rfl⟩) hS (fun H locs hG hS => ?_)
    refine W.eq (g2 := F0 m 5 ls [.null]) rfl ?_
    have hG : mG D b M s H := hG
    refine lv_astoreN (lv' := [(5, .null), (0, .ref (ad 8 0 0)), (1, .int (iI t)), (2, .int (iI v)), (3, .int (iI u)), (4, .int (iI w))]) hx hb dX4_apart_5 hl (by decide) rfl (fun ls hl => ?_)
    refine lv_aload_n hx hb dX4_apart_7 rfl (lv_at hl 1 rfl) ?_
    refine lv_iload_n hx hb dX4_apart_8 rfl (lv_at hl 3 rfl) ?_
    rcases Classical.em (0 ≤ v ∧ v < nt) with hqk3 | hqk3
    · obtain ⟨⟨rfk3, hTk3⟩, ⟨hs0k3, hs1k3⟩, ⟨hn0k3, hn1k3⟩, sok3, nek3⟩ := oT v.toNat (by omega)
      have hRk3 : in63 (stF (sp v.toNat) (vt v.toNat) (vw v.toNat) (vr v.toNat) (nn v.toNat).toNat) := stF_rg hs0k3 (fun k hk => (sok3 k (by omega)).2)
      obtain ⟨t1k3, t2k3, t3k3, t4k3, t5k3, t6k3, hBk3, -, -⟩ := id hTk3
      refine m_callfq (m_runV (a := ad 8 0 0) (As := [.int (iI v)]) (rest := []) ⟨hx, hb, hml, hown, hts⟩ (c_X4_thingOf_y l D b _ ad nt ng sp nn jj vt vw vr G hO v hrv hqk3) (cwV 1 hts gX4_apart_X4_thingOf rfl rfl rfl (by decide +kernel) ⟨Nat.le_of_ble_eq_true rfl, Nat.le_of_ble_eq_true rfl⟩) K hG o1 rfl rfl rfl hl.1 rfl (Nat.le_of_ble_eq_true rfl) dX4_apart_9 ⟨Nat.le_of_ble_eq_true rfl, Nat.le_of_ble_eq_true rfl⟩) hS (fun H locs hG hS => ?_)
      refine W.eq (g2 := F0 m 12 ls [.ref (ad 0 v.toNat 0)]) rfl ?_
      have hG : mG D b M s H := hG
      refine lv_astore (lv' := [(6, .ref (ad 0 v.toNat 0)), (5, .null), (0, .ref (ad 8 0 0)), (1, .int (iI t)), (2, .int (iI v)), (3, .int (iI u)), (4, .int (iI w))]) hx hb dX4_apart_12 hl (by decide) rfl (fun ls hl => ?_)
      refine lv_aloadN hx hb dX4_apart_14 (lv_at hl 1 rfl) ?_
      refine lv_ifnullN (tgt := 36) hx hb dX4_apart_16 (by decide) ?_
      refine lv_iconst (v := iI (-1)) hx hb dX4_apart_36 rfl ?_
      exact m_iret hx hb hr hlk hQ hG hS (Nat.le_of_ble_eq_true rfl) (Nat.le_of_ble_eq_true rfl) dX4_apart_37 ⟨congrArg iI (by rw [if_neg (by omega)]), rfl⟩
    · refine m_callfq (m_runV (a := ad 8 0 0) (As := [.int (iI v)]) (rest := []) ⟨hx, hb, hml, hown, hts⟩ (c_X4_thingOf_n l D b _ ad nt ng sp nn jj vt vw vr G hO v hrv hqk3) (cwV 1 hts gX4_apart_X4_thingOf rfl rfl rfl (by decide +kernel) ⟨Nat.le_of_ble_eq_true rfl, Nat.le_of_ble_eq_true rfl⟩) K hG o1 rfl rfl rfl hl.1 rfl (Nat.le_of_ble_eq_true rfl) dX4_apart_9 ⟨Nat.le_of_ble_eq_true rfl, Nat.le_of_ble_eq_true rfl⟩) hS (fun H locs hG hS => ?_)
      refine W.eq (g2 := F0 m 12 ls [.null]) rfl ?_
      have hG : mG D b M s H := hG
      refine lv_astoreN (lv' := [(6, .null), (5, .null), (0, .ref (ad 8 0 0)), (1, .int (iI t)), (2, .int (iI v)), (3, .int (iI u)), (4, .int (iI w))]) hx hb dX4_apart_12 hl (by decide) rfl (fun ls hl => ?_)
      refine lv_aloadN hx hb dX4_apart_14 (lv_at hl 1 rfl) ?_
      refine lv_ifnullN (tgt := 36) hx hb dX4_apart_16 (by decide) ?_
      refine lv_iconst (v := iI (-1)) hx hb dX4_apart_36 rfl ?_
      exact m_iret hx hb hr hlk hQ hG hS (Nat.le_of_ble_eq_true rfl) (Nat.le_of_ble_eq_true rfl) dX4_apart_37 ⟨congrArg iI (by rw [if_neg (by omega)]), rfl⟩

def smN (q : Nat → Int) : Nat → Int
  | 0 => 0
  | n + 1 => smN q n + q n
set_option maxHeartbeats 4000000 in
set_option maxRecDepth 100000 in
theorem c_X4_sightsOfAll (l : Launch) (D : va_G) (b : Nat) (M : mM) (ad : Nat → Nat → Nat → Nat) (nt ng : Int) (sp nn jj : Nat → Int) (vt vw vr : Nat → Nat → Int) (G : Nat → Nat → Nat → Bool) (hO : OvOk M ad nt ng sp nn jj vt vw vr G) : Met l yX4_sightsOfAll wsX4_sightsOfAll ({ frames := 1, cells := 0, slots := 0, locals := 20 } : Room) (mPc [.ref (ad 8 0 0)] D b M) (mQi D b (fI (smN nn nt.toNat) M)) 0 0 (mF b) := by
  refine m_met (cc := cX4_sightsOfAll) (maxL := 6) (ret := (some .int)) (by decide) rfl (Nat.le_of_ble_eq_true rfl) ?_
  intro p e s m args below meth c Q ls hx hb hml hr hts hown hlk hnm hQ K hG hS hl
  have hown : s.vm.findClass RX4 = some m.cls := hown
  have hl : lv_has ls 6 [(0, .ref (ad 8 0 0))] := hl
  obtain ⟨o1, ⟨tf0, o2, o3, o3n⟩, ⟨gf0, o4, o5⟩, oT, oG, ⟨SO, o6, o7⟩, oA, ⟨b1, b2, b3, b4⟩⟩ := id hO
  refine lv_iconst (v := iI 0) hx hb dX4_sightsOfAll_0 rfl ?_
  refine lv_istore_n (lv' := [(1, .int (iI 0)), (0, .ref (ad 8 0 0))]) hx hb dX4_sightsOfAll_1 rfl hl (by decide) rfl (fun ls hl => ?_)
  refine lv_aload_n hx hb dX4_sightsOfAll_2 rfl (lv_at hl 1 rfl) ?_
  refine m_get (ci := 4) (v := .ref (ad 9 0 0)) (C := RX4) (T := TX4) (N := 6) hx hb hts (by decide +kernel) hown K hG o1 rfl 0 (by decide) (by decide +kernel) rfl dX4_sightsOfAll_3 ?_
  refine lv_astore_n (lv' := [(2, .ref (ad 9 0 0)), (1, .int (iI 0)), (0, .ref (ad 8 0 0))]) hx hb dX4_sightsOfAll_6 rfl hl (by decide) rfl (fun ls hl => ?_)
  refine lv_aload_n hx hb dX4_sightsOfAll_7 rfl (lv_at hl 0 rfl) ?_
  refine m_qlen (w := 6) hx hb hG o2 (by decide) dX4_sightsOfAll_8 ?_
  refine lv_istore_n (lv' := [(3, .int (iI 6)), (2, .ref (ad 9 0 0)), (1, .int (iI 0)), (0, .ref (ad 8 0 0))]) hx hb dX4_sightsOfAll_9 rfl hl (by decide) rfl (fun ls hl => ?_)
  refine lv_iconst (v := iI 0) hx hb dX4_sightsOfAll_10 rfl ?_
  refine lv_istore (lv' := [(4, .int (iI 0)), (3, .int (iI 6)), (2, .ref (ad 9 0 0)), (1, .int (iI 0)), (0, .ref (ad 8 0 0))]) hx hb dX4_sightsOfAll_11 hl (by decide) rfl (fun ls hl => ?_)
  have loop13 : ∀ (fuel : Nat) (i : Int) (x : Int) (H : Heap) (locs : List Loc) (ls : Array Slot), (0 ≤ i) → (i ≤ 6) → (x = smN nn (min i nt).toNat) → (6 - i).toNat < fuel → mG D b M s H → va_S (mF b) s.heap H locs → lv_has ls 6 [(4, .int (iI i)), (3, .int (iI 6)), (2, .ref (ad 9 0 0)), (1, .int (iI x)), (0, .ref (ad 8 0 0))] → W p l e ({ frames := 1, cells := 0, slots := 0, locals := 20 } : Room) s m args below meth c H locs 0 0 Q (F0 m 13 ls []) := by
    intro fuel
    induction fuel with
    | zero => intro i x H locs ls hi0 hi1 hs hm; exact absurd hm (Nat.not_lt_zero _)
    | succ fuel ih13 =>
      intro i x H locs ls hi0 hi1 hs hm hG hS hl
      refine lv_iload hx hb dX4_sightsOfAll_13 (lv_at hl 0 rfl) ?_
      refine lv_iload_n hx hb dX4_sightsOfAll_15 rfl (lv_at hl 1 rfl) ?_
      refine m_icmp_ge (tgt := 44) hx hb dX4_sightsOfAll_16 (by decide) ⟨by omega, by omega⟩ ⟨by omega, by omega⟩ (fun c16 => ?_) (fun c16 => ?_)
      · refine lv_iload_n hx hb dX4_sightsOfAll_44 rfl (lv_at hl 3 rfl) ?_
        exact m_iret hx hb hr hlk hQ hG hS (Nat.le_of_ble_eq_true rfl) (Nat.le_of_ble_eq_true rfl) dX4_sightsOfAll_45 ⟨congrArg iI (by rw [hs, show (min i nt).toNat = nt.toNat by omega]), rfl⟩
      · refine lv_aload_n hx hb dX4_sightsOfAll_19 rfl (lv_at hl 2 rfl) ?_
        refine lv_iload hx hb dX4_sightsOfAll_20 (lv_at hl 0 rfl) ?_
        rcases Int.lt_or_le i nt with ci | ci
        · obtain ⟨⟨rfc, hTc⟩, ⟨hs0c, hs1c⟩, ⟨hn0c, hn1c⟩, soc, nec⟩ := oT i.toNat (by omega)
          have hRc : in63 (stF (sp i.toNat) (vt i.toNat) (vw i.toNat) (vr i.toNat) (nn i.toNat).toNat) := stF_rg hs0c (fun k hk => (soc k (by omega)).2)
          obtain ⟨t1c, t2c, t3c, t4c, t5c, t6c, hBc, -, -⟩ := id hTc
          refine m_aald hx hb hG o2 i.toNat (by omega) (by omega) (by decide) (o3 i.toNat (by omega)) dX4_sightsOfAll_22 ?_
          refine lv_astore (lv' := [(5, .ref (ad 0 i.toNat 0)), (4, .int (iI i)), (3, .int (iI 6)), (2, .ref (ad 9 0 0)), (1, .int (iI x)), (0, .ref (ad 8 0 0))]) hx hb dX4_sightsOfAll_23 hl (by decide) rfl (fun ls hl => ?_)
          refine lv_aload hx hb dX4_sightsOfAll_25 (lv_at hl 0 rfl) ?_
          refine lv_ifnull hx hb dX4_sightsOfAll_27 ?_
          refine lv_iload_n hx hb dX4_sightsOfAll_30 rfl (lv_at hl 4 rfl) ?_
          refine lv_aload hx hb dX4_sightsOfAll_31 (lv_at hl 0 rfl) ?_
          refine m_callfi (m_runV (a := ad 0 i.toNat 0) (As := []) (rest := [.int (iI x)]) ⟨hx, hb, hml, hown, hts⟩ (c_X3_sights l D b _ (ad 0 i.toNat 0) (ad 1 i.toNat 0) (ad 1 i.toNat 1) (ad 1 i.toNat 2) (ad 2 i.toNat 0) rfc (ad 3 i.toNat) (sp i.toNat) (nn i.toNat) (jj i.toNat) (vt i.toNat) (vw i.toNat) (vr i.toNat) (stF (sp i.toNat) (vt i.toNat) (vw i.toNat) (vr i.toNat) (nn i.toNat).toNat) hTc) (cwV 0 hts gX4_sightsOfAll_X3_sights rfl rfl rfl (by decide +kernel) ⟨Nat.le_of_ble_eq_true rfl, Nat.le_of_ble_eq_true rfl⟩) K hG t1c rfl rfl rfl hl.1 rfl (Nat.le_of_ble_eq_true rfl) dX4_sightsOfAll_33 ⟨Nat.le_of_ble_eq_true rfl, Nat.le_of_ble_eq_true rfl⟩) hS (fun H locs hG hS => ?_)
          have hG : mG D b M s H := hG
          refine m_iadd hx hb dX4_sightsOfAll_36 ?_
          refine lv_istore_n (lv' := [(1, .int (iI (x + (nn i.toNat)))), (5, .ref (ad 0 i.toNat 0)), (4, .int (iI i)), (3, .int (iI 6)), (2, .ref (ad 9 0 0)), (0, .ref (ad 8 0 0))]) hx hb dX4_sightsOfAll_37 rfl hl (by decide) rfl (fun ls hl => ?_)
          refine m_iinc (lv' := [(4, .int (iI (i + 1))), (1, .int (iI (x + (nn i.toNat)))), (5, .ref (ad 0 i.toNat 0)), (3, .int (iI 6)), (2, .ref (ad 9 0 0)), (0, .ref (ad 8 0 0))]) (k := 2) hx hb dX4_sightsOfAll_38 hl rfl (by decide) rfl (fun ls hl => ?_)
          refine lv_goto (tgt := 13) hx hb dX4_sightsOfAll_41 (by decide) ?_
          exact ih13 (i + 1) (x + (nn i.toNat)) _ _ _ (by omega) (by omega) (by rw [hs, show (min (i + 1) nt).toNat = i.toNat + 1 by omega, show (min i nt).toNat = i.toNat by omega, smN]) (by omega) hG hS (lv_sub hl [0, 3, 4, 1, 5] rfl)
        · refine m_aaldN hx hb hG o2 i.toNat (by omega) (by omega) (by decide) (o3n i.toNat (by omega)) dX4_sightsOfAll_22 ?_
          refine lv_astoreN (lv' := [(5, .null), (4, .int (iI i)), (3, .int (iI 6)), (2, .ref (ad 9 0 0)), (1, .int (iI x)), (0, .ref (ad 8 0 0))]) hx hb dX4_sightsOfAll_23 hl (by decide) rfl (fun ls hl => ?_)
          refine lv_aloadN hx hb dX4_sightsOfAll_25 (lv_at hl 0 rfl) ?_
          refine lv_ifnullN (tgt := 38) hx hb dX4_sightsOfAll_27 (by decide) ?_
          refine m_iinc (lv' := [(4, .int (iI (i + 1))), (5, .null), (3, .int (iI 6)), (2, .ref (ad 9 0 0)), (1, .int (iI x)), (0, .ref (ad 8 0 0))]) (k := 1) hx hb dX4_sightsOfAll_38 hl rfl (by decide) rfl (fun ls hl => ?_)
          refine lv_goto (tgt := 13) hx hb dX4_sightsOfAll_41 (by decide) ?_
          exact ih13 (i + 1) x _ _ _ (by omega) (by omega) (by rw [hs, show (min (i + 1) nt).toNat = (min i nt).toNat by omega]) (by omega) hG hS (lv_sub hl [0, 2, 3, 4, 5] rfl)
  exact loop13 _ 0 0 _ _ _ (by omega) (by omega) (by rw [show (min 0 nt).toNat = 0 by omega, smN]) (Nat.lt_succ_self _) hG hS (lv_sub hl [0, 1, 2, 3, 4] rfl)

set_option maxHeartbeats 4000000 in
set_option maxRecDepth 100000 in
theorem c_X4_count (l : Launch) (D : va_G) (b : Nat) (M : mM) (ad : Nat → Nat → Nat → Nat) (nt ng : Int) (sp nn jj : Nat → Int) (vt vw vr : Nat → Nat → Int) (G : Nat → Nat → Nat → Bool) (hO : OvOk M ad nt ng sp nn jj vt vw vr G) (w : Int) (hrw : rg w) : Met l yX4_count wsX4_count ({ frames := 2, cells := 0, slots := 0, locals := 45 } : Room) (mPc [.ref (ad 8 0 0), .int (iI w)] D b M) (mQi D b (fI (if w = 0 then nt else if w = 1 then smN nn nt.toNat else if w = 2 then ng else -1) M)) 0 0 (mF b) := by
  refine m_met (cc := cX4_count) (maxL := 2) (ret := (some .int)) (by decide) rfl (Nat.le_of_ble_eq_true rfl) ?_
  intro p e s m args below meth c Q ls hx hb hml hr hts hown hlk hnm hQ K hG hS hl
  have hown : s.vm.findClass RX4 = some m.cls := hown
  have hl : lv_has ls 2 [(0, .ref (ad 8 0 0)), (1, .int (iI w))] := hl
  obtain ⟨o1, ⟨tf0, o2, o3, o3n⟩, ⟨gf0, o4, o5⟩, oT, oG, ⟨SO, o6, o7⟩, oA, ⟨b1, b2, b3, b4⟩⟩ := id hO
  refine lv_iload_n hx hb dX4_count_0 rfl (lv_at hl 1 rfl) ?_
  rcases (show (w < 0 ∨ 2 < w) ∨ w = 0 ∨ w = 1 ∨ w = 2 by omega) with hc1 | hc1 | hc1 | hc1
  · refine m_tabOut (tgt := 43) hx hb dX4_count_1 hrw (by omega) (by decide) ?_
    refine lv_iconst (v := iI (-1)) hx hb dX4_count_43 rfl ?_
    exact m_iret hx hb hr hlk hQ hG hS (Nat.le_of_ble_eq_true rfl) (Nat.le_of_ble_eq_true rfl) dX4_count_44 ⟨congrArg iI (by rw [if_neg (by omega), if_neg (by omega), if_neg (by omega)]), rfl⟩
  · refine m_tabIn (tgt := 28) (off := 27) hx hb dX4_count_1 hrw (by omega) (by omega) (by rw [hc1]; rfl) (by decide) ?_
    refine lv_aload_n hx hb dX4_count_28 rfl (lv_at hl 0 rfl) ?_
    refine m_get (ci := 4) (v := .int (iI nt)) (C := RX4) (T := TX4) (N := 6) hx hb hts (by decide +kernel) hown K hG o1 rfl 4 (by decide) (by decide +kernel) rfl dX4_count_29 ?_
    exact m_iret hx hb hr hlk hQ hG hS (Nat.le_of_ble_eq_true rfl) (Nat.le_of_ble_eq_true rfl) dX4_count_32 ⟨congrArg iI (by rw [if_pos (by omega)]), rfl⟩
  · refine m_tabIn (tgt := 33) (off := 32) hx hb dX4_count_1 hrw (by omega) (by omega) (by rw [hc1]; rfl) (by decide) ?_
    refine lv_aload_n hx hb dX4_count_33 rfl (lv_at hl 0 rfl) ?_
    refine m_callfi (m_runV (a := ad 8 0 0) (As := []) (rest := []) ⟨hx, hb, hml, hown, hts⟩ (c_X4_sightsOfAll l D b _ ad nt ng sp nn jj vt vw vr G hO) (cwV 0 hts gX4_count_X4_sightsOfAll rfl rfl rfl (by decide +kernel) ⟨Nat.le_of_ble_eq_true rfl, Nat.le_of_ble_eq_true rfl⟩) K hG o1 rfl rfl rfl hl.1 rfl (Nat.le_of_ble_eq_true rfl) dX4_count_34 ⟨Nat.le_of_ble_eq_true rfl, Nat.le_of_ble_eq_true rfl⟩) hS (fun H locs hG hS => ?_)
    have hG : mG D b M s H := hG
    exact m_iret hx hb hr hlk hQ hG hS (Nat.le_of_ble_eq_true rfl) (Nat.le_of_ble_eq_true rfl) dX4_count_37 ⟨congrArg iI (by rw [if_neg (by omega), if_pos (by omega)]), rfl⟩
  · refine m_tabIn (tgt := 38) (off := 37) hx hb dX4_count_1 hrw (by omega) (by omega) (by rw [hc1]; rfl) (by decide) ?_
    refine lv_aload_n hx hb dX4_count_38 rfl (lv_at hl 0 rfl) ?_
    refine m_get (ci := 4) (v := .int (iI ng)) (C := RX4) (T := TX4) (N := 6) hx hb hts (by decide +kernel) hown K hG o1 rfl 5 (by decide) (by decide +kernel) rfl dX4_count_39 ?_
    exact m_iret hx hb hr hlk hQ hG hS (Nat.le_of_ble_eq_true rfl) (Nat.le_of_ble_eq_true rfl) dX4_count_42 ⟨congrArg iI (by rw [if_neg (by omega), if_neg (by omega), if_pos (by omega)]), rfl⟩

