theorem live_t0 {nt ng : Int} {k i t : Nat} (hl : live nt ng k i t) (h : k = 4 ∨ k = 5) : t = 0 := by
  rcases hl with g | g | g | g | g | g <;> omega
theorem live_dn {nt ng : Int} {k i t : Nat} (hl : live nt (ng + 1) k i t) (h0 : 0 ≤ ng) (h4 : ¬ (k = 4 ∧ i = ng.toNat)) (h5 : ¬ (k = 5 ∧ i = ng.toNat)) : live nt ng k i t := by
  rcases hl with h | h | h | h | ⟨g1, g2, g3⟩ | h
  · exact Or.inl h
  · exact Or.inr (Or.inl h)
  · exact Or.inr (Or.inr (Or.inl h))
  · exact Or.inr (Or.inr (Or.inr (Or.inl h)))
  · refine Or.inr (Or.inr (Or.inr (Or.inr (Or.inl ⟨g1, ?_, g3⟩))))
    rcases g2 with g2 | g2
    · exact Or.inl (by omega)
    · exact Or.inr g2
  · exact Or.inr (Or.inr (Or.inr (Or.inr (Or.inr h))))
theorem Ov_some {M : mM} {ad : Nat → Nat → Nat → Nat} {nt ng : Int} {sp nn jj : Nat → Int} {vt vw vr : Nat → Nat → Int} {G : Nat → Nat → Nat → Bool} (hO : OvOk M ad nt ng sp nn jj vt vw vr G) {k i t : Nat} (hl : live nt ng k i t) : ∃ v, M (ad k i t) = some v := by
  obtain ⟨o1, ⟨tf0, o2, o3, o3n⟩, ⟨gf0, o4, o5⟩, oT, oG, ⟨SO, o6, o7⟩, ⟨lf, f, g, S, oA⟩, ⟨b1, b2, b3, b4⟩⟩ := hO
  unfold live at hl
  rcases hl with ⟨rfl, h, rfl⟩ | ⟨rfl, h, h2⟩ | ⟨rfl, h, rfl⟩ | ⟨rfl, h, h2⟩ | ⟨h0, h, rfl⟩ | ⟨h0, rfl, rfl⟩
  · obtain ⟨⟨rf, h3⟩, -⟩ := oT i h; exact ⟨_, h3.1⟩
  · obtain ⟨⟨rf, h3⟩, -⟩ := oT i h
    rcases (show t = 0 ∨ t = 1 ∨ t = 2 by omega) with rfl | rfl | rfl
    · exact ⟨_, h3.2.1⟩
    · exact ⟨_, h3.2.2.1⟩
    · exact ⟨_, h3.2.2.2.1⟩
  · obtain ⟨⟨rf, h3⟩, -⟩ := oT i h; exact ⟨_, h3.2.2.2.2.1⟩
  · obtain ⟨⟨rf, h3⟩, -⟩ := oT i h; exact ⟨_, h3.2.2.2.2.2.2.1 t h2⟩
  · rcases h with h | ⟨h, h9⟩
    · rcases h0 with rfl | rfl
      · exact ⟨_, (oG i h).1⟩
      · exact ⟨_, (oG i h).2⟩
    · by_cases h8 : i = 4
      · subst h8
        rcases h0 with rfl | rfl
        · exact ⟨_, o6⟩
        · exact ⟨_, o7⟩
      · have e : i = 5 + (i - 5) := by omega
        rw [e]
        rcases h0 with rfl | rfl
        · exact ⟨_, oA.2.2.2.1 (i - 5) (by omega)⟩
        · exact ⟨_, oA.2.2.2.2.1 (i - 5) (by omega)⟩
  · rcases (show k = 6 ∨ k = 7 ∨ k = 8 ∨ k = 9 ∨ k = 10 by omega) with rfl | rfl | rfl | rfl | rfl
    · exact ⟨_, oA.1⟩
    · exact ⟨_, oA.2.1⟩
    · exact ⟨_, o1⟩
    · exact ⟨_, o2⟩
    · exact ⟨_, o4⟩

set_option maxHeartbeats 4000000 in
theorem Ov_newgr {M M1 : mM} {ad : Nat → Nat → Nat → Nat} {nt ng : Int} {sp nn jj : Nat → Int} {vt vw vr : Nat → Nat → Int} {G : Nat → Nat → Nat → Bool} {tg : Nat → Nat × Nat × Nat} (hO : OvOk M ad nt ng sp nn jj vt vw vr G) (hT : Tg tg ad nt ng) (hng : ng < 4) {q r : Nat} (hq : M q = none) (hr : M r = none) (hqr : q ≠ r) {gf : Nat → Option Nat} (hgf : M (ad 10 0 0) = some (aQ RX1 4 gf)) (m1 : M1 q = some (Pl r)) (m2 : M1 r = some (aL 64 (fun _ _ => false))) (m3 : M1 (ad 8 0 0) = some (Ov ad nt (ng + 1))) (m4 : M1 (ad 10 0 0) = some (aQ RX1 4 (va_up gf ng.toNat (some q)))) (hk : ∀ a, a ≠ q → a ≠ r → a ≠ ad 8 0 0 → a ≠ ad 10 0 0 → M1 a = M a) :
    ∃ (ad2 : Nat → Nat → Nat → Nat) (tg2 : Nat → Nat × Nat × Nat), OvOk M1 ad2 nt (ng + 1) sp nn jj vt vw vr (va_up G ng.toNat (fun _ _ => false)) ∧ Tg tg2 ad2 nt (ng + 1) ∧ (∀ a, M a ≠ none → tg2 a = tg a) ∧ ad2 8 0 0 = ad 8 0 0 := by
  obtain ⟨o1, ⟨tf0, o2, o3, o3n⟩, ⟨gf0, o4, o5⟩, oT, oG, ⟨SO, o6, o7⟩, ⟨lf, f, g, S, oA⟩, ⟨b1, b2, b3, b4⟩⟩ := id hO
  have hgg : gf0 = gf := by
    have := Option.some.inj (o4.symm.trans hgf)
    simpa using this
  subst hgg
  obtain ⟨ad2, had⟩ : ∃ ad2 : Nat → Nat → Nat → Nat, ad2 = fun k i t => if k = 4 ∧ i = ng.toNat then q else if k = 5 ∧ i = ng.toNat then r else ad k i t := ⟨_, rfl⟩
  have ea : ∀ k c t, ¬ (k = 4 ∧ c = ng.toNat) → ¬ (k = 5 ∧ c = ng.toNat) → ad2 k c t = ad k c t := fun k c t h1 h2 => by rw [had]; show (if k = 4 ∧ c = ng.toNat then q else if k = 5 ∧ c = ng.toNat then r else ad k c t) = _; rw [if_neg h1, if_neg h2]
  have e4 : ad2 4 ng.toNat 0 = q := by rw [had]; show (if 4 = 4 ∧ ng.toNat = ng.toNat then q else _) = q; rw [if_pos ⟨rfl, rfl⟩]
  have e5 : ad2 5 ng.toNat 0 = r := by rw [had]; show (if 5 = 4 ∧ ng.toNat = ng.toNat then q else if 5 = 5 ∧ ng.toNat = ng.toNat then r else _) = r; rw [if_neg (by omega), if_pos ⟨rfl, rfl⟩]
  have kp : ∀ {k c t : Nat} {v : mE}, live nt ng k c t → ¬ (k = 8 ∨ k = 10) → M (ad k c t) = some v → M1 (ad k c t) = M (ad k c t) := fun hl hn h => hk _ (mfresh hq h) (mfresh hr h) (hT.ne hl (by unfold live; omega) (by omega)) (hT.ne hl (by unfold live; omega) (by omega))
  refine ⟨ad2, fun a => if a = q then (4, ng.toNat, 0) else if a = r then (5, ng.toNat, 0) else tg a, ⟨?_, ⟨tf0, ?_, ?_, o3n⟩, ⟨va_up gf0 ng.toNat (some q), ?_, ?_⟩, ?_, ?_, ⟨SO, ?_, ?_⟩, ⟨lf, f, g, S, ?_⟩, ⟨b1, b2, by omega, by omega⟩⟩, ?_, ?_, ea 8 0 0 (by omega) (by omega)⟩
  · rw [ea 8 0 0 (by omega) (by omega), m3]
    show some (Ov ad nt (ng + 1)) = some (Ov ad2 nt (ng + 1))
    unfold Ov
    rw [ea 9 0 0 (by omega) (by omega), ea 10 0 0 (by omega) (by omega), ea 4 4 0 (by omega) (by omega), ea 6 0 0 (by omega) (by omega)]
  · rw [ea 9 0 0 (by omega) (by omega)]; exact (kp (by unfold live; omega) (by omega) o2).trans o2
  · intro i hi; rw [ea 0 i 0 (by omega) (by omega)]; exact o3 i hi
  · rw [ea 10 0 0 (by omega) (by omega)]; exact m4
  · intro i hi
    by_cases h : i = ng.toNat
    · rw [h, va_up_self, e4]
    · rw [va_up_ne _ _ h, ea 4 i 0 (by omega) (by omega)]; exact o5 i (by omega)
  · intro i hi
    obtain ⟨⟨rf2, h2⟩, h3⟩ := oT i hi
    rw [ea 0 i 0 (by omega) (by omega), ea 1 i 0 (by omega) (by omega), ea 1 i 1 (by omega) (by omega), ea 1 i 2 (by omega) (by omega), ea 2 i 0 (by omega) (by omega), show ad2 3 i = ad 3 i from funext fun t => ea 3 i t (by omega) (by omega)]
    exact ⟨⟨rf2, ThOk_keep h2 (kp (by unfold live; omega) (by omega) h2.1) (kp (by unfold live; omega) (by omega) h2.2.1) (kp (by unfold live; omega) (by omega) h2.2.2.1) (kp (by unfold live; omega) (by omega) h2.2.2.2.1) (kp (by unfold live; omega) (by omega) h2.2.2.2.2.1) (fun t z => kp (by unfold live; omega) (by omega) (h2.2.2.2.2.2.2.1 t z))⟩, h3⟩
  · intro i hi
    by_cases h : i = ng.toNat
    · rw [h, va_up_self, e4, e5]; exact ⟨m1, m2⟩
    · rw [va_up_ne _ _ h, ea 4 i 0 (by omega) (by omega), ea 5 i 0 (by omega) (by omega)]
      have := oG i (by omega)
      exact ⟨(kp (by unfold live; omega) (by omega) this.1).trans this.1, (kp (by unfold live; omega) (by omega) this.2).trans this.2⟩
  · rw [ea 4 4 0 (by omega) (by omega), ea 5 4 0 (by omega) (by omega)]; exact (kp (by unfold live; omega) (by omega) o6).trans o6
  · rw [ea 5 4 0 (by omega) (by omega)]; exact (kp (by unfold live; omega) (by omega) o7).trans o7
  · rw [ea 6 0 0 (by omega) (by omega), ea 7 0 0 (by omega) (by omega), show (fun k => ad2 4 (5 + k) 0) = (fun k => ad 4 (5 + k) 0) from funext fun k => ea _ _ _ (by omega) (by omega), show (fun k => ad2 5 (5 + k) 0) = (fun k => ad 5 (5 + k) 0) from funext fun k => ea _ _ _ (by omega) (by omega)]
    exact TaOk_keep oA (kp (by unfold live; omega) (by omega) oA.1) (kp (by unfold live; omega) (by omega) oA.2.1) (fun k z => kp (by unfold live; omega) (by omega) (oA.2.2.2.1 k z)) (fun k z => kp (by unfold live; omega) (by omega) (oA.2.2.2.2.1 k z))
  · intro k i t hl
    by_cases h4 : k = 4 ∧ i = ng.toNat
    · obtain ⟨rfl, rfl⟩ := h4
      have ht : t = 0 := live_t0 hl (Or.inl rfl)
      subst ht
      rw [e4]
      show (if q = q then _ else _) = _
      rw [if_pos rfl]
    · by_cases h5 : k = 5 ∧ i = ng.toNat
      · obtain ⟨rfl, rfl⟩ := h5
        have ht : t = 0 := live_t0 hl (Or.inr rfl)
        subst ht
        rw [e5]
        show (if r = q then _ else if r = r then _ else _) = _
        rw [if_neg (Ne.symm hqr), if_pos rfl]
      · rw [ea k i t h4 h5]
        have hl2 : live nt ng k i t := live_dn hl b3 h4 h5
        have hsome : ∃ v, M (ad k i t) = some v := Ov_some hO hl2
        obtain ⟨v, hv⟩ := hsome
        show (if ad k i t = q then _ else if ad k i t = r then _ else _) = _
        rw [if_neg (mfresh hq hv), if_neg (mfresh hr hv)]
        exact hT k i t hl2
  · intro a ha
    show (if a = q then _ else if a = r then _ else _) = _
    rw [if_neg (fun z => ha (by rw [z]; exact hq)), if_neg (fun z => ha (by rw [z]; exact hr))]

set_option maxHeartbeats 4000000 in
set_option maxRecDepth 100000 in
theorem c_X4_ground (l : Launch) (D : va_G) (b : Nat) (M : mM) (ad : Nat → Nat → Nat → Nat) (nt ng : Int) (sp nn jj : Nat → Int) (vt vw vr : Nat → Nat → Int) (G : Nat → Nat → Nat → Bool) (hO : OvOk M ad nt ng sp nn jj vt vw vr G) (tg : Nat → Nat × Nat × Nat) (hTg : Tg tg ad nt ng) : Met l yX4_ground wsX4_ground ({ frames := 2, cells := 2, slots := 65, locals := 32 } : Room) (mPc [.ref (ad 8 0 0)] D b M) (mQi D b (fun r M1 => (4 ≤ ng ∧ r = iI (-1) ∧ M1 = M) ∨ (ng < 4 ∧ r = iI ng ∧ ∃ (ad2 : Nat → Nat → Nat → Nat) (tg2 : Nat → Nat × Nat × Nat), OvOk M1 ad2 nt (ng + 1) sp nn jj vt vw vr (va_up G ng.toNat (fun _ _ => false)) ∧ Tg tg2 ad2 nt (ng + 1) ∧ frB tg M M1 ∧ (∀ a, M a ≠ none → tg2 a = tg a) ∧ ad2 8 0 0 = ad 8 0 0))) 2 65 (mF b) := by
  refine m_met (cc := cX4_ground) (maxL := 1) (ret := (some .int)) (by decide) rfl (Nat.le_of_ble_eq_true rfl) ?_
  intro p e s m args below meth c Q ls hx hb hml hr hts hown hlk hnm hQ K hG hS hl
  have hown : s.vm.findClass RX4 = some m.cls := hown
  have hl : lv_has ls 1 [(0, .ref (ad 8 0 0))] := hl
  obtain ⟨o1, ⟨tf0, o2, o3, o3n⟩, ⟨gf0, o4, o5⟩, oT, oG, ⟨SO, o6, o7⟩, oA, ⟨b1, b2, b3, b4⟩⟩ := id hO
  refine lv_aload_n hx hb dX4_ground_0 rfl (lv_at hl 0 rfl) ?_
  refine m_get (ci := 4) (v := .int (iI ng)) (C := RX4) (T := TX4) (N := 6) hx hb hts (by decide +kernel) hown K hG o1 rfl 5 (by decide) (by decide +kernel) rfl dX4_ground_1 ?_
  refine lv_iconst (v := iI 4) hx hb dX4_ground_4 rfl ?_
  refine m_icmp_lt (tgt := 10) hx hb dX4_ground_5 (by decide) ⟨by omega, by omega⟩ ⟨by omega, by omega⟩ (fun c5 => ?_) (fun c5 => ?_)
  · refine lv_aload_n hx hb dX4_ground_10 rfl (lv_at hl 0 rfl) ?_
    refine m_get (ci := 4) (v := .ref (ad 10 0 0)) (C := RX4) (T := TX4) (N := 6) hx hb hts (by decide +kernel) hown K hG o1 rfl 1 (by decide) (by decide +kernel) rfl dX4_ground_11 ?_
    refine lv_aload_n hx hb dX4_ground_14 rfl (lv_at hl 0 rfl) ?_
    refine m_get (ci := 4) (v := .int (iI ng)) (C := RX4) (T := TX4) (N := 6) hx hb hts (by decide +kernel) hown K hG o1 rfl 5 (by decide) (by decide +kernel) rfl dX4_ground_15 ?_
    refine m_new (ci := 1) (fs := [.null]) (C := RX1) (T := TX1) (N := 1) hx hb hts (by decide +kernel) tyX1 tyX1_ok hown (by decide +kernel) (by decide +kernel) (by decide +kernel) K hG hS rfl (fun j hj => by rcases (show j = 0 by omega) with rfl <;> rfl) (Nat.le_of_ble_eq_true rfl) (Nat.le_of_ble_eq_true rfl) dX4_ground_18 (fun q1 H hq1 hG hS => ?_)
    have ne2 : ad 8 0 0 ≠ q1 := mfresh hq1 o1
    have ne3 : ad 9 0 0 ≠ q1 := mfresh hq1 o2
    have ne4 : ad 10 0 0 ≠ q1 := mfresh hq1 o4
    have ne5 : ad 4 4 0 ≠ q1 := mfresh hq1 o6
    have ne6 : ad 5 4 0 ≠ q1 := mfresh hq1 o7
    have hG : mG D b (mset M q1 (.inr (1, [.null]))) s H := hG
    refine lv_dup hx hb dX4_ground_21 rfl ?_
    refine m_callv (m_runI (a := q1) (As := []) (rest := [.ref q1, .int (iI ng), .ref (ad 10 0 0)]) ⟨hx, hb, hml, hown, hts⟩ (c_X1_init l D b _ q1 mset_self) (cwI 0 hts gX4_ground_X1_init rfl rfl rfl (hts (.initialized RX1) (by decide +kernel)) (hts (.methodLink RX4 21 yX1_init) (by decide +kernel)) (hts (.instanceMethod yX1_init) (by decide +kernel)) rfl (by decide +kernel) ⟨Nat.le_of_ble_eq_true rfl, Nat.le_of_ble_eq_true rfl⟩) K hG rfl rfl hl.1 rfl (Nat.le_of_ble_eq_true rfl) dX4_ground_22 ⟨Nat.le_of_ble_eq_true rfl, Nat.le_of_ble_eq_true rfl⟩) hS (fun M8 H locs hw9 hG hS => ?_)
    obtain ⟨z10, hz10, hwMz10⟩ := hw9
    have ne11 : ad 8 0 0 ≠ z10 := mfresh hz10 ((mset_ne ne2).trans o1)
    have ne12 : ad 9 0 0 ≠ z10 := mfresh hz10 ((mset_ne ne3).trans o2)
    have ne13 : ad 10 0 0 ≠ z10 := mfresh hz10 ((mset_ne ne4).trans o4)
    have ne14 : ad 4 4 0 ≠ z10 := mfresh hz10 ((mset_ne ne5).trans o6)
    have ne15 : ad 5 4 0 ≠ z10 := mfresh hz10 ((mset_ne ne6).trans o7)
    have ne16 : q1 ≠ z10 := mfresh hz10 mset_self
    rw [hwMz10, mset_skip ne16] at hG
    have hG : mG D b (mset (mset M q1 (.inr (1, [.ref z10]))) z10 (aL 64 (fun _ _ => false))) s H := hG
    refine m_aast (r := (RX1, TX1, 1)) hx hb K hG hS ((mset_ne ne13).trans ((mset_ne ne4).trans o4)) ((mset_ne ne16).trans mset_self) rfl ng.toNat (by omega) (by omega) (by decide) dX4_ground_25 (fun H locs hG hS => ?_)
    have hG : mG D b (mset (mset (mset M q1 (.inr (1, [.ref z10]))) z10 (aL 64 (fun _ _ => false))) (ad 10 0 0) (aQ RX1 4 (va_up gf0 ng.toNat (some q1)))) s H := hG
    refine lv_aload_n hx hb dX4_ground_26 rfl (lv_at hl 0 rfl) ?_
    refine lv_dup hx hb dX4_ground_27 rfl ?_
    refine m_get (ci := 4) (v := .int (iI ng)) (C := RX4) (T := TX4) (N := 6) hx hb hts (by decide +kernel) hown K hG ((mset_ne (hTg.ne (k := 8) (k2 := 10) (by unfold live; omega) (by unfold live; omega) (by omega))).trans ((mset_ne ne11).trans ((mset_ne ne2).trans o1))) rfl 5 (by decide) (by decide +kernel) rfl dX4_ground_28 ?_
    refine lv_iconst (v := iI 1) hx hb dX4_ground_31 rfl ?_
    refine m_iadd hx hb dX4_ground_32 ?_
    refine m_put (ci := 4) (v := .int (iI (ng + 1))) (ty := .int) (fs' := [.ref (ad 9 0 0), .ref (ad 10 0 0), .ref (ad 4 4 0), .ref (ad 6 0 0), .int (iI nt), .int (iI (ng + 1))]) (C := RX4) (T := TX4) (N := 6) hx hb hts (by decide +kernel) tyX4 tyX4_ok nmX4 hown K hG hS ((mset_ne (hTg.ne (k := 8) (k2 := 10) (by unfold live; omega) (by unfold live; omega) (by omega))).trans ((mset_ne ne11).trans ((mset_ne ne2).trans o1))) rfl 5 (by decide) (by decide +kernel) rfl (by decide +kernel) rfl rfl (Nat.le_of_ble_eq_true rfl) rfl dX4_ground_33 (fun H locs hG hS => ?_)
    have hG : mG D b (mset (mset (mset (mset M q1 (.inr (1, [.ref z10]))) z10 (aL 64 (fun _ _ => false))) (ad 10 0 0) (aQ RX1 4 (va_up gf0 ng.toNat (some q1)))) (ad 8 0 0) (.inr (4, [.ref (ad 9 0 0), .ref (ad 10 0 0), .ref (ad 4 4 0), .ref (ad 6 0 0), .int (iI nt), .int (iI (ng + 1))]))) s H := hG
    refine lv_aload_n hx hb dX4_ground_36 rfl (lv_at hl 0 rfl) ?_
    refine m_get (ci := 4) (v := .int (iI (ng + 1))) (C := RX4) (T := TX4) (N := 6) hx hb hts (by decide +kernel) hown K hG mset_self rfl 5 (by decide) (by decide +kernel) rfl dX4_ground_37 ?_
    refine lv_iconst (v := iI 1) hx hb dX4_ground_40 rfl ?_
    refine m_isub hx hb dX4_ground_41 ?_
    exact m_iret hx hb hr hlk hQ hG hS (Nat.le_of_ble_eq_true rfl) (Nat.le_of_ble_eq_true rfl) dX4_ground_42 (by obtain ⟨ad2, tg2, k1, k2, k3, k4⟩ := Ov_newgr hO hTg (by omega) hq1 ((mset_ne ne16.symm).symm.trans hz10) ne16 o4 ((mset_ne (Ne.symm ne2)).trans ((mset_ne (Ne.symm ne4)).trans ((mset_ne ne16).trans mset_self))) ((mset_ne (Ne.symm ne11)).trans ((mset_ne (Ne.symm ne13)).trans mset_self)) mset_self ((mset_ne (hTg.ne (k := 10) (k2 := 8) (by unfold live; omega) (by unfold live; omega) (by omega))).trans mset_self) (fun a g1 g2 g3 g4 => (mset_ne g3).trans ((mset_ne g4).trans ((mset_ne g2).trans (mset_ne g1)))); exact Or.inr ⟨by omega, congrArg iI (by omega), ad2, tg2, k1, k2, (fun a q1 q2 => (mset_ne (hTg.big (by unfold live; omega) q1)).trans ((mset_ne (hTg.big (by unfold live; omega) q1)).trans ((mset_ne (fun z9 => q2 (by rw [z9]; exact (mset_ne ne16.symm).symm.trans hz10))).trans (mset_ne (fun z9 => q2 (by rw [z9]; exact hq1)))))), k3, k4⟩)
  · refine lv_iconst (v := iI (-1)) hx hb dX4_ground_8 rfl ?_
    exact m_iret hx hb hr hlk hQ hG hS (Nat.le_of_ble_eq_true rfl) (Nat.le_of_ble_eq_true rfl) dX4_ground_9 (Or.inl ⟨by omega, rfl, rfl⟩)

