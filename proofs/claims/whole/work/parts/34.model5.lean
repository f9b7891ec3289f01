/-- the places of a box that were looked at: whole rows below x, and of row x those below y -/
def rgn (l1 l0 h0 x y : Int) (a k : Nat) : Prop := l0 ≤ k ∧ ((l1 ≤ a ∧ (a : Int) < x ∧ (k : Int) ≤ h0) ∨ ((a : Int) = x ∧ (k : Int) < y))
theorem rgn_y {l1 l0 h0 x y : Int} (hx : 0 ≤ x) (hy : l0 ≤ y) (hl : 0 ≤ l0) (a k : Nat) : rgn l1 l0 h0 x (y + 1) a k ↔ rgn l1 l0 h0 x y a k ∨ (a = x.toNat ∧ k = y.toNat) := by
  unfold rgn
  constructor
  · rintro ⟨g1, g2 | g2⟩
    · exact Or.inl ⟨g1, Or.inl g2⟩
    · rcases Int.lt_or_le (k : Int) y with w | w
      · exact Or.inl ⟨g1, Or.inr ⟨g2.1, w⟩⟩
      · exact Or.inr ⟨by omega, by omega⟩
  · rintro (⟨g1, g2 | g2⟩ | ⟨g1, g2⟩)
    · exact ⟨g1, Or.inl g2⟩
    · exact ⟨g1, Or.inr ⟨g2.1, by omega⟩⟩
    · exact ⟨by omega, Or.inr ⟨by omega, by omega⟩⟩
theorem rgn_x {l1 l0 h0 x y : Int} (hx : l1 ≤ x) (hy : y = h0 + 1) (a k : Nat) : rgn l1 l0 h0 (x + 1) l0 a k ↔ rgn l1 l0 h0 x y a k := by
  unfold rgn
  constructor
  · rintro ⟨g1, g2 | g2⟩
    · rcases Int.lt_or_le (a : Int) x with w | w
      · exact ⟨g1, Or.inl ⟨g2.1, w, g2.2.2⟩⟩
      · exact ⟨g1, Or.inr ⟨by omega, by omega⟩⟩
    · exact absurd g1 (by omega)
  · rintro ⟨g1, g2 | g2⟩
    · exact ⟨g1, Or.inl ⟨g2.1, by omega, g2.2.2⟩⟩
    · exact ⟨g1, Or.inl ⟨by omega, by omega, by omega⟩⟩
abbrev isE (z : Int) (P : Prop) : Prop := (z = 0 ∨ z = 1) ∧ (z = 1 ↔ P)
theorem isE_ex {z z2 : Int} {R R2 : Nat → Nat → Prop} {P : Nat → Nat → Prop} {i j : Nat} (h : isE z (∃ a k, R a k ∧ P a k)) (hR : ∀ a k, R2 a k ↔ R a k ∨ (a = i ∧ k = j)) (h2 : isE z2 (z = 1 ∨ P i j)) : isE z2 (∃ a k, R2 a k ∧ P a k) := by
  refine ⟨h2.1, h2.2.trans ?_⟩
  rw [h.2]
  constructor
  · rintro (⟨a, k, g1, g2⟩ | g)
    · exact ⟨a, k, (hR a k).mpr (Or.inl g1), g2⟩
    · exact ⟨i, j, (hR i j).mpr (Or.inr ⟨rfl, rfl⟩), g⟩
  · rintro ⟨a, k, g1, g2⟩
    rcases (hR a k).mp g1 with w | ⟨rfl, rfl⟩
    · exact Or.inl ⟨a, k, w, g2⟩
    · exact Or.inr g2
theorem isE_all {z z2 : Int} {R R2 : Nat → Nat → Prop} {P : Nat → Nat → Prop} {i j : Nat} (h : isE z (∀ a k, R a k → P a k)) (hR : ∀ a k, R2 a k ↔ R a k ∨ (a = i ∧ k = j)) (h2 : isE z2 (z = 1 ∧ P i j)) : isE z2 (∀ a k, R2 a k → P a k) := by
  refine ⟨h2.1, h2.2.trans ?_⟩
  rw [h.2]
  constructor
  · rintro ⟨g1, g2⟩ a k g
    rcases (hR a k).mp g with w | ⟨rfl, rfl⟩
    · exact g1 a k w
    · exact g2
  · intro g
    exact ⟨fun a k w => g a k ((hR a k).mpr (Or.inl w)), g i j ((hR i j).mpr (Or.inr ⟨rfl, rfl⟩))⟩
/-- the reference's ground as a set -/
def gS (gz : Nat → Bool) (v : Nat) : Nat → Nat → Bool := fun a k => gz (4096 * v + 64 * a + k)
theorem stM {l1 h1 l0 h0 xx pz qz z : Int} {S : Nat → Nat → Bool} {F : Nat → Nat → Int} {t : Nat} (e0 : F t 0 = l1) (e1 : F t 1 = h1) (e2 : F t 2 = l0) (e3 : F t 3 = h0) (hp : isE pz (∃ a k, rgn l1 l0 h0 xx l0 a k ∧ S a k = true)) (hq : isE qz (∀ a k, rgn l1 l0 h0 xx l0 a k → S a k = true)) (hx : xx = h1 + 1) (n1 : l1 ≤ h1) (n0 : l0 ≤ h0) (g1 : 0 ≤ l1) (g0 : 0 ≤ l0) (hz : z = if qz = 1 then 2 else if pz = 1 then 1 else 0) : z = stN S F t := by
  have hr : ∀ a k, rgn l1 l0 h0 xx l0 a k ↔ l1 ≤ a ∧ (a : Int) ≤ h1 ∧ l0 ≤ k ∧ (k : Int) ≤ h0 := by
    intro a k
    unfold rgn
    constructor
    · rintro ⟨q1, q2 | q2⟩
      · exact ⟨q2.1, by omega, q1, q2.2.2⟩
      · exact absurd q1 (by omega)
    · rintro ⟨q1, q2, q3, q4⟩
      exact ⟨q3, Or.inl ⟨q1, by omega, q4⟩⟩
  have hA : (∃ a c : Nat, l1 ≤ a ∧ (a : Int) ≤ h1 ∧ l0 ≤ c ∧ (c : Int) ≤ h0 ∧ S a c = true) ↔ pz = 1 := by
    rw [hp.2]
    constructor
    · rintro ⟨a, k, q1, q2, q3, q4, q5⟩; exact ⟨a, k, (hr a k).mpr ⟨q1, q2, q3, q4⟩, q5⟩
    · rintro ⟨a, k, q, q5⟩; obtain ⟨q1, q2, q3, q4⟩ := (hr a k).mp q; exact ⟨a, k, q1, q2, q3, q4, q5⟩
  have hB : (∀ a c : Nat, l1 ≤ a → (a : Int) ≤ h1 → l0 ≤ c → (c : Int) ≤ h0 → S a c = true) ↔ qz = 1 := by
    rw [hq.2]
    constructor
    · intro q a k q1; obtain ⟨q2, q3, q4, q5⟩ := (hr a k).mp q1; exact q a k q2 q3 q4 q5
    · intro q a k q2 q3 q4 q5; exact q a k ((hr a k).mpr ⟨q2, q3, q4, q5⟩)
  have hAB : qz = 1 → pz = 1 := fun q => hA.mp ⟨l1.toNat, l0.toNat, by omega, by omega, by omega, by omega, hB.mpr q l1.toNat l0.toNat (by omega) (by omega) (by omega) (by omega)⟩
  unfold stN
  rw [e0, e1, e2, e3, hz]
  by_cases h2 : qz = 1
  · rw [if_pos h2, tf_t (hA.mpr (hAB h2)), tf_t (hB.mpr h2)]; rfl
  · rw [if_neg h2, tf_f (fun q => h2 (hB.mp q))]
    by_cases h3 : pz = 1
    · rw [if_pos h3, tf_t (hA.mpr h3)]; rfl
    · rw [if_neg h3, tf_f (fun q => h3 (hA.mp q))]; rfl

set_option maxHeartbeats 4000000 in
set_option maxRecDepth 100000 in
theorem c_X5_state (l : Launch) (D : va_G) (b : Nat) (M : mM) (am : Nat → Nat) (nt ng : Int) (sp nn jj sa sx sy ra : Nat → Int) (gz : Nat → Bool) (va ac : Nat → Int) (hO : MoOk M am nt ng sp nn jj sa sx sy ra gz va ac) (hgd : mGd nt sp nn sa sx sy ra) (hbox : ∀ i : Nat, (i : Int) < nt → ∀ u : Int, 0 ≤ u → u < 80 → (0 ≤ loM 1 sp nn sa sx sy ra i u ∧ 0 ≤ loM 0 sp nn sa sx sy ra i u) ∧ loM 1 sp nn sa sx sy ra i u ≤ hiM 1 sp nn sa sx sy ra i u ∧ loM 0 sp nn sa sx sy ra i u ≤ hiM 0 sp nn sa sx sy ra i u) (t v u : Int) (hrt : rg t) (hrv : rg v) (hru : rg u) : Met l yX5_state wsX5_state ({ frames := 2, cells := 0, slots := 0, locals := 43 } : Room) (mPc [.ref (am 0), .int (iI t), .int (iI v), .int (iI u)] D b M) (mQi D b (fI (if (0 ≤ t ∧ t < nt) ∧ (0 ≤ v ∧ v < ng) ∧ (0 ≤ u ∧ u < 80) then stN (gS gz v.toNat) (mBF sp nn sa sx sy ra t.toNat) u.toNat else -1) M)) 0 0 (mF b) := by
  refine m_met (cc := cX5_state) (maxL := 10) (ret := (some .int)) (by decide) rfl (Nat.le_of_ble_eq_true rfl) ?_
  intro p e s m args below meth c Q ls hx hb hml hr hts hown hlk hnm hQ K hG hS hl
  have hown : s.vm.findClass RX5 = some m.cls := hown
  have hl : lv_has ls 10 [(0, .ref (am 0)), (1, .int (iI t)), (2, .int (iI v)), (3, .int (iI u))] := hl
  obtain ⟨m0, m1, m2, m3, m4, m5, m6, m7, m8, m9, m10, minj, ⟨b1, b2, b3, b4⟩⟩ := id hO
  refine lv_aload_n hx hb dX5_state_0 rfl (lv_at hl 0 rfl) ?_
  refine lv_iload_n hx hb dX5_state_1 rfl (lv_at hl 1 rfl) ?_
  refine m_callfi (m_runV (a := am 0) (As := [.int (iI t)]) (rest := []) ⟨hx, hb, hml, hown, hts⟩ (c_X5_isThing l D b _ am nt ng sp nn jj sa sx sy ra gz va ac hO t hrt) (cwV 1 hts gX5_state_X5_isThing rfl rfl rfl (by decide +kernel) ⟨Nat.le_of_ble_eq_true rfl, Nat.le_of_ble_eq_true rfl⟩) K hG m0 rfl rfl rfl hl.1 rfl (Nat.le_of_ble_eq_true rfl) dX5_state_2 ⟨Nat.le_of_ble_eq_true rfl, Nat.le_of_ble_eq_true rfl⟩) hS (fun H locs hG hS => ?_)
  have hG : mG D b M s H := hG
  refine m_ifb_eq (tgt := 23) hx hb dX5_state_5 (by decide) (fun c5 => ?_) (fun c5 => ?_)
  · refine lv_iconst (v := iI (-1)) hx hb dX5_state_23 rfl ?_
    exact m_iret hx hb hr hlk hQ hG hS (Nat.le_of_ble_eq_true rfl) (Nat.le_of_ble_eq_true rfl) dX5_state_24 ⟨congrArg iI (by rw [if_neg (by omega)]), rfl⟩
  · refine lv_aload_n hx hb dX5_state_8 rfl (lv_at hl 0 rfl) ?_
    refine lv_iload_n hx hb dX5_state_9 rfl (lv_at hl 2 rfl) ?_
    refine m_callfi (m_runV (a := am 0) (As := [.int (iI v)]) (rest := []) ⟨hx, hb, hml, hown, hts⟩ (c_X5_isGround l D b _ am nt ng sp nn jj sa sx sy ra gz va ac hO v hrv) (cwV 1 hts gX5_state_X5_isGround rfl rfl rfl (by decide +kernel) ⟨Nat.le_of_ble_eq_true rfl, Nat.le_of_ble_eq_true rfl⟩) K hG m0 rfl rfl rfl hl.1 rfl (Nat.le_of_ble_eq_true rfl) dX5_state_10 ⟨Nat.le_of_ble_eq_true rfl, Nat.le_of_ble_eq_true rfl⟩) hS (fun H locs hG hS => ?_)
    have hG : mG D b M s H := hG
    refine m_ifb_eq (tgt := 23) hx hb dX5_state_13 (by decide) (fun c13 => ?_) (fun c13 => ?_)
    · refine lv_iconst (v := iI (-1)) hx hb dX5_state_23 rfl ?_
      exact m_iret hx hb hr hlk hQ hG hS (Nat.le_of_ble_eq_true rfl) (Nat.le_of_ble_eq_true rfl) dX5_state_24 ⟨congrArg iI (by rw [if_neg (by omega)]), rfl⟩
    · refine lv_iload_n hx hb dX5_state_16 rfl (lv_at hl 3 rfl) ?_
      refine m_callfi (m_runS (As := [.int (iI u)]) (rest := []) ⟨hx, hb, hml, hown, hts⟩ (c_X5_isTick l D b _ u hru) (va_cwS 1 hts gX5_state_X5_isTick rfl rfl rfl (by decide +kernel) ⟨Nat.le_of_ble_eq_true rfl, Nat.le_of_ble_eq_true rfl⟩) K hG rfl hl.1 rfl (Nat.le_of_ble_eq_true rfl) dX5_state_17 ⟨Nat.le_of_ble_eq_true rfl, Nat.le_of_ble_eq_true rfl⟩) hS (fun H locs hG hS => ?_)
      have hG : mG D b M s H := hG
      refine m_ifb_ne (tgt := 25) hx hb dX5_state_20 (by decide) (fun c20 => ?_) (fun c20 => ?_)
      · obtain ⟨q1, q2, q3⟩ := hbox t.toNat (by omega) u (by omega) (by omega)
        have rloM1 := loM_rg hgd (i := t.toNat) (by omega) (bb := 1) (by omega) u
        have rloM0 := loM_rg hgd (i := t.toNat) (by omega) (bb := 0) (by omega) u
        have rhiM1 := hiM_rg hgd (i := t.toNat) (by omega) (bb := 1) (by omega) u
        have rhiM0 := hiM_rg hgd (i := t.toNat) (by omega) (bb := 0) (by omega) u
        refine lv_aload_n hx hb dX5_state_25 rfl (lv_at hl 0 rfl) ?_
        refine lv_iload_n hx hb dX5_state_26 rfl (lv_at hl 1 rfl) ?_
        refine lv_iload_n hx hb dX5_state_27 rfl (lv_at hl 3 rfl) ?_
        refine lv_iconst (v := iI 0) hx hb dX5_state_28 rfl ?_
        refine m_callfi (m_runV (a := am 0) (As := [.int (iI t), .int (iI u), .int (iI 0)]) (rest := []) ⟨hx, hb, hml, hown, hts⟩ (c_X5_high l D b _ am nt ng sp nn jj sa sx sy ra gz va ac hO t u 0 (by omega) (by omega) (by omega) (by omega) (by omega) (hgd t.toNat (by omega)).1.1 (hgd t.toNat (by omega)).1.2 (hgd t.toNat (by omega)).2.1.1 (hgd t.toNat (by omega)).2.1.2 (hgd t.toNat (by omega)).2.2) (cwV 3 hts gX5_state_X5_high rfl rfl rfl (by decide +kernel) ⟨Nat.le_of_ble_eq_true rfl, Nat.le_of_ble_eq_true rfl⟩) K hG m0 rfl rfl rfl hl.1 rfl (Nat.le_of_ble_eq_true rfl) dX5_state_29 ⟨Nat.le_of_ble_eq_true rfl, Nat.le_of_ble_eq_true rfl⟩) hS (fun H locs hG hS => ?_)
        have hG : mG D b M s H := hG
        refine lv_istore (lv' := [(4, .int (iI (hiM 0 sp nn sa sx sy ra t.toNat u))), (0, .ref (am 0)), (1, .int (iI t)), (2, .int (iI v)), (3, .int (iI u))]) hx hb dX5_state_32 hl (by decide) rfl (fun ls hl => ?_)
        refine lv_iconst (v := iI 0) hx hb dX5_state_34 rfl ?_
        refine lv_istore (lv' := [(5, .int (iI 0)), (4, .int (iI (hiM 0 sp nn sa sx sy ra t.toNat u))), (0, .ref (am 0)), (1, .int (iI t)), (2, .int (iI v)), (3, .int (iI u))]) hx hb dX5_state_35 hl (by decide) rfl (fun ls hl => ?_)
        refine lv_iconst (v := iI 1) hx hb dX5_state_37 rfl ?_
        refine lv_istore (lv' := [(6, .int (iI 1)), (5, .int (iI 0)), (4, .int (iI (hiM 0 sp nn sa sx sy ra t.toNat u))), (0, .ref (am 0)), (1, .int (iI t)), (2, .int (iI v)), (3, .int (iI u))]) hx hb dX5_state_38 hl (by decide) rfl (fun ls hl => ?_)
        refine lv_aload_n hx hb dX5_state_40 rfl (lv_at hl 3 rfl) ?_
        refine lv_iload_n hx hb dX5_state_41 rfl (lv_at hl 4 rfl) ?_
        refine lv_iload_n hx hb dX5_state_42 rfl (lv_at hl 6 rfl) ?_
        refine lv_iconst (v := iI 1) hx hb dX5_state_43 rfl ?_
        refine m_callfi (m_runV (a := am 0) (As := [.int (iI t), .int (iI u), .int (iI 1)]) (rest := []) ⟨hx, hb, hml, hown, hts⟩ (c_X5_low l D b _ am nt ng sp nn jj sa sx sy ra gz va ac hO t u 1 (by omega) (by omega) (by omega) (by omega) (by omega) (hgd t.toNat (by omega)).1.1 (hgd t.toNat (by omega)).1.2 (hgd t.toNat (by omega)).2.1.1 (hgd t.toNat (by omega)).2.1.2 (hgd t.toNat (by omega)).2.2) (cwV 3 hts gX5_state_X5_low rfl rfl rfl (by decide +kernel) ⟨Nat.le_of_ble_eq_true rfl, Nat.le_of_ble_eq_true rfl⟩) K hG m0 rfl rfl rfl hl.1 rfl (Nat.le_of_ble_eq_true rfl) dX5_state_44 ⟨Nat.le_of_ble_eq_true rfl, Nat.le_of_ble_eq_true rfl⟩) hS (fun H locs hG hS => ?_)
        have hG : mG D b M s H := hG
        refine lv_istore (lv' := [(7, .int (iI (loM 1 sp nn sa sx sy ra t.toNat u))), (6, .int (iI 1)), (5, .int (iI 0)), (4, .int (iI (hiM 0 sp nn sa sx sy ra t.toNat u))), (0, .ref (am 0)), (1, .int (iI t)), (2, .int (iI v)), (3, .int (iI u))]) hx hb dX5_state_47 hl (by decide) rfl (fun ls hl => ?_)
        have loop49 : ∀ (fuel : Nat) (xx : Int) (pz : Int) (qz : Int) (H : Heap) (locs : List Loc) (ls : Array Slot), ((loM 1 sp nn sa sx sy ra t.toNat u) ≤ xx) → (xx ≤ (hiM 1 sp nn sa sx sy ra t.toNat u) + 1) → (isE pz (∃ a k, rgn (loM 1 sp nn sa sx sy ra t.toNat u) (loM 0 sp nn sa sx sy ra t.toNat u) (hiM 0 sp nn sa sx sy ra t.toNat u) xx (loM 0 sp nn sa sx sy ra t.toNat u) a k ∧ gS gz v.toNat a k = true)) → (isE qz (∀ a k, rgn (loM 1 sp nn sa sx sy ra t.toNat u) (loM 0 sp nn sa sx sy ra t.toNat u) (hiM 0 sp nn sa sx sy ra t.toNat u) xx (loM 0 sp nn sa sx sy ra t.toNat u) a k → gS gz v.toNat a k = true)) → ((hiM 1 sp nn sa sx sy ra t.toNat u) + 1 - xx).toNat < fuel → mG D b M s H → va_S (mF b) s.heap H locs → lv_has ls 10 [(7, .int (iI xx)), (6, .int (iI qz)), (5, .int (iI pz)), (4, .int (iI (hiM 0 sp nn sa sx sy ra t.toNat u))), (0, .ref (am 0)), (1, .int (iI t)), (2, .int (iI v)), (3, .int (iI u))] → W p l e ({ frames := 2, cells := 0, slots := 0, locals := 43 } : Room) s m args below meth c H locs 0 0 Q (F0 m 49 ls []) := by
          intro fuel
          induction fuel with
          | zero => intro xx pz qz H locs ls hx0 hx1 hpx hqx hm; exact absurd hm (Nat.not_lt_zero _)
          | succ fuel ih49 =>
            intro xx pz qz H locs ls hx0 hx1 hpx hqx hm hG hS hl
            refine lv_iload hx hb dX5_state_49 (lv_at hl 0 rfl) ?_
            refine lv_aload_n hx hb dX5_state_51 rfl (lv_at hl 4 rfl) ?_
            refine lv_iload_n hx hb dX5_state_52 rfl (lv_at hl 5 rfl) ?_
            refine lv_iload_n hx hb dX5_state_53 rfl (lv_at hl 7 rfl) ?_
            refine lv_iconst (v := iI 1) hx hb dX5_state_54 rfl ?_
            refine m_callfi (m_runV (a := am 0) (As := [.int (iI t), .int (iI u), .int (iI 1)]) (rest := [.int (iI xx)]) ⟨hx, hb, hml, hown, hts⟩ (c_X5_high l D b _ am nt ng sp nn jj sa sx sy ra gz va ac hO t u 1 (by omega) (by omega) (by omega) (by omega) (by omega) (hgd t.toNat (by omega)).1.1 (hgd t.toNat (by omega)).1.2 (hgd t.toNat (by omega)).2.1.1 (hgd t.toNat (by omega)).2.1.2 (hgd t.toNat (by omega)).2.2) (cwV 3 hts gX5_state_X5_high rfl rfl rfl (by decide +kernel) ⟨Nat.le_of_ble_eq_true rfl, Nat.le_of_ble_eq_true rfl⟩) K hG m0 rfl rfl rfl hl.1 rfl (Nat.le_of_ble_eq_true rfl) dX5_state_55 ⟨Nat.le_of_ble_eq_true rfl, Nat.le_of_ble_eq_true rfl⟩) hS (fun H locs hG hS => ?_)
            have hG : mG D b M s H := hG
            refine m_icmp_gt (tgt := 144) hx hb dX5_state_58 (by decide) ⟨by omega, by omega⟩ ⟨by have := hiM_rg hgd (i := t.toNat) (by omega) (bb := 1) (by omega) u; omega, by have := hiM_rg hgd (i := t.toNat) (by omega) (bb := 1) (by omega) u; omega⟩ (fun c58 => ?_) (fun c58 => ?_)
            · refine lv_iload hx hb dX5_state_144 (lv_at hl 1 rfl) ?_
              refine m_if_eq (tgt := 153) hx hb dX5_state_146 (by decide) ⟨by omega, by omega⟩ (fun c146 => ?_) (fun c146 => ?_)
              · refine lv_iload hx hb dX5_state_153 (lv_at hl 2 rfl) ?_
                refine m_if_eq (tgt := 162) hx hb dX5_state_155 (by decide) ⟨by omega, by omega⟩ (fun c155 => ?_) (fun c155 => ?_)
                · refine lv_iconst (v := iI 0) hx hb dX5_state_162 rfl ?_
                  exact m_iret hx hb hr hlk hQ hG hS (Nat.le_of_ble_eq_true rfl) (Nat.le_of_ble_eq_true rfl) dX5_state_163 ⟨congrArg iI (by rw [if_pos (by omega)]; exact stM (l1 := (loM 1 sp nn sa sx sy ra t.toNat u)) (h1 := (hiM 1 sp nn sa sx sy ra t.toNat u)) (l0 := (loM 0 sp nn sa sx sy ra t.toNat u)) (h0 := (hiM 0 sp nn sa sx sy ra t.toNat u)) (by unfold mBF; rw [if_pos rfl, show ((u.toNat : Nat) : Int) = u by omega]) (by unfold mBF; rw [if_neg (by omega), if_pos rfl, show ((u.toNat : Nat) : Int) = u by omega]) (by unfold mBF; rw [if_neg (by omega), if_neg (by omega), if_pos rfl, show ((u.toNat : Nat) : Int) = u by omega]) (by unfold mBF; rw [if_neg (by omega), if_neg (by omega), if_neg (by omega), show ((u.toNat : Nat) : Int) = u by omega]) hpx hqx (by omega) q2 q3 q1.1 q1.2 (by rw [if_neg (by omega), if_neg (by omega)])), rfl⟩
                · refine lv_iconst (v := iI 1) hx hb dX5_state_158 rfl ?_
                  refine lv_goto (tgt := 163) hx hb dX5_state_159 (by decide) ?_
                  exact m_iret hx hb hr hlk hQ hG hS (Nat.le_of_ble_eq_true rfl) (Nat.le_of_ble_eq_true rfl) dX5_state_163 ⟨congrArg iI (by rw [if_pos (by omega)]; exact stM (l1 := (loM 1 sp nn sa sx sy ra t.toNat u)) (h1 := (hiM 1 sp nn sa sx sy ra t.toNat u)) (l0 := (loM 0 sp nn sa sx sy ra t.toNat u)) (h0 := (hiM 0 sp nn sa sx sy ra t.toNat u)) (by unfold mBF; rw [if_pos rfl, show ((u.toNat : Nat) : Int) = u by omega]) (by unfold mBF; rw [if_neg (by omega), if_pos rfl, show ((u.toNat : Nat) : Int) = u by omega]) (by unfold mBF; rw [if_neg (by omega), if_neg (by omega), if_pos rfl, show ((u.toNat : Nat) : Int) = u by omega]) (by unfold mBF; rw [if_neg (by omega), if_neg (by omega), if_neg (by omega), show ((u.toNat : Nat) : Int) = u by omega]) hpx hqx (by omega) q2 q3 q1.1 q1.2 (by rw [if_neg (by omega), if_pos (by omega)])), rfl⟩
              · refine lv_iconst (v := iI 2) hx hb dX5_state_149 rfl ?_
                refine lv_goto (tgt := 163) hx hb dX5_state_150 (by decide) ?_
                exact m_iret hx hb hr hlk hQ hG hS (Nat.le_of_ble_eq_true rfl) (Nat.le_of_ble_eq_true rfl) dX5_state_163 ⟨congrArg iI (by rw [if_pos (by omega)]; exact stM (l1 := (loM 1 sp nn sa sx sy ra t.toNat u)) (h1 := (hiM 1 sp nn sa sx sy ra t.toNat u)) (l0 := (loM 0 sp nn sa sx sy ra t.toNat u)) (h0 := (hiM 0 sp nn sa sx sy ra t.toNat u)) (by unfold mBF; rw [if_pos rfl, show ((u.toNat : Nat) : Int) = u by omega]) (by unfold mBF; rw [if_neg (by omega), if_pos rfl, show ((u.toNat : Nat) : Int) = u by omega]) (by unfold mBF; rw [if_neg (by omega), if_neg (by omega), if_pos rfl, show ((u.toNat : Nat) : Int) = u by omega]) (by unfold mBF; rw [if_neg (by omega), if_neg (by omega), if_neg (by omega), show ((u.toNat : Nat) : Int) = u by omega]) hpx hqx (by omega) q2 q3 q1.1 q1.2 (by rw [if_pos (by omega)])), rfl⟩
            · refine lv_aload_n hx hb dX5_state_61 rfl (lv_at hl 4 rfl) ?_
              refine lv_iload_n hx hb dX5_state_62 rfl (lv_at hl 5 rfl) ?_
              refine lv_iload_n hx hb dX5_state_63 rfl (lv_at hl 7 rfl) ?_
              refine lv_iconst (v := iI 0) hx hb dX5_state_64 rfl ?_
              refine m_callfi (m_runV (a := am 0) (As := [.int (iI t), .int (iI u), .int (iI 0)]) (rest := []) ⟨hx, hb, hml, hown, hts⟩ (c_X5_low l D b _ am nt ng sp nn jj sa sx sy ra gz va ac hO t u 0 (by omega) (by omega) (by omega) (by omega) (by omega) (hgd t.toNat (by omega)).1.1 (hgd t.toNat (by omega)).1.2 (hgd t.toNat (by omega)).2.1.1 (hgd t.toNat (by omega)).2.1.2 (hgd t.toNat (by omega)).2.2) (cwV 3 hts gX5_state_X5_low rfl rfl rfl (by decide +kernel) ⟨Nat.le_of_ble_eq_true rfl, Nat.le_of_ble_eq_true rfl⟩) K hG m0 rfl rfl rfl hl.1 rfl (Nat.le_of_ble_eq_true rfl) dX5_state_65 ⟨Nat.le_of_ble_eq_true rfl, Nat.le_of_ble_eq_true rfl⟩) hS (fun H locs hG hS => ?_)
              have hG : mG D b M s H := hG
              refine lv_istore (lv' := [(8, .int (iI (loM 0 sp nn sa sx sy ra t.toNat u))), (7, .int (iI xx)), (6, .int (iI qz)), (5, .int (iI pz)), (4, .int (iI (hiM 0 sp nn sa sx sy ra t.toNat u))), (0, .ref (am 0)), (1, .int (iI t)), (2, .int (iI v)), (3, .int (iI u))]) hx hb dX5_state_68 hl (by decide) rfl (fun ls hl => ?_)
              have loop70 : ∀ (fuel : Nat) (yy : Int) (pz : Int) (qz : Int) (H : Heap) (locs : List Loc) (ls : Array Slot), ((loM 0 sp nn sa sx sy ra t.toNat u) ≤ yy) → (yy ≤ (hiM 0 sp nn sa sx sy ra t.toNat u) + 1) → (isE pz (∃ a k, rgn (loM 1 sp nn sa sx sy ra t.toNat u) (loM 0 sp nn sa sx sy ra t.toNat u) (hiM 0 sp nn sa sx sy ra t.toNat u) xx yy a k ∧ gS gz v.toNat a k = true)) → (isE qz (∀ a k, rgn (loM 1 sp nn sa sx sy ra t.toNat u) (loM 0 sp nn sa sx sy ra t.toNat u) (hiM 0 sp nn sa sx sy ra t.toNat u) xx yy a k → gS gz v.toNat a k = true)) → ((hiM 0 sp nn sa sx sy ra t.toNat u) + 1 - yy).toNat < fuel → mG D b M s H → va_S (mF b) s.heap H locs → lv_has ls 10 [(8, .int (iI yy)), (7, .int (iI xx)), (6, .int (iI qz)), (5, .int (iI pz)), (4, .int (iI (hiM 0 sp nn sa sx sy ra t.toNat u))), (0, .ref (am 0)), (1, .int (iI t)), (2, .int (iI v)), (3, .int (iI u))] → W p l e ({ frames := 2, cells := 0, slots := 0, locals := 43 } : Room) s m args below meth c H locs 0 0 Q (F0 m 70 ls []) := by
                intro fuel
                induction fuel with
                | zero => intro yy pz qz H locs ls hy0 hy1 hpz hqz hm; exact absurd hm (Nat.not_lt_zero _)
                | succ fuel ih70 =>
                  intro yy pz qz H locs ls hy0 hy1 hpz hqz hm hG hS hl
                  refine lv_iload hx hb dX5_state_70 (lv_at hl 0 rfl) ?_
                  refine lv_iload hx hb dX5_state_72 (lv_at hl 4 rfl) ?_
                  refine m_icmp_gt (tgt := 138) hx hb dX5_state_74 (by decide) ⟨by omega, by omega⟩ ⟨by have := hiM_rg hgd (i := t.toNat) (by omega) (bb := 0) (by omega) u; omega, by have := hiM_rg hgd (i := t.toNat) (by omega) (bb := 0) (by omega) u; omega⟩ (fun c74 => ?_) (fun c74 => ?_)
                  · refine m_iinc (lv' := [(7, .int (iI (xx + 1))), (8, .int (iI yy)), (6, .int (iI qz)), (5, .int (iI pz)), (4, .int (iI (hiM 0 sp nn sa sx sy ra t.toNat u))), (0, .ref (am 0)), (1, .int (iI t)), (2, .int (iI v)), (3, .int (iI u))]) (k := 1) hx hb dX5_state_138 hl rfl (by decide) rfl (fun ls hl => ?_)
                    refine lv_goto (tgt := 49) hx hb dX5_state_141 (by decide) ?_
                    exact ih49 (xx + 1) pz qz _ _ _ (by omega) (by omega) ⟨hpz.1, hpz.2.trans ⟨fun ⟨a, k, g1, g2⟩ => ⟨a, k, (rgn_x (by omega) (by omega) a k).mpr g1, g2⟩, fun ⟨a, k, g1, g2⟩ => ⟨a, k, (rgn_x (by omega) (by omega) a k).mp g1, g2⟩⟩⟩ ⟨hqz.1, hqz.2.trans ⟨fun h9 a k g1 => h9 a k ((rgn_x (by omega) (by omega) a k).mp g1), fun h9 a k g1 => h9 a k ((rgn_x (by omega) (by omega) a k).mpr g1)⟩⟩ (by omega) hG hS (lv_sub hl [0, 2, 3, 4, 5, 6, 7, 8] rfl)
                  · have hgs : gS gz v.toNat xx.toNat yy.toNat = gz (4096 * v + 64 * xx + yy).toNat := congrArg gz (by omega)
                    refine lv_aload_n hx hb dX5_state_77 rfl (lv_at hl 5 rfl) ?_
                    refine m_get (ci := 5) (v := .ref (am 8)) (C := RX5) (T := TX5) (N := 12) hx hb hts (by decide +kernel) hown K hG m0 rfl 9 (by decide) (by decide +kernel) rfl dX5_state_78 ?_
                    refine lv_sipush (v := iI 4096) hx hb dX5_state_81 (by decide) ?_
                    refine lv_iload_n hx hb dX5_state_84 rfl (lv_at hl 7 rfl) ?_
                    refine m_imul hx hb dX5_state_85 ?_
                    refine lv_bipush (v := iI 64) hx hb dX5_state_86 (by decide) ?_
                    refine lv_iload hx hb dX5_state_88 (lv_at hl 1 rfl) ?_
                    refine m_imul hx hb dX5_state_90 ?_
                    refine m_iadd hx hb dX5_state_91 ?_
                    refine lv_iload hx hb dX5_state_92 (lv_at hl 0 rfl) ?_
                    refine m_iadd hx hb dX5_state_94 ?_
                    refine m_zald hx hb hG m8 ((((4096 * v) + (64 * xx)) + yy).toNat) (by omega) (by omega) (by decide) dX5_state_95 ?_
                    refine lv_istore (lv' := [(9, .int (iI (if gz ((((4096 * v) + (64 * xx)) + yy).toNat) = true then 1 else 0))), (8, .int (iI yy)), (7, .int (iI xx)), (6, .int (iI qz)), (5, .int (iI pz)), (4, .int (iI (hiM 0 sp nn sa sx sy ra t.toNat u))), (0, .ref (am 0)), (1, .int (iI t)), (2, .int (iI v)), (3, .int (iI u))]) hx hb dX5_state_96 hl (by decide) rfl (fun ls hl => ?_)
                    refine lv_iload hx hb dX5_state_98 (lv_at hl 4 rfl) ?_
                    refine m_if_ne (tgt := 108) hx hb dX5_state_100 (by decide) ⟨by omega, by omega⟩ (fun c100 => ?_) (fun c100 => ?_)
                    · refine lv_iconst (v := iI 1) hx hb dX5_state_108 rfl ?_
                      refine lv_goto (tgt := 113) hx hb dX5_state_109 (by decide) ?_
                      refine lv_istore (lv' := [(5, .int (iI 1)), (9, .int (iI (if gz ((((4096 * v) + (64 * xx)) + yy).toNat) = true then 1 else 0))), (8, .int (iI yy)), (7, .int (iI xx)), (6, .int (iI qz)), (4, .int (iI (hiM 0 sp nn sa sx sy ra t.toNat u))), (0, .ref (am 0)), (1, .int (iI t)), (2, .int (iI v)), (3, .int (iI u))]) hx hb dX5_state_113 hl (by decide) rfl (fun ls hl => ?_)
                      refine lv_iload hx hb dX5_state_115 (lv_at hl 4 rfl) ?_
                      refine m_if_eq (tgt := 129) hx hb dX5_state_117 (by decide) ⟨by omega, by omega⟩ (fun c117 => ?_) (fun c117 => ?_)
                      · refine lv_iconst (v := iI 0) hx hb dX5_state_129 rfl ?_
                        refine lv_istore (lv' := [(6, .int (iI 0)), (5, .int (iI 1)), (9, .int (iI (if gz ((((4096 * v) + (64 * xx)) + yy).toNat) = true then 1 else 0))), (8, .int (iI yy)), (7, .int (iI xx)), (4, .int (iI (hiM 0 sp nn sa sx sy ra t.toNat u))), (0, .ref (am 0)), (1, .int (iI t)), (2, .int (iI v)), (3, .int (iI u))]) hx hb dX5_state_130 hl (by decide) rfl (fun ls hl => ?_)
                        refine m_iinc (lv' := [(8, .int (iI (yy + 1))), (6, .int (iI 0)), (5, .int (iI 1)), (9, .int (iI (if gz ((((4096 * v) + (64 * xx)) + yy).toNat) = true then 1 else 0))), (7, .int (iI xx)), (4, .int (iI (hiM 0 sp nn sa sx sy ra t.toNat u))), (0, .ref (am 0)), (1, .int (iI t)), (2, .int (iI v)), (3, .int (iI u))]) (k := 3) hx hb dX5_state_132 hl rfl (by decide) rfl (fun ls hl => ?_)
                        refine lv_goto (tgt := 70) hx hb dX5_state_135 (by decide) ?_
                        exact ih70 (yy + 1) 1 0 _ _ _ (by omega) (by omega) (isE_ex hpz (rgn_y (by omega) (by omega) (by omega)) ⟨Or.inr rfl, ⟨fun _ => Or.inl (by omega), fun _ => rfl⟩⟩) (isE_all hqz (rgn_y (by omega) (by omega) (by omega)) ⟨Or.inl rfl, ⟨fun h9 => absurd h9 (by decide), fun h9 => absurd h9.1 (by omega)⟩⟩) (by omega) hG hS (lv_sub hl [0, 4, 1, 2, 5, 6, 7, 8, 9] rfl)
                      · refine lv_iload hx hb dX5_state_120 (lv_at hl 1 rfl) ?_
                        refine m_ifb_eq (tgt := 129) hx hb dX5_state_122 (by decide) (fun c122 => ?_) (fun c122 => ?_)
                        · refine lv_iconst (v := iI 0) hx hb dX5_state_129 rfl ?_
                          refine lv_istore (lv' := [(6, .int (iI 0)), (5, .int (iI 1)), (9, .int (iI (if gz ((((4096 * v) + (64 * xx)) + yy).toNat) = true then 1 else 0))), (8, .int (iI yy)), (7, .int (iI xx)), (4, .int (iI (hiM 0 sp nn sa sx sy ra t.toNat u))), (0, .ref (am 0)), (1, .int (iI t)), (2, .int (iI v)), (3, .int (iI u))]) hx hb dX5_state_130 hl (by decide) rfl (fun ls hl => ?_)
                          refine m_iinc (lv' := [(8, .int (iI (yy + 1))), (6, .int (iI 0)), (5, .int (iI 1)), (9, .int (iI (if gz ((((4096 * v) + (64 * xx)) + yy).toNat) = true then 1 else 0))), (7, .int (iI xx)), (4, .int (iI (hiM 0 sp nn sa sx sy ra t.toNat u))), (0, .ref (am 0)), (1, .int (iI t)), (2, .int (iI v)), (3, .int (iI u))]) (k := 3) hx hb dX5_state_132 hl rfl (by decide) rfl (fun ls hl => ?_)
                          refine lv_goto (tgt := 70) hx hb dX5_state_135 (by decide) ?_
                          exact ih70 (yy + 1) 1 0 _ _ _ (by omega) (by omega) (isE_ex hpz (rgn_y (by omega) (by omega) (by omega)) ⟨Or.inr rfl, ⟨fun _ => Or.inl (by omega), fun _ => rfl⟩⟩) (isE_all hqz (rgn_y (by omega) (by omega) (by omega)) ⟨Or.inl rfl, ⟨fun h9 => absurd h9 (by decide), fun h9 => absurd (by have z9 := h9.2; rw [hgs] at z9; exact z9) c122⟩⟩) (by omega) hG hS (lv_sub hl [0, 4, 1, 2, 5, 6, 7, 8, 9] rfl)
                        · refine lv_iconst (v := iI 1) hx hb dX5_state_125 rfl ?_
                          refine lv_goto (tgt := 130) hx hb dX5_state_126 (by decide) ?_
                          refine lv_istore (lv' := [(6, .int (iI 1)), (5, .int (iI 1)), (9, .int (iI (if gz ((((4096 * v) + (64 * xx)) + yy).toNat) = true then 1 else 0))), (8, .int (iI yy)), (7, .int (iI xx)), (4, .int (iI (hiM 0 sp nn sa sx sy ra t.toNat u))), (0, .ref (am 0)), (1, .int (iI t)), (2, .int (iI v)), (3, .int (iI u))]) hx hb dX5_state_130 hl (by decide) rfl (fun ls hl => ?_)
                          refine m_iinc (lv' := [(8, .int (iI (yy + 1))), (6, .int (iI 1)), (5, .int (iI 1)), (9, .int (iI (if gz ((((4096 * v) + (64 * xx)) + yy).toNat) = true then 1 else 0))), (7, .int (iI xx)), (4, .int (iI (hiM 0 sp nn sa sx sy ra t.toNat u))), (0, .ref (am 0)), (1, .int (iI t)), (2, .int (iI v)), (3, .int (iI u))]) (k := 3) hx hb dX5_state_132 hl rfl (by decide) rfl (fun ls hl => ?_)
                          refine lv_goto (tgt := 70) hx hb dX5_state_135 (by decide) ?_
                          exact ih70 (yy + 1) 1 1 _ _ _ (by omega) (by omega) (isE_ex hpz (rgn_y (by omega) (by omega) (by omega)) ⟨Or.inr rfl, ⟨fun _ => Or.inl (by omega), fun _ => rfl⟩⟩) (isE_all hqz (rgn_y (by omega) (by omega) (by omega)) ⟨Or.inr rfl, ⟨fun _ => ⟨by omega, by rw [hgs]; exact c122⟩, fun _ => rfl⟩⟩) (by omega) hG hS (lv_sub hl [0, 4, 1, 2, 5, 6, 7, 8, 9] rfl)
                    · refine lv_iload hx hb dX5_state_103 (lv_at hl 0 rfl) ?_
                      refine m_ifb_eq (tgt := 112) hx hb dX5_state_105 (by decide) (fun c105 => ?_) (fun c105 => ?_)
                      · refine lv_iconst (v := iI 0) hx hb dX5_state_112 rfl ?_
                        refine lv_istore (lv' := [(5, .int (iI 0)), (9, .int (iI (if gz ((((4096 * v) + (64 * xx)) + yy).toNat) = true then 1 else 0))), (8, .int (iI yy)), (7, .int (iI xx)), (6, .int (iI qz)), (4, .int (iI (hiM 0 sp nn sa sx sy ra t.toNat u))), (0, .ref (am 0)), (1, .int (iI t)), (2, .int (iI v)), (3, .int (iI u))]) hx hb dX5_state_113 hl (by decide) rfl (fun ls hl => ?_)
                        refine lv_iload hx hb dX5_state_115 (lv_at hl 4 rfl) ?_
                        refine m_if_eq (tgt := 129) hx hb dX5_state_117 (by decide) ⟨by omega, by omega⟩ (fun c117 => ?_) (fun c117 => ?_)
                        · refine lv_iconst (v := iI 0) hx hb dX5_state_129 rfl ?_
                          refine lv_istore (lv' := [(6, .int (iI 0)), (5, .int (iI 0)), (9, .int (iI (if gz ((((4096 * v) + (64 * xx)) + yy).toNat) = true then 1 else 0))), (8, .int (iI yy)), (7, .int (iI xx)), (4, .int (iI (hiM 0 sp nn sa sx sy ra t.toNat u))), (0, .ref (am 0)), (1, .int (iI t)), (2, .int (iI v)), (3, .int (iI u))]) hx hb dX5_state_130 hl (by decide) rfl (fun ls hl => ?_)
                          refine m_iinc (lv' := [(8, .int (iI (yy + 1))), (6, .int (iI 0)), (5, .int (iI 0)), (9, .int (iI (if gz ((((4096 * v) + (64 * xx)) + yy).toNat) = true then 1 else 0))), (7, .int (iI xx)), (4, .int (iI (hiM 0 sp nn sa sx sy ra t.toNat u))), (0, .ref (am 0)), (1, .int (iI t)), (2, .int (iI v)), (3, .int (iI u))]) (k := 3) hx hb dX5_state_132 hl rfl (by decide) rfl (fun ls hl => ?_)
                          refine lv_goto (tgt := 70) hx hb dX5_state_135 (by decide) ?_
                          exact ih70 (yy + 1) 0 0 _ _ _ (by omega) (by omega) (isE_ex hpz (rgn_y (by omega) (by omega) (by omega)) ⟨Or.inl rfl, ⟨fun h9 => absurd h9 (by decide), fun h9 => h9.elim (fun z9 => absurd z9 (by omega)) (fun z9 => absurd (by rw [hgs] at z9; exact z9) c105)⟩⟩) (isE_all hqz (rgn_y (by omega) (by omega) (by omega)) ⟨Or.inl rfl, ⟨fun h9 => absurd h9 (by decide), fun h9 => absurd h9.1 (by omega)⟩⟩) (by omega) hG hS (lv_sub hl [0, 4, 1, 2, 5, 6, 7, 8, 9] rfl)
                        · refine lv_iload hx hb dX5_state_120 (lv_at hl 1 rfl) ?_
                          refine m_ifb_eq (tgt := 129) hx hb dX5_state_122 (by decide) (fun c122 => ?_) (fun c122 => ?_)
                          · refine lv_iconst (v := iI 0) hx hb dX5_state_129 rfl ?_
                            refine lv_istore (lv' := [(6, .int (iI 0)), (5, .int (iI 0)), (9, .int (iI (if gz ((((4096 * v) + (64 * xx)) + yy).toNat) = true then 1 else 0))), (8, .int (iI yy)), (7, .int (iI xx)), (4, .int (iI (hiM 0 sp nn sa sx sy ra t.toNat u))), (0, .ref (am 0)), (1, .int (iI t)), (2, .int (iI v)), (3, .int (iI u))]) hx hb dX5_state_130 hl (by decide) rfl (fun ls hl => ?_)
                            refine m_iinc (lv' := [(8, .int (iI (yy + 1))), (6, .int (iI 0)), (5, .int (iI 0)), (9, .int (iI (if gz ((((4096 * v) + (64 * xx)) + yy).toNat) = true then 1 else 0))), (7, .int (iI xx)), (4, .int (iI (hiM 0 sp nn sa sx sy ra t.toNat u))), (0, .ref (am 0)), (1, .int (iI t)), (2, .int (iI v)), (3, .int (iI u))]) (k := 3) hx hb dX5_state_132 hl rfl (by decide) rfl (fun ls hl => ?_)
                            refine lv_goto (tgt := 70) hx hb dX5_state_135 (by decide) ?_
                            exact ih70 (yy + 1) 0 0 _ _ _ (by omega) (by omega) (isE_ex hpz (rgn_y (by omega) (by omega) (by omega)) ⟨Or.inl rfl, ⟨fun h9 => absurd h9 (by decide), fun h9 => h9.elim (fun z9 => absurd z9 (by omega)) (fun z9 => absurd (by rw [hgs] at z9; exact z9) c105)⟩⟩) (isE_all hqz (rgn_y (by omega) (by omega) (by omega)) ⟨Or.inl rfl, ⟨fun h9 => absurd h9 (by decide), fun h9 => absurd (by have z9 := h9.2; rw [hgs] at z9; exact z9) c122⟩⟩) (by omega) hG hS (lv_sub hl [0, 4, 1, 2, 5, 6, 7, 8, 9] rfl)
                          · refine lv_iconst (v := iI 1) hx hb dX5_state_125 rfl ?_
                            refine lv_goto (tgt := 130) hx hb dX5_state_126 (by decide) ?_
                            refine lv_istore (lv' := [(6, .int (iI 1)), (5, .int (iI 0)), (9, .int (iI (if gz ((((4096 * v) + (64 * xx)) + yy).toNat) = true then 1 else 0))), (8, .int (iI yy)), (7, .int (iI xx)), (4, .int (iI (hiM 0 sp nn sa sx sy ra t.toNat u))), (0, .ref (am 0)), (1, .int (iI t)), (2, .int (iI v)), (3, .int (iI u))]) hx hb dX5_state_130 hl (by decide) rfl (fun ls hl => ?_)
                            refine m_iinc (lv' := [(8, .int (iI (yy + 1))), (6, .int (iI 1)), (5, .int (iI 0)), (9, .int (iI (if gz ((((4096 * v) + (64 * xx)) + yy).toNat) = true then 1 else 0))), (7, .int (iI xx)), (4, .int (iI (hiM 0 sp nn sa sx sy ra t.toNat u))), (0, .ref (am 0)), (1, .int (iI t)), (2, .int (iI v)), (3, .int (iI u))]) (k := 3) hx hb dX5_state_132 hl rfl (by decide) rfl (fun ls hl => ?_)
                            refine lv_goto (tgt := 70) hx hb dX5_state_135 (by decide) ?_
                            exact ih70 (yy + 1) 0 1 _ _ _ (by omega) (by omega) (isE_ex hpz (rgn_y (by omega) (by omega) (by omega)) ⟨Or.inl rfl, ⟨fun h9 => absurd h9 (by decide), fun h9 => h9.elim (fun z9 => absurd z9 (by omega)) (fun z9 => absurd (by rw [hgs] at z9; exact z9) c105)⟩⟩) (isE_all hqz (rgn_y (by omega) (by omega) (by omega)) ⟨Or.inr rfl, ⟨fun _ => ⟨by omega, by rw [hgs]; exact c122⟩, fun _ => rfl⟩⟩) (by omega) hG hS (lv_sub hl [0, 4, 1, 2, 5, 6, 7, 8, 9] rfl)
                      · refine lv_iconst (v := iI 1) hx hb dX5_state_108 rfl ?_
                        refine lv_goto (tgt := 113) hx hb dX5_state_109 (by decide) ?_
                        refine lv_istore (lv' := [(5, .int (iI 1)), (9, .int (iI (if gz ((((4096 * v) + (64 * xx)) + yy).toNat) = true then 1 else 0))), (8, .int (iI yy)), (7, .int (iI xx)), (6, .int (iI qz)), (4, .int (iI (hiM 0 sp nn sa sx sy ra t.toNat u))), (0, .ref (am 0)), (1, .int (iI t)), (2, .int (iI v)), (3, .int (iI u))]) hx hb dX5_state_113 hl (by decide) rfl (fun ls hl => ?_)
                        refine lv_iload hx hb dX5_state_115 (lv_at hl 4 rfl) ?_
                        refine m_if_eq (tgt := 129) hx hb dX5_state_117 (by decide) ⟨by omega, by omega⟩ (fun c117 => ?_) (fun c117 => ?_)
                        · refine lv_iconst (v := iI 0) hx hb dX5_state_129 rfl ?_
                          refine lv_istore (lv' := [(6, .int (iI 0)), (5, .int (iI 1)), (9, .int (iI (if gz ((((4096 * v) + (64 * xx)) + yy).toNat) = true then 1 else 0))), (8, .int (iI yy)), (7, .int (iI xx)), (4, .int (iI (hiM 0 sp nn sa sx sy ra t.toNat u))), (0, .ref (am 0)), (1, .int (iI t)), (2, .int (iI v)), (3, .int (iI u))]) hx hb dX5_state_130 hl (by decide) rfl (fun ls hl => ?_)
                          refine m_iinc (lv' := [(8, .int (iI (yy + 1))), (6, .int (iI 0)), (5, .int (iI 1)), (9, .int (iI (if gz ((((4096 * v) + (64 * xx)) + yy).toNat) = true then 1 else 0))), (7, .int (iI xx)), (4, .int (iI (hiM 0 sp nn sa sx sy ra t.toNat u))), (0, .ref (am 0)), (1, .int (iI t)), (2, .int (iI v)), (3, .int (iI u))]) (k := 3) hx hb dX5_state_132 hl rfl (by decide) rfl (fun ls hl => ?_)
                          refine lv_goto (tgt := 70) hx hb dX5_state_135 (by decide) ?_
                          exact ih70 (yy + 1) 1 0 _ _ _ (by omega) (by omega) (isE_ex hpz (rgn_y (by omega) (by omega) (by omega)) ⟨Or.inr rfl, ⟨fun _ => Or.inr (by rw [hgs]; exact c105), fun _ => rfl⟩⟩) (isE_all hqz (rgn_y (by omega) (by omega) (by omega)) ⟨Or.inl rfl, ⟨fun h9 => absurd h9 (by decide), fun h9 => absurd h9.1 (by omega)⟩⟩) (by omega) hG hS (lv_sub hl [0, 4, 1, 2, 5, 6, 7, 8, 9] rfl)
                        · refine lv_iload hx hb dX5_state_120 (lv_at hl 1 rfl) ?_
                          refine m_ifb_eq (tgt := 129) hx hb dX5_state_122 (by decide) (fun c122 => ?_) (fun c122 => ?_)
                          · refine lv_iconst (v := iI 0) hx hb dX5_state_129 rfl ?_
                            refine lv_istore (lv' := [(6, .int (iI 0)), (5, .int (iI 1)), (9, .int (iI (if gz ((((4096 * v) + (64 * xx)) + yy).toNat) = true then 1 else 0))), (8, .int (iI yy)), (7, .int (iI xx)), (4, .int (iI (hiM 0 sp nn sa sx sy ra t.toNat u))), (0, .ref (am 0)), (1, .int (iI t)), (2, .int (iI v)), (3, .int (iI u))]) hx hb dX5_state_130 hl (by decide) rfl (fun ls hl => ?_)
                            refine m_iinc (lv' := [(8, .int (iI (yy + 1))), (6, .int (iI 0)), (5, .int (iI 1)), (9, .int (iI (if gz ((((4096 * v) + (64 * xx)) + yy).toNat) = true then 1 else 0))), (7, .int (iI xx)), (4, .int (iI (hiM 0 sp nn sa sx sy ra t.toNat u))), (0, .ref (am 0)), (1, .int (iI t)), (2, .int (iI v)), (3, .int (iI u))]) (k := 3) hx hb dX5_state_132 hl rfl (by decide) rfl (fun ls hl => ?_)
                            refine lv_goto (tgt := 70) hx hb dX5_state_135 (by decide) ?_
                            exact ih70 (yy + 1) 1 0 _ _ _ (by omega) (by omega) (isE_ex hpz (rgn_y (by omega) (by omega) (by omega)) ⟨Or.inr rfl, ⟨fun _ => Or.inr (by rw [hgs]; exact c105), fun _ => rfl⟩⟩) (isE_all hqz (rgn_y (by omega) (by omega) (by omega)) ⟨Or.inl rfl, ⟨fun h9 => absurd h9 (by decide), fun h9 => absurd (by have z9 := h9.2; rw [hgs] at z9; exact z9) c122⟩⟩) (by omega) hG hS (lv_sub hl [0, 4, 1, 2, 5, 6, 7, 8, 9] rfl)
                          · refine lv_iconst (v := iI 1) hx hb dX5_state_125 rfl ?_
                            refine lv_goto (tgt := 130) hx hb dX5_state_126 (by decide) ?_
                            refine lv_istore (lv' := [(6, .int (iI 1)), (5, .int (iI 1)), (9, .int (iI (if gz ((((4096 * v) + (64 * xx)) + yy).toNat) = true then 1 else 0))), (8, .int (iI yy)), (7, .int (iI xx)), (4, .int (iI (hiM 0 sp nn sa sx sy ra t.toNat u))), (0, .ref (am 0)), (1, .int (iI t)), (2, .int (iI v)), (3, .int (iI u))]) hx hb dX5_state_130 hl (by decide) rfl (fun ls hl => ?_)
                            refine m_iinc (lv' := [(8, .int (iI (yy + 1))), (6, .int (iI 1)), (5, .int (iI 1)), (9, .int (iI (if gz ((((4096 * v) + (64 * xx)) + yy).toNat) = true then 1 else 0))), (7, .int (iI xx)), (4, .int (iI (hiM 0 sp nn sa sx sy ra t.toNat u))), (0, .ref (am 0)), (1, .int (iI t)), (2, .int (iI v)), (3, .int (iI u))]) (k := 3) hx hb dX5_state_132 hl rfl (by decide) rfl (fun ls hl => ?_)
                            refine lv_goto (tgt := 70) hx hb dX5_state_135 (by decide) ?_
                            exact ih70 (yy + 1) 1 1 _ _ _ (by omega) (by omega) (isE_ex hpz (rgn_y (by omega) (by omega) (by omega)) ⟨Or.inr rfl, ⟨fun _ => Or.inr (by rw [hgs]; exact c105), fun _ => rfl⟩⟩) (isE_all hqz (rgn_y (by omega) (by omega) (by omega)) ⟨Or.inr rfl, ⟨fun _ => ⟨by omega, by rw [hgs]; exact c122⟩, fun _ => rfl⟩⟩) (by omega) hG hS (lv_sub hl [0, 4, 1, 2, 5, 6, 7, 8, 9] rfl)
              exact loop70 _ (loM 0 sp nn sa sx sy ra t.toNat u) pz qz _ _ _ (by omega) (by omega) hpx hqx (Nat.lt_succ_self _) hG hS (lv_sub hl [0, 1, 2, 3, 4, 5, 6, 7, 8] rfl)
        exact loop49 _ (loM 1 sp nn sa sx sy ra t.toNat u) 0 1 _ _ _ (by omega) (by omega) ⟨Or.inl rfl, ⟨fun h9 => absurd h9 (by decide), fun ⟨a, k, g1, g2⟩ => by obtain ⟨g3, g4 | g4⟩ := g1; exact absurd g4.1 (by omega); exact absurd g3 (by omega)⟩⟩ ⟨Or.inr rfl, ⟨fun _ a k g1 => by obtain ⟨g3, g4 | g4⟩ := g1; exact absurd g4.1 (by omega); exact absurd g3 (by omega), fun _ => rfl⟩⟩ (Nat.lt_succ_self _) hG hS (lv_sub hl [0, 1, 2, 3, 4, 5, 6, 7] rfl)
      · refine lv_iconst (v := iI (-1)) hx hb dX5_state_23 rfl ?_
        exact m_iret hx hb hr hlk hQ hG hS (Nat.le_of_ble_eq_true rfl) (Nat.le_of_ble_eq_true rfl) dX5_state_24 ⟨congrArg iI (by rw [if_neg (by omega)]), rfl⟩

