abbrev mGd (nt : Int) (sp nn sa sx sy ra : Nat → Int) : Prop := ∀ i : Nat, (i : Int) < nt → (0 ≤ nn i ∧ nn i ≤ 12) ∧ (0 ≤ sp i ∧ sp i ≤ 7) ∧ mSo (nn i) sa sx sy ra i
/-- the reference's boxes, in the same form as the class's -/
def mBF (sp nn sa sx sy ra : Nat → Int) (i : Nat) : Nat → Nat → Int := fun t k => if k = 0 then loM 1 sp nn sa sx sy ra i t else if k = 1 then hiM 1 sp nn sa sx sy ra i t else if k = 2 then loM 0 sp nn sa sx sy ra i t else hiM 0 sp nn sa sx sy ra i t
theorem loM_rg {nt : Int} {sp nn sa sx sy ra : Nat → Int} (h : mGd nt sp nn sa sx sy ra) {i : Nat} (hi : (i : Int) < nt) {bb : Int} (hb : bb = 0 ∨ bb = 1) (u : Int) : -63 ≤ loM bb sp nn sa sx sy ra i u ∧ loM bb sp nn sa sx sy ra i u ≤ 63 := by
  obtain ⟨h1, h2, h3⟩ := h i hi
  unfold loM
  refine mxF_rg h2.1 ⟨by omega, by omega⟩ (fun k hk => ?_)
  have := h3 k (by omega)
  unfold cxy
  split <;> omega
theorem hiM_rg {nt : Int} {sp nn sa sx sy ra : Nat → Int} (h : mGd nt sp nn sa sx sy ra) {i : Nat} (hi : (i : Int) < nt) {bb : Int} (hb : bb = 0 ∨ bb = 1) (u : Int) : -63 ≤ hiM bb sp nn sa sx sy ra i u ∧ hiM bb sp nn sa sx sy ra i u ≤ 63 := by
  obtain ⟨h1, h2, h3⟩ := h i hi
  unfold hiM
  have := mxF_rg (β := -63) (v := fun d => -(cxy bb sx sy (12 * i + d) + ra (12 * i + d))) (tk := fun d => sa (12 * i + d)) (s := sp i) (u := u) h2.1 (n := (nn i).toNat) ⟨by omega, by omega⟩ (fun k hk => by
    have := h3 k (by omega)
    show -(cxy bb sx sy (12 * i + k) + ra (12 * i + k)) ≤ 63
    unfold cxy
    split <;> omega)
  omega

set_option maxHeartbeats 4000000 in
set_option maxRecDepth 100000 in
theorem c_X5_where (l : Launch) (D : va_G) (b : Nat) (M : mM) (am : Nat → Nat) (nt ng : Int) (sp nn jj sa sx sy ra : Nat → Int) (gz : Nat → Bool) (va ac : Nat → Int) (hO : MoOk M am nt ng sp nn jj sa sx sy ra gz va ac) (hgd : mGd nt sp nn sa sx sy ra) (t u w : Int) (hrt : rg t) (hru : rg u) (hrw : rg w) : Met l yX5_where wsX5_where ({ frames := 2, cells := 0, slots := 0, locals := 43 } : Room) (mPc [.ref (am 0), .int (iI t), .int (iI u), .int (iI w)] D b M) (mQi D b (fI (if (0 ≤ t ∧ t < nt) ∧ (0 ≤ u ∧ u < 80) then whN (mBF sp nn sa sx sy ra t.toNat) u.toNat w else -1) M)) 0 0 (mF b) := by
  refine m_met (cc := cX5_where) (maxL := 8) (ret := (some .int)) (by decide) rfl (Nat.le_of_ble_eq_true rfl) ?_
  intro p e s m args below meth c Q ls hx hb hml hr hts hown hlk hnm hQ K hG hS hl
  have hown : s.vm.findClass RX5 = some m.cls := hown
  have hl : lv_has ls 8 [(0, .ref (am 0)), (1, .int (iI t)), (2, .int (iI u)), (3, .int (iI w))] := hl
  obtain ⟨m0, m1, m2, m3, m4, m5, m6, m7, m8, m9, m10, minj, ⟨b1, b2, b3, b4⟩⟩ := id hO
  refine lv_aload_n hx hb dX5_where_0 rfl (lv_at hl 0 rfl) ?_
  refine lv_iload_n hx hb dX5_where_1 rfl (lv_at hl 1 rfl) ?_
  refine m_callfi (m_runV (a := am 0) (As := [.int (iI t)]) (rest := []) ⟨hx, hb, hml, hown, hts⟩ (c_X5_isThing l D b _ am nt ng sp nn jj sa sx sy ra gz va ac hO t hrt) (cwV 1 hts gX5_where_X5_isThing rfl rfl rfl (by decide +kernel) ⟨Nat.le_of_ble_eq_true rfl, Nat.le_of_ble_eq_true rfl⟩) K hG m0 rfl rfl rfl hl.1 rfl (Nat.le_of_ble_eq_true rfl) dX5_where_2 ⟨Nat.le_of_ble_eq_true rfl, Nat.le_of_ble_eq_true rfl⟩) hS (fun H locs hG hS => ?_)
  have hG : mG D b M s H := hG
  refine m_ifb_eq (tgt := 15) hx hb dX5_where_5 (by decide) (fun c5 => ?_) (fun c5 => ?_)
  · refine lv_iconst (v := iI (-1)) hx hb dX5_where_15 rfl ?_
    exact m_iret hx hb hr hlk hQ hG hS (Nat.le_of_ble_eq_true rfl) (Nat.le_of_ble_eq_true rfl) dX5_where_16 ⟨congrArg iI (by rw [if_neg (by omega)]), rfl⟩
  · refine lv_iload_n hx hb dX5_where_8 rfl (lv_at hl 2 rfl) ?_
    refine m_callfi (m_runS (As := [.int (iI u)]) (rest := []) ⟨hx, hb, hml, hown, hts⟩ (c_X5_isTick l D b _ u hru) (va_cwS 1 hts gX5_where_X5_isTick rfl rfl rfl (by decide +kernel) ⟨Nat.le_of_ble_eq_true rfl, Nat.le_of_ble_eq_true rfl⟩) K hG rfl hl.1 rfl (Nat.le_of_ble_eq_true rfl) dX5_where_9 ⟨Nat.le_of_ble_eq_true rfl, Nat.le_of_ble_eq_true rfl⟩) hS (fun H locs hG hS => ?_)
    have hG : mG D b M s H := hG
    refine m_ifb_ne (tgt := 17) hx hb dX5_where_12 (by decide) (fun c12 => ?_) (fun c12 => ?_)
    · refine lv_aload_n hx hb dX5_where_17 rfl (lv_at hl 0 rfl) ?_
      refine lv_iload_n hx hb dX5_where_18 rfl (lv_at hl 1 rfl) ?_
      refine lv_iload_n hx hb dX5_where_19 rfl (lv_at hl 2 rfl) ?_
      refine lv_iconst (v := iI 1) hx hb dX5_where_20 rfl ?_
      refine m_callfi (m_runV (a := am 0) (As := [.int (iI t), .int (iI u), .int (iI 1)]) (rest := []) ⟨hx, hb, hml, hown, hts⟩ (c_X5_low l D b _ am nt ng sp nn jj sa sx sy ra gz va ac hO t u 1 (by omega) (by omega) (by omega) (by omega) (by omega) (hgd t.toNat (by omega)).1.1 (hgd t.toNat (by omega)).1.2 (hgd t.toNat (by omega)).2.1.1 (hgd t.toNat (by omega)).2.1.2 (hgd t.toNat (by omega)).2.2) (cwV 3 hts gX5_where_X5_low rfl rfl rfl (by decide +kernel) ⟨Nat.le_of_ble_eq_true rfl, Nat.le_of_ble_eq_true rfl⟩) K hG m0 rfl rfl rfl hl.1 rfl (Nat.le_of_ble_eq_true rfl) dX5_where_21 ⟨Nat.le_of_ble_eq_true rfl, Nat.le_of_ble_eq_true rfl⟩) hS (fun H locs hG hS => ?_)
      have hG : mG D b M s H := hG
      refine lv_istore (lv' := [(4, .int (iI (loM 1 sp nn sa sx sy ra t.toNat u))), (0, .ref (am 0)), (1, .int (iI t)), (2, .int (iI u)), (3, .int (iI w))]) hx hb dX5_where_24 hl (by decide) rfl (fun ls hl => ?_)
      refine lv_aload_n hx hb dX5_where_26 rfl (lv_at hl 1 rfl) ?_
      refine lv_iload_n hx hb dX5_where_27 rfl (lv_at hl 2 rfl) ?_
      refine lv_iload_n hx hb dX5_where_28 rfl (lv_at hl 3 rfl) ?_
      refine lv_iconst (v := iI 1) hx hb dX5_where_29 rfl ?_
      refine m_callfi (m_runV (a := am 0) (As := [.int (iI t), .int (iI u), .int (iI 1)]) (rest := []) ⟨hx, hb, hml, hown, hts⟩ (c_X5_high l D b _ am nt ng sp nn jj sa sx sy ra gz va ac hO t u 1 (by omega) (by omega) (by omega) (by omega) (by omega) (hgd t.toNat (by omega)).1.1 (hgd t.toNat (by omega)).1.2 (hgd t.toNat (by omega)).2.1.1 (hgd t.toNat (by omega)).2.1.2 (hgd t.toNat (by omega)).2.2) (cwV 3 hts gX5_where_X5_high rfl rfl rfl (by decide +kernel) ⟨Nat.le_of_ble_eq_true rfl, Nat.le_of_ble_eq_true rfl⟩) K hG m0 rfl rfl rfl hl.1 rfl (Nat.le_of_ble_eq_true rfl) dX5_where_30 ⟨Nat.le_of_ble_eq_true rfl, Nat.le_of_ble_eq_true rfl⟩) hS (fun H locs hG hS => ?_)
      have hG : mG D b M s H := hG
      refine lv_istore (lv' := [(5, .int (iI (hiM 1 sp nn sa sx sy ra t.toNat u))), (4, .int (iI (loM 1 sp nn sa sx sy ra t.toNat u))), (0, .ref (am 0)), (1, .int (iI t)), (2, .int (iI u)), (3, .int (iI w))]) hx hb dX5_where_33 hl (by decide) rfl (fun ls hl => ?_)
      refine lv_aload_n hx hb dX5_where_35 rfl (lv_at hl 2 rfl) ?_
      refine lv_iload_n hx hb dX5_where_36 rfl (lv_at hl 3 rfl) ?_
      refine lv_iload_n hx hb dX5_where_37 rfl (lv_at hl 4 rfl) ?_
      refine lv_iconst (v := iI 0) hx hb dX5_where_38 rfl ?_
      refine m_callfi (m_runV (a := am 0) (As := [.int (iI t), .int (iI u), .int (iI 0)]) (rest := []) ⟨hx, hb, hml, hown, hts⟩ (c_X5_low l D b _ am nt ng sp nn jj sa sx sy ra gz va ac hO t u 0 (by omega) (by omega) (by omega) (by omega) (by omega) (hgd t.toNat (by omega)).1.1 (hgd t.toNat (by omega)).1.2 (hgd t.toNat (by omega)).2.1.1 (hgd t.toNat (by omega)).2.1.2 (hgd t.toNat (by omega)).2.2) (cwV 3 hts gX5_where_X5_low rfl rfl rfl (by decide +kernel) ⟨Nat.le_of_ble_eq_true rfl, Nat.le_of_ble_eq_true rfl⟩) K hG m0 rfl rfl rfl hl.1 rfl (Nat.le_of_ble_eq_true rfl) dX5_where_39 ⟨Nat.le_of_ble_eq_true rfl, Nat.le_of_ble_eq_true rfl⟩) hS (fun H locs hG hS => ?_)
      have hG : mG D b M s H := hG
      refine lv_istore (lv' := [(6, .int (iI (loM 0 sp nn sa sx sy ra t.toNat u))), (5, .int (iI (hiM 1 sp nn sa sx sy ra t.toNat u))), (4, .int (iI (loM 1 sp nn sa sx sy ra t.toNat u))), (0, .ref (am 0)), (1, .int (iI t)), (2, .int (iI u)), (3, .int (iI w))]) hx hb dX5_where_42 hl (by decide) rfl (fun ls hl => ?_)
      refine lv_aload_n hx hb dX5_where_44 rfl (lv_at hl 3 rfl) ?_
      refine lv_iload_n hx hb dX5_where_45 rfl (lv_at hl 4 rfl) ?_
      refine lv_iload_n hx hb dX5_where_46 rfl (lv_at hl 5 rfl) ?_
      refine lv_iconst (v := iI 0) hx hb dX5_where_47 rfl ?_
      refine m_callfi (m_runV (a := am 0) (As := [.int (iI t), .int (iI u), .int (iI 0)]) (rest := []) ⟨hx, hb, hml, hown, hts⟩ (c_X5_high l D b _ am nt ng sp nn jj sa sx sy ra gz va ac hO t u 0 (by omega) (by omega) (by omega) (by omega) (by omega) (hgd t.toNat (by omega)).1.1 (hgd t.toNat (by omega)).1.2 (hgd t.toNat (by omega)).2.1.1 (hgd t.toNat (by omega)).2.1.2 (hgd t.toNat (by omega)).2.2) (cwV 3 hts gX5_where_X5_high rfl rfl rfl (by decide +kernel) ⟨Nat.le_of_ble_eq_true rfl, Nat.le_of_ble_eq_true rfl⟩) K hG m0 rfl rfl rfl hl.1 rfl (Nat.le_of_ble_eq_true rfl) dX5_where_48 ⟨Nat.le_of_ble_eq_true rfl, Nat.le_of_ble_eq_true rfl⟩) hS (fun H locs hG hS => ?_)
      have hG : mG D b M s H := hG
      refine lv_istore (lv' := [(7, .int (iI (hiM 0 sp nn sa sx sy ra t.toNat u))), (6, .int (iI (loM 0 sp nn sa sx sy ra t.toNat u))), (5, .int (iI (hiM 1 sp nn sa sx sy ra t.toNat u))), (4, .int (iI (loM 1 sp nn sa sx sy ra t.toNat u))), (0, .ref (am 0)), (1, .int (iI t)), (2, .int (iI u)), (3, .int (iI w))]) hx hb dX5_where_51 hl (by decide) rfl (fun ls hl => ?_)
      refine lv_iload_n hx hb dX5_where_53 rfl (lv_at hl 7 rfl) ?_
      rcases (show (w < 0 ∨ 4 < w) ∨ w = 0 ∨ w = 1 ∨ w = 2 ∨ w = 3 ∨ w = 4 by omega) with hc54 | hc54 | hc54 | hc54 | hc54 | hc54
      · refine m_tabOut (tgt := 116) hx hb dX5_where_54 hrw (by omega) (by decide) ?_
        refine lv_iconst (v := iI (-1)) hx hb dX5_where_116 rfl ?_
        exact m_iret hx hb hr hlk hQ hG hS (Nat.le_of_ble_eq_true rfl) (Nat.le_of_ble_eq_true rfl) dX5_where_117 ⟨congrArg iI (by rw [if_pos (by omega)]; unfold whN; rw [if_neg (by omega), if_neg (by omega), if_neg (by omega), if_neg (by omega), if_neg (by omega)]), rfl⟩
      · refine m_tabIn (tgt := 88) (off := 34) hx hb dX5_where_54 hrw (by omega) (by omega) (by rw [hc54]; rfl) (by decide) ?_
        refine lv_iload hx hb dX5_where_88 (lv_at hl 3 rfl) ?_
        exact m_iret hx hb hr hlk hQ hG hS (Nat.le_of_ble_eq_true rfl) (Nat.le_of_ble_eq_true rfl) dX5_where_90 ⟨congrArg iI (by rw [if_pos (by omega)]; unfold whN; rw [if_pos (by omega)]; unfold mBF; simp [show ((u.toNat : Nat) : Int) = u by omega]), rfl⟩
      · refine m_tabIn (tgt := 91) (off := 37) hx hb dX5_where_54 hrw (by omega) (by omega) (by rw [hc54]; rfl) (by decide) ?_
        refine lv_iload hx hb dX5_where_91 (lv_at hl 2 rfl) ?_
        exact m_iret hx hb hr hlk hQ hG hS (Nat.le_of_ble_eq_true rfl) (Nat.le_of_ble_eq_true rfl) dX5_where_93 ⟨congrArg iI (by rw [if_pos (by omega)]; unfold whN; rw [if_neg (by omega), if_pos (by omega)]; unfold mBF; simp [show ((u.toNat : Nat) : Int) = u by omega]), rfl⟩
      · refine m_tabIn (tgt := 94) (off := 40) hx hb dX5_where_54 hrw (by omega) (by omega) (by rw [hc54]; rfl) (by decide) ?_
        refine lv_iload hx hb dX5_where_94 (lv_at hl 1 rfl) ?_
        exact m_iret hx hb hr hlk hQ hG hS (Nat.le_of_ble_eq_true rfl) (Nat.le_of_ble_eq_true rfl) dX5_where_96 ⟨congrArg iI (by rw [if_pos (by omega)]; unfold whN; rw [if_neg (by omega), if_neg (by omega), if_pos (by omega)]; unfold mBF; simp [show ((u.toNat : Nat) : Int) = u by omega]), rfl⟩
      · refine m_tabIn (tgt := 97) (off := 43) hx hb dX5_where_54 hrw (by omega) (by omega) (by rw [hc54]; rfl) (by decide) ?_
        refine lv_iload hx hb dX5_where_97 (lv_at hl 0 rfl) ?_
        exact m_iret hx hb hr hlk hQ hG hS (Nat.le_of_ble_eq_true rfl) (Nat.le_of_ble_eq_true rfl) dX5_where_99 ⟨congrArg iI (by rw [if_pos (by omega)]; unfold whN; rw [if_neg (by omega), if_neg (by omega), if_neg (by omega), if_pos (by omega)]; unfold mBF; simp [show ((u.toNat : Nat) : Int) = u by omega]), rfl⟩
      · refine m_tabIn (tgt := 100) (off := 46) hx hb dX5_where_54 hrw (by omega) (by omega) (by rw [hc54]; rfl) (by decide) ?_
        refine lv_iload hx hb dX5_where_100 (lv_at hl 2 rfl) ?_
        refine lv_iload hx hb dX5_where_102 (lv_at hl 3 rfl) ?_
        refine m_isub hx hb dX5_where_104 ?_
        refine lv_iconst (v := iI 1) hx hb dX5_where_105 rfl ?_
        refine m_iadd hx hb dX5_where_106 ?_
        refine lv_iload hx hb dX5_where_107 (lv_at hl 0 rfl) ?_
        refine lv_iload hx hb dX5_where_109 (lv_at hl 1 rfl) ?_
        refine m_isub hx hb dX5_where_111 ?_
        refine lv_iconst (v := iI 1) hx hb dX5_where_112 rfl ?_
        refine m_iadd hx hb dX5_where_113 ?_
        refine m_imul hx hb dX5_where_114 ?_
        exact m_iret hx hb hr hlk hQ hG hS (Nat.le_of_ble_eq_true rfl) (Nat.le_of_ble_eq_true rfl) dX5_where_115 ⟨congrArg iI (by rw [if_pos (by omega)]; unfold whN; rw [if_neg (by omega), if_neg (by omega), if_neg (by omega), if_neg (by omega), if_pos (by omega)]; unfold mBF; simp [show ((u.toNat : Nat) : Int) = u by omega]), rfl⟩
    · refine lv_iconst (v := iI (-1)) hx hb dX5_where_15 rfl ?_
      exact m_iret hx hb hr hlk hQ hG hS (Nat.le_of_ble_eq_true rfl) (Nat.le_of_ble_eq_true rfl) dX5_where_16 ⟨congrArg iI (by rw [if_neg (by omega)]), rfl⟩

set_option maxHeartbeats 4000000 in
set_option maxRecDepth 100000 in
theorem c_X5_count (l : Launch) (D : va_G) (b : Nat) (M : mM) (am : Nat → Nat) (nt ng : Int) (sp nn jj sa sx sy ra : Nat → Int) (gz : Nat → Bool) (va ac : Nat → Int) (hO : MoOk M am nt ng sp nn jj sa sx sy ra gz va ac) (w : Int) (hrw : rg w) : Met l yX5_count wsX5_count ({ frames := 0, cells := 0, slots := 0, locals := 0 } : Room) (mPc [.ref (am 0), .int (iI w)] D b M) (mQi D b (fI (if w = 0 then nt else if w = 1 then smN nn nt.toNat else if w = 2 then ng else -1) M)) 0 0 (mF b) := by
  refine m_met (cc := cX5_count) (maxL := 4) (ret := (some .int)) (by decide) rfl (Nat.le_of_ble_eq_true rfl) ?_
  intro p e s m args below meth c Q ls hx hb hml hr hts hown hlk hnm hQ K hG hS hl
  have hown : s.vm.findClass RX5 = some m.cls := hown
  have hl : lv_has ls 4 [(0, .ref (am 0)), (1, .int (iI w))] := hl
  obtain ⟨m0, m1, m2, m3, m4, m5, m6, m7, m8, m9, m10, minj, ⟨b1, b2, b3, b4⟩⟩ := id hO
  refine lv_iconst (v := iI 0) hx hb dX5_count_0 rfl ?_
  refine lv_istore_n (lv' := [(2, .int (iI 0)), (0, .ref (am 0)), (1, .int (iI w))]) hx hb dX5_count_1 rfl hl (by decide) rfl (fun ls hl => ?_)
  refine lv_iconst (v := iI 0) hx hb dX5_count_2 rfl ?_
  refine lv_istore_n (lv' := [(3, .int (iI 0)), (2, .int (iI 0)), (0, .ref (am 0)), (1, .int (iI w))]) hx hb dX5_count_3 rfl hl (by decide) rfl (fun ls hl => ?_)
  have loop4 : ∀ (fuel : Nat) (i : Int) (x : Int) (H : Heap) (locs : List Loc) (ls : Array Slot), (0 ≤ i) → (i ≤ nt) → (x = smN nn i.toNat) → (nt - i).toNat < fuel → mG D b M s H → va_S (mF b) s.heap H locs → lv_has ls 4 [(3, .int (iI i)), (2, .int (iI x)), (0, .ref (am 0)), (1, .int (iI w))] → W p l e ({ frames := 0, cells := 0, slots := 0, locals := 0 } : Room) s m args below meth c H locs 0 0 Q (F0 m 4 ls []) := by
    intro fuel
    induction fuel with
    | zero => intro i x H locs ls hi0 hi1 hs hm; exact absurd hm (Nat.not_lt_zero _)
    | succ fuel ih4 =>
      intro i x H locs ls hi0 hi1 hs hm hG hS hl
      refine lv_iload_n hx hb dX5_count_4 rfl (lv_at hl 0 rfl) ?_
      refine lv_aload_n hx hb dX5_count_5 rfl (lv_at hl 2 rfl) ?_
      refine m_get (ci := 5) (v := .int (iI nt)) (C := RX5) (T := TX5) (N := 12) hx hb hts (by decide +kernel) hown K hG m0 rfl 0 (by decide) (by decide +kernel) rfl dX5_count_6 ?_
      refine m_icmp_ge (tgt := 27) hx hb dX5_count_9 (by decide) ⟨by omega, by omega⟩ ⟨by omega, by omega⟩ (fun c9 => ?_) (fun c9 => ?_)
      · refine lv_iload_n hx hb dX5_count_27 rfl (lv_at hl 3 rfl) ?_
        refine m_if_ne (tgt := 38) hx hb dX5_count_28 (by decide) hrw (fun c28 => ?_) (fun c28 => ?_)
        · refine lv_iload_n hx hb dX5_count_38 rfl (lv_at hl 3 rfl) ?_
          refine lv_iconst (v := iI 1) hx hb dX5_count_39 rfl ?_
          refine m_icmp_ne (tgt := 47) hx hb dX5_count_40 (by decide) hrw ⟨by omega, by omega⟩ (fun c40 => ?_) (fun c40 => ?_)
          · refine lv_iload_n hx hb dX5_count_47 rfl (lv_at hl 3 rfl) ?_
            refine lv_iconst (v := iI 2) hx hb dX5_count_48 rfl ?_
            refine m_icmp_ne (tgt := 59) hx hb dX5_count_49 (by decide) hrw ⟨by omega, by omega⟩ (fun c49 => ?_) (fun c49 => ?_)
            · refine lv_iconst (v := iI (-1)) hx hb dX5_count_59 rfl ?_
              exact m_iret hx hb hr hlk hQ hG hS (Nat.le_of_ble_eq_true rfl) (Nat.le_of_ble_eq_true rfl) dX5_count_60 ⟨congrArg iI (by first | rw [if_pos (by omega)] | (rw [if_neg (by omega), if_pos (by omega), hs, show i.toNat = nt.toNat by omega]) | (rw [if_neg (by omega), if_neg (by omega), if_pos (by omega)]) | (rw [if_neg (by omega), if_neg (by omega), if_neg (by omega)])), rfl⟩
            · refine lv_aload_n hx hb dX5_count_52 rfl (lv_at hl 2 rfl) ?_
              refine m_get (ci := 5) (v := .int (iI ng)) (C := RX5) (T := TX5) (N := 12) hx hb hts (by decide +kernel) hown K hG m0 rfl 8 (by decide) (by decide +kernel) rfl dX5_count_53 ?_
              refine lv_goto (tgt := 60) hx hb dX5_count_56 (by decide) ?_
              exact m_iret hx hb hr hlk hQ hG hS (Nat.le_of_ble_eq_true rfl) (Nat.le_of_ble_eq_true rfl) dX5_count_60 ⟨congrArg iI (by first | rw [if_pos (by omega)] | (rw [if_neg (by omega), if_pos (by omega), hs, show i.toNat = nt.toNat by omega]) | (rw [if_neg (by omega), if_neg (by omega), if_pos (by omega)]) | (rw [if_neg (by omega), if_neg (by omega), if_neg (by omega)])), rfl⟩
          · refine lv_iload_n hx hb dX5_count_43 rfl (lv_at hl 1 rfl) ?_
            refine lv_goto (tgt := 60) hx hb dX5_count_44 (by decide) ?_
            exact m_iret hx hb hr hlk hQ hG hS (Nat.le_of_ble_eq_true rfl) (Nat.le_of_ble_eq_true rfl) dX5_count_60 ⟨congrArg iI (by first | rw [if_pos (by omega)] | (rw [if_neg (by omega), if_pos (by omega), hs, show i.toNat = nt.toNat by omega]) | (rw [if_neg (by omega), if_neg (by omega), if_pos (by omega)]) | (rw [if_neg (by omega), if_neg (by omega), if_neg (by omega)])), rfl⟩
        · refine lv_aload_n hx hb dX5_count_31 rfl (lv_at hl 2 rfl) ?_
          refine m_get (ci := 5) (v := .int (iI nt)) (C := RX5) (T := TX5) (N := 12) hx hb hts (by decide +kernel) hown K hG m0 rfl 0 (by decide) (by decide +kernel) rfl dX5_count_32 ?_
          refine lv_goto (tgt := 60) hx hb dX5_count_35 (by decide) ?_
          exact m_iret hx hb hr hlk hQ hG hS (Nat.le_of_ble_eq_true rfl) (Nat.le_of_ble_eq_true rfl) dX5_count_60 ⟨congrArg iI (by first | rw [if_pos (by omega)] | (rw [if_neg (by omega), if_pos (by omega), hs, show i.toNat = nt.toNat by omega]) | (rw [if_neg (by omega), if_neg (by omega), if_pos (by omega)]) | (rw [if_neg (by omega), if_neg (by omega), if_neg (by omega)])), rfl⟩
      · refine lv_iload_n hx hb dX5_count_12 rfl (lv_at hl 1 rfl) ?_
        refine lv_aload_n hx hb dX5_count_13 rfl (lv_at hl 2 rfl) ?_
        refine m_get (ci := 5) (v := .ref (am 2)) (C := RX5) (T := TX5) (N := 12) hx hb hts (by decide +kernel) hown K hG m0 rfl 2 (by decide) (by decide +kernel) rfl dX5_count_14 ?_
        refine lv_iload_n hx hb dX5_count_17 rfl (lv_at hl 0 rfl) ?_
        refine m_iald hx hb hG m2 i.toNat (by omega) (by omega) (by decide) dX5_count_18 ?_
        refine m_iadd hx hb dX5_count_19 ?_
        refine lv_istore_n (lv' := [(2, .int (iI (x + (nn i.toNat)))), (3, .int (iI i)), (0, .ref (am 0)), (1, .int (iI w))]) hx hb dX5_count_20 rfl hl (by decide) rfl (fun ls hl => ?_)
        refine m_iinc (lv' := [(3, .int (iI (i + 1))), (2, .int (iI (x + (nn i.toNat)))), (0, .ref (am 0)), (1, .int (iI w))]) (k := 1) hx hb dX5_count_21 hl rfl (by decide) rfl (fun ls hl => ?_)
        refine lv_goto (tgt := 4) hx hb dX5_count_24 (by decide) ?_
        exact ih4 (i + 1) (x + (nn i.toNat)) _ _ _ (by omega) (by omega) (by rw [hs, show (i + 1).toNat = i.toNat + 1 by omega, smN]) (by omega) hG hS (lv_sub hl [0, 1, 2, 3] rfl)
  exact loop4 _ 0 0 _ _ _ (by omega) (by omega) rfl (Nat.lt_succ_self _) hG hS (lv_sub hl [0, 1, 2, 3] rfl)

