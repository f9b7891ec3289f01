theorem sv_rg {P : Prop} [Decidable P] (S : Nat → Nat → Bool) (F : Nat → Nat → Int) (t : Nat) : rg (if P then stN S F t else -1) := by
  have := stN_rg S F t
  split
  · exact ⟨by omega, by omega⟩
  · exact ⟨by omega, by omega⟩
set_option maxHeartbeats 4000000 in
set_option maxRecDepth 100000 in
theorem c_X5_look (l : Launch) (D : va_G) (b : Nat) (M : mM) (am : Nat → Nat) (nt ng : Int) (sp nn jj sa sx sy ra : Nat → Int) (gz : Nat → Bool) (va ac : Nat → Int) (hO : MoOk M am nt ng sp nn jj sa sx sy ra gz va ac) (hgd : mGd nt sp nn sa sx sy ra) (hbox : ∀ i : Nat, (i : Int) < nt → ∀ u : Int, 0 ≤ u → u < 80 → (0 ≤ loM 1 sp nn sa sx sy ra i u ∧ 0 ≤ loM 0 sp nn sa sx sy ra i u) ∧ loM 1 sp nn sa sx sy ra i u ≤ hiM 1 sp nn sa sx sy ra i u ∧ loM 0 sp nn sa sx sy ra i u ≤ hiM 0 sp nn sa sx sy ra i u) (t v u w : Int) (hrt : rg t) (hrv : rg v) (hru : rg u) (hrw : rg w) : Met l yX5_look wsX5_look ({ frames := 3, cells := 0, slots := 0, locals := 72 } : Room) (mPc [.ref (am 0), .int (iI t), .int (iI v), .int (iI u), .int (iI w)] D b M) (mQi D b (fI (if ((0 ≤ t ∧ t < nt) ∧ (0 ≤ v ∧ v < ng) ∧ (0 ≤ u ∧ u < 80)) ∧ (0 ≤ w ∧ w ≤ 79) ∧ stN (gS gz v.toNat) (mBF sp nn sa sx sy ra t.toNat) u.toNat = 0 then lkN (gS gz v.toNat) (mBF sp nn sa sx sy ra t.toNat) w (79 - u).toNat else -1) M)) 0 0 (mF b) := by
  refine m_met (cc := cX5_look) (maxL := 6) (ret := (some .int)) (by decide) rfl (Nat.le_of_ble_eq_true rfl) ?_
  intro p e s m args below meth c Q ls hx hb hml hr hts hown hlk hnm hQ K hG hS hl
  have hown : s.vm.findClass RX5 = some m.cls := hown
  have hl : lv_has ls 6 [(0, .ref (am 0)), (1, .int (iI t)), (2, .int (iI v)), (3, .int (iI u)), (4, .int (iI w))] := hl
  obtain ⟨m0, m1, m2, m3, m4, m5, m6, m7, m8, m9, m10, minj, ⟨b1, b2, b3, b4⟩⟩ := id hO
  refine lv_iload hx hb dX5_look_0 (lv_at hl 4 rfl) ?_
  refine lv_iconst (v := iI 0) hx hb dX5_look_2 rfl ?_
  refine lv_bipush (v := iI 79) hx hb dX5_look_3 (by decide) ?_
  refine m_callfi (m_runS (As := [.int (iI w), .int (iI 0), .int (iI 79)]) (rest := []) ⟨hx, hb, hml, hown, hts⟩ (c_X5_in l D b _ w 0 79 hrw ⟨by omega, by omega⟩ ⟨by omega, by omega⟩) (va_cwS 3 hts gX5_look_X5_in rfl rfl rfl (by decide +kernel) ⟨Nat.le_of_ble_eq_true rfl, Nat.le_of_ble_eq_true rfl⟩) K hG rfl hl.1 rfl (Nat.le_of_ble_eq_true rfl) dX5_look_5 ⟨Nat.le_of_ble_eq_true rfl, Nat.le_of_ble_eq_true rfl⟩) hS (fun H locs hG hS => ?_)
  have hG : mG D b M s H := hG
  refine m_ifb_eq (tgt := 21) hx hb dX5_look_8 (by decide) (fun c8 => ?_) (fun c8 => ?_)
  · refine lv_iconst (v := iI (-1)) hx hb dX5_look_21 rfl ?_
    exact m_iret hx hb hr hlk hQ hG hS (Nat.le_of_ble_eq_true rfl) (Nat.le_of_ble_eq_true rfl) dX5_look_22 ⟨congrArg iI (by first | rw [if_neg (by omega)] | rw [if_neg (fun z => c18 (by rw [if_pos z.1]; exact z.2.2))]), rfl⟩
  · refine lv_aload_n hx hb dX5_look_11 rfl (lv_at hl 0 rfl) ?_
    refine lv_iload_n hx hb dX5_look_12 rfl (lv_at hl 1 rfl) ?_
    refine lv_iload_n hx hb dX5_look_13 rfl (lv_at hl 2 rfl) ?_
    refine lv_iload_n hx hb dX5_look_14 rfl (lv_at hl 3 rfl) ?_
    refine m_callfi (m_runV (a := am 0) (As := [.int (iI t), .int (iI v), .int (iI u)]) (rest := []) ⟨hx, hb, hml, hown, hts⟩ (c_X5_state l D b _ am nt ng sp nn jj sa sx sy ra gz va ac hO hgd hbox t v u hrt hrv hru) (cwV 3 hts gX5_look_X5_state rfl rfl rfl (by decide +kernel) ⟨Nat.le_of_ble_eq_true rfl, Nat.le_of_ble_eq_true rfl⟩) K hG m0 rfl rfl rfl hl.1 rfl (Nat.le_of_ble_eq_true rfl) dX5_look_15 ⟨Nat.le_of_ble_eq_true rfl, Nat.le_of_ble_eq_true rfl⟩) hS (fun H locs hG hS => ?_)
    have hG : mG D b M s H := hG
    refine m_if_eq (tgt := 23) hx hb dX5_look_18 (by decide) (sv_rg _ _ _) (fun c18 => ?_) (fun c18 => ?_)
    · have hval : (0 ≤ t ∧ t < nt) ∧ (0 ≤ v ∧ v < ng) ∧ (0 ≤ u ∧ u < 80) := (by rcases Classical.em ((0 ≤ t ∧ t < nt) ∧ (0 ≤ v ∧ v < ng) ∧ (0 ≤ u ∧ u < 80)) with q | q; exact q; rw [if_neg q] at c18; exact absurd c18 (by decide))
      have hst0 := c18
      rw [if_pos hval] at hst0
      refine lv_iload_n hx hb dX5_look_23 rfl (lv_at hl 3 rfl) ?_
      refine lv_iconst (v := iI 1) hx hb dX5_look_24 rfl ?_
      refine m_iadd hx hb dX5_look_25 ?_
      refine lv_istore (lv' := [(5, .int (iI (u + 1))), (0, .ref (am 0)), (1, .int (iI t)), (2, .int (iI v)), (3, .int (iI u)), (4, .int (iI w))]) hx hb dX5_look_26 hl (by decide) rfl (fun ls hl => ?_)
      have loop28 : ∀ (fuel : Nat) (i : Int) (H : Heap) (locs : List Loc) (ls : Array Slot), (u + 1 ≤ i) → (i ≤ 80) → (lkN (gS gz v.toNat) (mBF sp nn sa sx sy ra t.toNat) w (79 - u).toNat = lkN (gS gz v.toNat) (mBF sp nn sa sx sy ra t.toNat) w (80 - i).toNat) → (80 - i).toNat < fuel → mG D b M s H → va_S (mF b) s.heap H locs → lv_has ls 6 [(5, .int (iI i)), (0, .ref (am 0)), (1, .int (iI t)), (2, .int (iI v)), (3, .int (iI u)), (4, .int (iI w))] → W p l e ({ frames := 3, cells := 0, slots := 0, locals := 72 } : Room) s m args below meth c H locs 0 0 Q (F0 m 28 ls []) := by
        intro fuel
        induction fuel with
        | zero => intro i H locs ls hi0 hi1 hL hm; exact absurd hm (Nat.not_lt_zero _)
        | succ fuel ih28 =>
          intro i H locs ls hi0 hi1 hL hm hG hS hl
          refine lv_iload hx hb dX5_look_28 (lv_at hl 0 rfl) ?_
          refine lv_bipush (v := iI 80) hx hb dX5_look_30 (by decide) ?_
          refine m_icmp_ge (tgt := 73) hx hb dX5_look_32 (by decide) ⟨by omega, by omega⟩ ⟨by omega, by omega⟩ (fun c32 => ?_) (fun c32 => ?_)
          · refine lv_bipush (v := iI 79) hx hb dX5_look_73 (by decide) ?_
            exact m_iret hx hb hr hlk hQ hG hS (Nat.le_of_ble_eq_true rfl) (Nat.le_of_ble_eq_true rfl) dX5_look_75 ⟨congrArg iI (by rw [if_pos ⟨hval, by omega, hst0⟩, hL, show (80 - i).toNat = 0 by omega]; rfl), rfl⟩
          · refine lv_aload_n hx hb dX5_look_35 rfl (lv_at hl 1 rfl) ?_
            refine lv_iload_n hx hb dX5_look_36 rfl (lv_at hl 2 rfl) ?_
            refine lv_iload_n hx hb dX5_look_37 rfl (lv_at hl 3 rfl) ?_
            refine lv_iload hx hb dX5_look_38 (lv_at hl 0 rfl) ?_
            refine m_callfi (m_runV (a := am 0) (As := [.int (iI t), .int (iI v), .int (iI i)]) (rest := []) ⟨hx, hb, hml, hown, hts⟩ (c_X5_state l D b _ am nt ng sp nn jj sa sx sy ra gz va ac hO hgd hbox t v i hrt hrv ⟨by omega, by omega⟩) (cwV 3 hts gX5_look_X5_state rfl rfl rfl (by decide +kernel) ⟨Nat.le_of_ble_eq_true rfl, Nat.le_of_ble_eq_true rfl⟩) K hG m0 rfl rfl rfl hl.1 rfl (Nat.le_of_ble_eq_true rfl) dX5_look_40 ⟨Nat.le_of_ble_eq_true rfl, Nat.le_of_ble_eq_true rfl⟩) hS (fun H locs hG hS => ?_)
            have hG : mG D b M s H := hG
            refine m_top (if_pos (by omega)) ?_
            refine m_if_eq (tgt := 67) hx hb dX5_look_43 (by decide) ⟨by have := stN_rg (gS gz v.toNat) (mBF sp nn sa sx sy ra t.toNat) i.toNat; omega, by have := stN_rg (gS gz v.toNat) (mBF sp nn sa sx sy ra t.toNat) i.toNat; omega⟩ (fun c43 => ?_) (fun c43 => ?_)
            · refine m_iinc (lv' := [(5, .int (iI (i + 1))), (0, .ref (am 0)), (1, .int (iI t)), (2, .int (iI v)), (3, .int (iI u)), (4, .int (iI w))]) (k := 0) hx hb dX5_look_67 hl rfl (by decide) rfl (fun ls hl => ?_)
              refine lv_goto (tgt := 28) hx hb dX5_look_70 (by decide) ?_
              exact ih28 (i + 1) _ _ _ (by omega) (by omega) (by rw [hL, show (80 - i).toNat = (80 - (i + 1)).toNat + 1 by omega, lkN, if_neg (by rw [show 79 - (80 - (i + 1)).toNat = i.toNat by omega]; exact fun z => z c43)]) (by omega) hG hS (lv_sub hl [0, 1, 2, 3, 4, 5] rfl)
            · refine lv_iload hx hb dX5_look_46 (lv_at hl 0 rfl) ?_
              refine lv_iload hx hb dX5_look_48 (lv_at hl 5 rfl) ?_
              refine m_iadd hx hb dX5_look_50 ?_
              refine lv_bipush (v := iI 80) hx hb dX5_look_51 (by decide) ?_
              refine m_icmp_ge (tgt := 64) hx hb dX5_look_53 (by decide) ⟨by omega, by omega⟩ ⟨by omega, by omega⟩ (fun c53 => ?_) (fun c53 => ?_)
              · refine lv_bipush (v := iI 79) hx hb dX5_look_64 (by decide) ?_
                exact m_iret hx hb hr hlk hQ hG hS (Nat.le_of_ble_eq_true rfl) (Nat.le_of_ble_eq_true rfl) dX5_look_66 ⟨congrArg iI (by rw [if_pos ⟨hval, by omega, hst0⟩, hL, show (80 - i).toNat = (79 - i).toNat + 1 by omega, lkN, show 79 - (79 - i).toNat = i.toNat by omega, if_pos c43]; omega), rfl⟩
              · refine lv_iload hx hb dX5_look_56 (lv_at hl 0 rfl) ?_
                refine lv_iload hx hb dX5_look_58 (lv_at hl 5 rfl) ?_
                refine m_iadd hx hb dX5_look_60 ?_
                refine lv_goto (tgt := 66) hx hb dX5_look_61 (by decide) ?_
                exact m_iret hx hb hr hlk hQ hG hS (Nat.le_of_ble_eq_true rfl) (Nat.le_of_ble_eq_true rfl) dX5_look_66 ⟨congrArg iI (by rw [if_pos ⟨hval, by omega, hst0⟩, hL, show (80 - i).toNat = (79 - i).toNat + 1 by omega, lkN, show 79 - (79 - i).toNat = i.toNat by omega, if_pos c43]; omega), rfl⟩
      exact loop28 _ (u + 1) _ _ _ (by omega) (by omega) (by rw [show (80 - (u + 1)).toNat = (79 - u).toNat by omega]) (Nat.lt_succ_self _) hG hS (lv_sub hl [0, 1, 2, 3, 4, 5] rfl)
    · refine lv_iconst (v := iI (-1)) hx hb dX5_look_21 rfl ?_
      exact m_iret hx hb hr hlk hQ hG hS (Nat.le_of_ble_eq_true rfl) (Nat.le_of_ble_eq_true rfl) dX5_look_22 ⟨congrArg iI (by first | rw [if_neg (by omega)] | rw [if_neg (fun z => c18 (by rw [if_pos z.1]; exact z.2.2))]), rfl⟩

