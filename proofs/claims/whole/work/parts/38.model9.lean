/-- one tick's rule on the reference's values -/
def kpF (va : Nat → Int) (S : Nat → Nat → Bool) (F : Nat → Nat → Int) (u : Nat) (o kc : Int) : Nat → Int := fun k => if (F u 0 ≤ ((k / 64 : Nat) : Int) ∧ ((k / 64 : Nat) : Int) ≤ F u 1) ∧ (F u 2 ≤ ((k % 64 : Nat) : Int) ∧ ((k % 64 : Nat) : Int) ≤ F u 3) then (if S (k / 64) (k % 64) = true then (if kc = 0 then o else va k + 1) else va k) else o

set_option maxHeartbeats 4000000 in
set_option maxRecDepth 100000 in
theorem c_X5_keeps (l : Launch) (D : va_G) (b : Nat) (M : mM) (am : Nat → Nat) (nt ng : Int) (sp nn jj sa sx sy ra : Nat → Int) (gz : Nat → Bool) (va ac : Nat → Int) (hO : MoOk M am nt ng sp nn jj sa sx sy ra gz va ac) (hgd : mGd nt sp nn sa sx sy ra) (t v u o kc : Int) (ht0 : 0 ≤ t) (ht1 : t < nt) (hv0 : 0 ≤ v) (hv1 : v < ng) (hu0 : 0 ≤ u) (hu1 : u < 80) (hk : kc = 0 ∨ kc = 1) : Met l yX5_keeps wsX5_keeps ({ frames := 1, cells := 0, slots := 0, locals := 27 } : Room) (mPc [.ref (am 0), .int (iI t), .int (iI v), .int (iI u), .int (iI o), .int (iI kc)] D b M) (mQv D b (fV (mset M (am 9) (aI 4096 (fun k => if (k : Int) < 4096 then kpF va (gS gz v.toNat) (mBF sp nn sa sx sy ra t.toNat) u.toNat o kc k else va k))))) 0 0 (mF b) := by
  refine m_met (cc := cX5_keeps) (maxL := 12) (ret := none) (by decide) rfl (Nat.le_of_ble_eq_true rfl) ?_
  intro p e s m args below meth c Q ls hx hb hml hr hts hown hlk hnm hQ K hG hS hl
  have hown : s.vm.findClass RX5 = some m.cls := hown
  have hl : lv_has ls 12 [(0, .ref (am 0)), (1, .int (iI t)), (2, .int (iI v)), (3, .int (iI u)), (4, .int (iI o)), (5, .int (iI kc))] := hl
  obtain ⟨m0, m1, m2, m3, m4, m5, m6, m7, m8, m9, m10, minj, ⟨b1, b2, b3, b4⟩⟩ := id hO
  refine lv_aload_n hx hb dX5_keeps_0 rfl (lv_at hl 0 rfl) ?_
  refine lv_iload_n hx hb dX5_keeps_1 rfl (lv_at hl 1 rfl) ?_
  refine lv_iload_n hx hb dX5_keeps_2 rfl (lv_at hl 3 rfl) ?_
  refine lv_iconst (v := iI 1) hx hb dX5_keeps_3 rfl ?_
  refine m_callfi (m_runV (a := am 0) (As := [.int (iI t), .int (iI u), .int (iI 1)]) (rest := []) ⟨hx, hb, hml, hown, hts⟩ (c_X5_low l D b _ am nt ng sp nn jj sa sx sy ra gz va ac hO t u 1 (by omega) (by omega) (by omega) (by omega) (by omega) (hgd t.toNat (by omega)).1.1 (hgd t.toNat (by omega)).1.2 (hgd t.toNat (by omega)).2.1.1 (hgd t.toNat (by omega)).2.1.2 (hgd t.toNat (by omega)).2.2) (cwV 3 hts gX5_keeps_X5_low rfl rfl rfl (by decide +kernel) ⟨Nat.le_of_ble_eq_true rfl, Nat.le_of_ble_eq_true rfl⟩) K hG m0 rfl rfl rfl hl.1 rfl (Nat.le_of_ble_eq_true rfl) dX5_keeps_4 ⟨Nat.le_of_ble_eq_true rfl, Nat.le_of_ble_eq_true rfl⟩) hS (fun H locs hG hS => ?_)
  have hG : mG D b M s H := hG
  refine lv_istore (lv' := [(6, .int (iI (loM 1 sp nn sa sx sy ra t.toNat u))), (0, .ref (am 0)), (1, .int (iI t)), (2, .int (iI v)), (3, .int (iI u)), (4, .int (iI o)), (5, .int (iI kc))]) hx hb dX5_keeps_7 hl (by decide) rfl (fun ls hl => ?_)
  refine lv_aload_n hx hb dX5_keeps_9 rfl (lv_at hl 1 rfl) ?_
  refine lv_iload_n hx hb dX5_keeps_10 rfl (lv_at hl 2 rfl) ?_
  refine lv_iload_n hx hb dX5_keeps_11 rfl (lv_at hl 4 rfl) ?_
  refine lv_iconst (v := iI 1) hx hb dX5_keeps_12 rfl ?_
  refine m_callfi (m_runV (a := am 0) (As := [.int (iI t), .int (iI u), .int (iI 1)]) (rest := []) ⟨hx, hb, hml, hown, hts⟩ (c_X5_high l D b _ am nt ng sp nn jj sa sx sy ra gz va ac hO t u 1 (by omega) (by omega) (by omega) (by omega) (by omega) (hgd t.toNat (by omega)).1.1 (hgd t.toNat (by omega)).1.2 (hgd t.toNat (by omega)).2.1.1 (hgd t.toNat (by omega)).2.1.2 (hgd t.toNat (by omega)).2.2) (cwV 3 hts gX5_keeps_X5_high rfl rfl rfl (by decide +kernel) ⟨Nat.le_of_ble_eq_true rfl, Nat.le_of_ble_eq_true rfl⟩) K hG m0 rfl rfl rfl hl.1 rfl (Nat.le_of_ble_eq_true rfl) dX5_keeps_13 ⟨Nat.le_of_ble_eq_true rfl, Nat.le_of_ble_eq_true rfl⟩) hS (fun H locs hG hS => ?_)
  have hG : mG D b M s H := hG
  refine lv_istore (lv' := [(7, .int (iI (hiM 1 sp nn sa sx sy ra t.toNat u))), (6, .int (iI (loM 1 sp nn sa sx sy ra t.toNat u))), (0, .ref (am 0)), (1, .int (iI t)), (2, .int (iI v)), (3, .int (iI u)), (4, .int (iI o)), (5, .int (iI kc))]) hx hb dX5_keeps_16 hl (by decide) rfl (fun ls hl => ?_)
  refine lv_aload_n hx hb dX5_keeps_18 rfl (lv_at hl 2 rfl) ?_
  refine lv_iload_n hx hb dX5_keeps_19 rfl (lv_at hl 3 rfl) ?_
  refine lv_iload_n hx hb dX5_keeps_20 rfl (lv_at hl 5 rfl) ?_
  refine lv_iconst (v := iI 0) hx hb dX5_keeps_21 rfl ?_
  refine m_callfi (m_runV (a := am 0) (As := [.int (iI t), .int (iI u), .int (iI 0)]) (rest := []) ⟨hx, hb, hml, hown, hts⟩ (c_X5_low l D b _ am nt ng sp nn jj sa sx sy ra gz va ac hO t u 0 (by omega) (by omega) (by omega) (by omega) (by omega) (hgd t.toNat (by omega)).1.1 (hgd t.toNat (by omega)).1.2 (hgd t.toNat (by omega)).2.1.1 (hgd t.toNat (by omega)).2.1.2 (hgd t.toNat (by omega)).2.2) (cwV 3 hts gX5_keeps_X5_low rfl rfl rfl (by decide +kernel) ⟨Nat.le_of_ble_eq_true rfl, Nat.le_of_ble_eq_true rfl⟩) K hG m0 rfl rfl rfl hl.1 rfl (Nat.le_of_ble_eq_true rfl) dX5_keeps_22 ⟨Nat.le_of_ble_eq_true rfl, Nat.le_of_ble_eq_true rfl⟩) hS (fun H locs hG hS => ?_)
  have hG : mG D b M s H := hG
  refine lv_istore (lv' := [(8, .int (iI (loM 0 sp nn sa sx sy ra t.toNat u))), (7, .int (iI (hiM 1 sp nn sa sx sy ra t.toNat u))), (6, .int (iI (loM 1 sp nn sa sx sy ra t.toNat u))), (0, .ref (am 0)), (1, .int (iI t)), (2, .int (iI v)), (3, .int (iI u)), (4, .int (iI o)), (5, .int (iI kc))]) hx hb dX5_keeps_25 hl (by decide) rfl (fun ls hl => ?_)
  refine lv_aload_n hx hb dX5_keeps_27 rfl (lv_at hl 3 rfl) ?_
  refine lv_iload_n hx hb dX5_keeps_28 rfl (lv_at hl 4 rfl) ?_
  refine lv_iload_n hx hb dX5_keeps_29 rfl (lv_at hl 6 rfl) ?_
  refine lv_iconst (v := iI 0) hx hb dX5_keeps_30 rfl ?_
  refine m_callfi (m_runV (a := am 0) (As := [.int (iI t), .int (iI u), .int (iI 0)]) (rest := []) ⟨hx, hb, hml, hown, hts⟩ (c_X5_high l D b _ am nt ng sp nn jj sa sx sy ra gz va ac hO t u 0 (by omega) (by omega) (by omega) (by omega) (by omega) (hgd t.toNat (by omega)).1.1 (hgd t.toNat (by omega)).1.2 (hgd t.toNat (by omega)).2.1.1 (hgd t.toNat (by omega)).2.1.2 (hgd t.toNat (by omega)).2.2) (cwV 3 hts gX5_keeps_X5_high rfl rfl rfl (by decide +kernel) ⟨Nat.le_of_ble_eq_true rfl, Nat.le_of_ble_eq_true rfl⟩) K hG m0 rfl rfl rfl hl.1 rfl (Nat.le_of_ble_eq_true rfl) dX5_keeps_31 ⟨Nat.le_of_ble_eq_true rfl, Nat.le_of_ble_eq_true rfl⟩) hS (fun H locs hG hS => ?_)
  have hG : mG D b M s H := hG
  refine lv_istore (lv' := [(9, .int (iI (hiM 0 sp nn sa sx sy ra t.toNat u))), (8, .int (iI (loM 0 sp nn sa sx sy ra t.toNat u))), (7, .int (iI (hiM 1 sp nn sa sx sy ra t.toNat u))), (6, .int (iI (loM 1 sp nn sa sx sy ra t.toNat u))), (0, .ref (am 0)), (1, .int (iI t)), (2, .int (iI v)), (3, .int (iI u)), (4, .int (iI o)), (5, .int (iI kc))]) hx hb dX5_keeps_34 hl (by decide) rfl (fun ls hl => ?_)
  refine lv_iconst (v := iI 0) hx hb dX5_keeps_36 rfl ?_
  refine lv_istore (lv' := [(10, .int (iI 0)), (9, .int (iI (hiM 0 sp nn sa sx sy ra t.toNat u))), (8, .int (iI (loM 0 sp nn sa sx sy ra t.toNat u))), (7, .int (iI (hiM 1 sp nn sa sx sy ra t.toNat u))), (6, .int (iI (loM 1 sp nn sa sx sy ra t.toNat u))), (0, .ref (am 0)), (1, .int (iI t)), (2, .int (iI v)), (3, .int (iI u)), (4, .int (iI o)), (5, .int (iI kc))]) hx hb dX5_keeps_37 hl (by decide) rfl (fun ls hl => ?_)
  have loop39 : ∀ (fuel : Nat) (i : Int) (T : Nat → Int) (H : Heap) (locs : List Loc) (ls : Array Slot), (0 ≤ i) → (i ≤ 4096) → (∀ k : Nat, T k = if (k : Int) < i then kpF va (gS gz v.toNat) (mBF sp nn sa sx sy ra t.toNat) u.toNat o kc k else va k) → (4096 - i).toNat < fuel → mG D b (mset M (am 9) (aI 4096 T)) s H → va_S (mF b) s.heap H locs → lv_has ls 12 [(10, .int (iI i)), (9, .int (iI (hiM 0 sp nn sa sx sy ra t.toNat u))), (8, .int (iI (loM 0 sp nn sa sx sy ra t.toNat u))), (7, .int (iI (hiM 1 sp nn sa sx sy ra t.toNat u))), (6, .int (iI (loM 1 sp nn sa sx sy ra t.toNat u))), (0, .ref (am 0)), (1, .int (iI t)), (2, .int (iI v)), (3, .int (iI u)), (4, .int (iI o)), (5, .int (iI kc))] → W p l e ({ frames := 1, cells := 0, slots := 0, locals := 27 } : Room) s m args below meth c H locs 0 0 Q (F0 m 39 ls []) := by
    intro fuel
    induction fuel with
    | zero => intro i T H locs ls hi0 hi1 hT hm; exact absurd hm (Nat.not_lt_zero _)
    | succ fuel ih39 =>
      intro i T H locs ls hi0 hi1 hT hm hG hS hl
      refine lv_iload hx hb dX5_keeps_39 (lv_at hl 0 rfl) ?_
      refine lv_sipush (v := iI 4096) hx hb dX5_keeps_41 (by decide) ?_
      refine m_icmp_ge (tgt := 148) hx hb dX5_keeps_44 (by decide) ⟨by omega, by omega⟩ ⟨by omega, by omega⟩ (fun c44 => ?_) (fun c44 => ?_)
      · exact m_vret hx hb hr hlk hQ hG hS (Nat.le_of_ble_eq_true rfl) (Nat.le_of_ble_eq_true rfl) dX5_keeps_148 (by show mset M (am 9) (aI 4096 T) = _; rw [show T = _ from funext hT]; refine congrArg (fun q => mset M (am 9) (aI 4096 q)) (funext fun k => ?_); by_cases g : (k : Int) < 4096; rw [if_pos g, if_pos (by omega)]; rw [if_neg g, if_neg (by omega)])
      · have hgs : gS gz v.toNat (i.toNat / 64) (i.toNat % 64) = gz (4096 * v + i).toNat := congrArg gz (by omega)
        have hu9 : ((u.toNat : Nat) : Int) = u := by omega
        have m0e : mBF sp nn sa sx sy ra t.toNat u.toNat 0 = loM 1 sp nn sa sx sy ra t.toNat u := by unfold mBF; rw [if_pos rfl, hu9]
        have m1e : mBF sp nn sa sx sy ra t.toNat u.toNat 1 = hiM 1 sp nn sa sx sy ra t.toNat u := by unfold mBF; rw [if_neg (by omega), if_pos rfl, hu9]
        have m2e : mBF sp nn sa sx sy ra t.toNat u.toNat 2 = loM 0 sp nn sa sx sy ra t.toNat u := by unfold mBF; rw [if_neg (by omega), if_neg (by omega), if_pos rfl, hu9]
        have m3e : mBF sp nn sa sx sy ra t.toNat u.toNat 3 = hiM 0 sp nn sa sx sy ra t.toNat u := by unfold mBF; rw [if_neg (by omega), if_neg (by omega), if_neg (by omega), hu9]
        refine lv_aload_n hx hb dX5_keeps_47 rfl (lv_at hl 5 rfl) ?_
        refine m_get (ci := 5) (v := .ref (am 8)) (C := RX5) (T := TX5) (N := 12) hx hb hts (by decide +kernel) hown K hG ((mset_ne (am_ne minj (i := 0) (j := 9) (by decide) (by decide) (by decide))).trans m0) rfl 9 (by decide) (by decide +kernel) rfl dX5_keeps_48 ?_
        refine lv_sipush (v := iI 4096) hx hb dX5_keeps_51 (by decide) ?_
        refine lv_iload_n hx hb dX5_keeps_54 rfl (lv_at hl 7 rfl) ?_
        refine m_imul hx hb dX5_keeps_55 ?_
        refine lv_iload hx hb dX5_keeps_56 (lv_at hl 0 rfl) ?_
        refine m_iadd hx hb dX5_keeps_58 ?_
        refine m_zald hx hb hG ((mset_ne (am_ne minj (i := 8) (j := 9) (by decide) (by decide) (by decide))).trans m8) (((4096 * v) + i).toNat) (by omega) (by omega) (by decide) dX5_keeps_59 ?_
        refine lv_istore (lv' := [(11, .int (iI (if gz (((4096 * v) + i).toNat) = true then 1 else 0))), (10, .int (iI i)), (9, .int (iI (hiM 0 sp nn sa sx sy ra t.toNat u))), (8, .int (iI (loM 0 sp nn sa sx sy ra t.toNat u))), (7, .int (iI (hiM 1 sp nn sa sx sy ra t.toNat u))), (6, .int (iI (loM 1 sp nn sa sx sy ra t.toNat u))), (0, .ref (am 0)), (1, .int (iI t)), (2, .int (iI v)), (3, .int (iI u)), (4, .int (iI o)), (5, .int (iI kc))]) hx hb dX5_keeps_60 hl (by decide) rfl (fun ls hl => ?_)
        refine lv_iload hx hb dX5_keeps_62 (lv_at hl 1 rfl) ?_
        refine lv_bipush (v := iI 64) hx hb dX5_keeps_64 (by decide) ?_
        refine m_idiv hx hb dX5_keeps_66 (by omega) (by omega) ?_
        refine lv_iload hx hb dX5_keeps_67 (lv_at hl 5 rfl) ?_
        refine lv_iload hx hb dX5_keeps_69 (lv_at hl 4 rfl) ?_
        refine m_callfi (m_runS (As := [.int (iI (i / 64)), .int (iI (loM 1 sp nn sa sx sy ra t.toNat u)), .int (iI (hiM 1 sp nn sa sx sy ra t.toNat u))]) (rest := []) ⟨hx, hb, hml, hown, hts⟩ (c_X5_in l D b _ (i / 64) (loM 1 sp nn sa sx sy ra t.toNat u) (hiM 1 sp nn sa sx sy ra t.toNat u) ⟨by omega, by omega⟩ ⟨by have := loM_rg hgd (i := t.toNat) (by omega) (bb := 1) (by omega) u; omega, by have := loM_rg hgd (i := t.toNat) (by omega) (bb := 1) (by omega) u; omega⟩ ⟨by have := hiM_rg hgd (i := t.toNat) (by omega) (bb := 1) (by omega) u; omega, by have := hiM_rg hgd (i := t.toNat) (by omega) (bb := 1) (by omega) u; omega⟩) (va_cwS 3 hts gX5_keeps_X5_in rfl rfl rfl (by decide +kernel) ⟨Nat.le_of_ble_eq_true rfl, Nat.le_of_ble_eq_true rfl⟩) K hG rfl hl.1 rfl (Nat.le_of_ble_eq_true rfl) dX5_keeps_71 ⟨Nat.le_of_ble_eq_true rfl, Nat.le_of_ble_eq_true rfl⟩) hS (fun H locs hG hS => ?_)
        have hG : mG D b (mset M (am 9) (aI 4096 T)) s H := hG
        refine m_ifb_eq (tgt := 92) hx hb dX5_keeps_74 (by decide) (fun c74 => ?_) (fun c74 => ?_)
        · refine lv_aload_n hx hb dX5_keeps_92 rfl (lv_at hl 6 rfl) ?_
          refine m_get (ci := 5) (v := .ref (am 9)) (C := RX5) (T := TX5) (N := 12) hx hb hts (by decide +kernel) hown K hG ((mset_ne (am_ne minj (i := 0) (j := 9) (by decide) (by decide) (by decide))).trans m0) rfl 10 (by decide) (by decide +kernel) rfl dX5_keeps_93 ?_
          refine lv_iload hx hb dX5_keeps_96 (lv_at hl 1 rfl) ?_
          refine lv_iload hx hb dX5_keeps_98 (lv_at hl 10 rfl) ?_
          refine m_iast hx hb hG hS mset_self i.toNat (by omega) (by omega) (by decide) dX5_keeps_100 (fun H locs hG hS => ?_)
          rw [mset_mset] at hG
          have hG : mG D b (mset M (am 9) (aI 4096 (va_up T i.toNat o))) s H := hG
          refine lv_goto (tgt := 142) hx hb dX5_keeps_101 (by decide) ?_
          refine m_iinc (lv' := [(10, .int (iI (i + 1))), (11, .int (iI (if gz (((4096 * v) + i).toNat) = true then 1 else 0))), (9, .int (iI (hiM 0 sp nn sa sx sy ra t.toNat u))), (8, .int (iI (loM 0 sp nn sa sx sy ra t.toNat u))), (7, .int (iI (hiM 1 sp nn sa sx sy ra t.toNat u))), (6, .int (iI (loM 1 sp nn sa sx sy ra t.toNat u))), (0, .ref (am 0)), (1, .int (iI t)), (2, .int (iI v)), (3, .int (iI u)), (4, .int (iI o)), (5, .int (iI kc))]) (k := 1) hx hb dX5_keeps_142 hl rfl (by decide) rfl (fun ls hl => ?_)
          refine lv_goto (tgt := 39) hx hb dX5_keeps_145 (by decide) ?_
          exact ih39 (i + 1) (va_up T i.toNat o) _ _ _ (by omega) (by omega) (fun k => by by_cases e : k = i.toNat; rw [e, va_up_self, if_pos (by omega)]; unfold kpF; rw [m0e, m1e, m2e, m3e]; rw [if_neg (by omega)]; rw [va_up_ne _ _ e, hT]; by_cases g2 : (k : Int) < i; rw [if_pos g2, if_pos (by omega)]; rw [if_neg g2, if_neg (by omega)]) (by omega) hG hS (lv_sub hl [0, 2, 3, 4, 5, 6, 7, 8, 9, 10, 11] rfl)
        · refine lv_iload hx hb dX5_keeps_77 (lv_at hl 1 rfl) ?_
          refine lv_bipush (v := iI 64) hx hb dX5_keeps_79 (by decide) ?_
          refine m_irem hx hb dX5_keeps_81 (by omega) (by omega) ?_
          refine lv_iload hx hb dX5_keeps_82 (lv_at hl 3 rfl) ?_
          refine lv_iload hx hb dX5_keeps_84 (lv_at hl 2 rfl) ?_
          refine m_callfi (m_runS (As := [.int (iI (i % 64)), .int (iI (loM 0 sp nn sa sx sy ra t.toNat u)), .int (iI (hiM 0 sp nn sa sx sy ra t.toNat u))]) (rest := []) ⟨hx, hb, hml, hown, hts⟩ (c_X5_in l D b _ (i % 64) (loM 0 sp nn sa sx sy ra t.toNat u) (hiM 0 sp nn sa sx sy ra t.toNat u) ⟨by omega, by omega⟩ ⟨by have := loM_rg hgd (i := t.toNat) (by omega) (bb := 0) (by omega) u; omega, by have := loM_rg hgd (i := t.toNat) (by omega) (bb := 0) (by omega) u; omega⟩ ⟨by have := hiM_rg hgd (i := t.toNat) (by omega) (bb := 0) (by omega) u; omega, by have := hiM_rg hgd (i := t.toNat) (by omega) (bb := 0) (by omega) u; omega⟩) (va_cwS 3 hts gX5_keeps_X5_in rfl rfl rfl (by decide +kernel) ⟨Nat.le_of_ble_eq_true rfl, Nat.le_of_ble_eq_true rfl⟩) K hG rfl hl.1 rfl (Nat.le_of_ble_eq_true rfl) dX5_keeps_86 ⟨Nat.le_of_ble_eq_true rfl, Nat.le_of_ble_eq_true rfl⟩) hS (fun H locs hG hS => ?_)
          have hG : mG D b (mset M (am 9) (aI 4096 T)) s H := hG
          refine m_ifb_ne (tgt := 104) hx hb dX5_keeps_89 (by decide) (fun c89 => ?_) (fun c89 => ?_)
          · refine lv_iload hx hb dX5_keeps_104 (lv_at hl 0 rfl) ?_
            refine m_ifb_eq (tgt := 128) hx hb dX5_keeps_106 (by decide) (fun c106 => ?_) (fun c106 => ?_)
            · refine lv_iload hx hb dX5_keeps_128 (lv_at hl 0 rfl) ?_
              refine m_ifb_eq (tgt := 142) hx hb dX5_keeps_130 (by decide) (fun c130 => ?_) (fun c130 => ?_)
              · refine m_iinc (lv' := [(10, .int (iI (i + 1))), (11, .int (iI (if gz (((4096 * v) + i).toNat) = true then 1 else 0))), (9, .int (iI (hiM 0 sp nn sa sx sy ra t.toNat u))), (8, .int (iI (loM 0 sp nn sa sx sy ra t.toNat u))), (7, .int (iI (hiM 1 sp nn sa sx sy ra t.toNat u))), (6, .int (iI (loM 1 sp nn sa sx sy ra t.toNat u))), (0, .ref (am 0)), (1, .int (iI t)), (2, .int (iI v)), (3, .int (iI u)), (4, .int (iI o)), (5, .int (iI kc))]) (k := 1) hx hb dX5_keeps_142 hl rfl (by decide) rfl (fun ls hl => ?_)
                refine lv_goto (tgt := 39) hx hb dX5_keeps_145 (by decide) ?_
                exact ih39 (i + 1) T _ _ _ (by omega) (by omega) (fun k => by rw [hT]; by_cases e : k = i.toNat; rw [e, if_neg (by omega), if_pos (by omega)]; unfold kpF; rw [m0e, m1e, m2e, m3e]; (first | exact absurd c106 c130 | rw [if_pos (by omega), hgs, if_neg c130]); by_cases g2 : (k : Int) < i; rw [if_pos g2, if_pos (by omega)]; rw [if_neg g2, if_neg (by omega)]) (by omega) hG hS (lv_sub hl [0, 2, 3, 4, 5, 6, 7, 8, 9, 10, 11] rfl)
              · refine lv_aload_n hx hb dX5_keeps_133 rfl (lv_at hl 6 rfl) ?_
                refine m_get (ci := 5) (v := .ref (am 9)) (C := RX5) (T := TX5) (N := 12) hx hb hts (by decide +kernel) hown K hG ((mset_ne (am_ne minj (i := 0) (j := 9) (by decide) (by decide) (by decide))).trans m0) rfl 10 (by decide) (by decide +kernel) rfl dX5_keeps_134 ?_
                refine lv_iload hx hb dX5_keeps_137 (lv_at hl 1 rfl) ?_
                refine lv_iload hx hb dX5_keeps_139 (lv_at hl 10 rfl) ?_
                refine m_iast hx hb hG hS mset_self i.toNat (by omega) (by omega) (by decide) dX5_keeps_141 (fun H locs hG hS => ?_)
                rw [mset_mset] at hG
                have hG : mG D b (mset M (am 9) (aI 4096 (va_up T i.toNat o))) s H := hG
                refine m_iinc (lv' := [(10, .int (iI (i + 1))), (11, .int (iI (if gz (((4096 * v) + i).toNat) = true then 1 else 0))), (9, .int (iI (hiM 0 sp nn sa sx sy ra t.toNat u))), (8, .int (iI (loM 0 sp nn sa sx sy ra t.toNat u))), (7, .int (iI (hiM 1 sp nn sa sx sy ra t.toNat u))), (6, .int (iI (loM 1 sp nn sa sx sy ra t.toNat u))), (0, .ref (am 0)), (1, .int (iI t)), (2, .int (iI v)), (3, .int (iI u)), (4, .int (iI o)), (5, .int (iI kc))]) (k := 1) hx hb dX5_keeps_142 hl rfl (by decide) rfl (fun ls hl => ?_)
                refine lv_goto (tgt := 39) hx hb dX5_keeps_145 (by decide) ?_
                exact ih39 (i + 1) (va_up T i.toNat o) _ _ _ (by omega) (by omega) (fun k => by by_cases e : k = i.toNat; rw [e, va_up_self, if_pos (by omega)]; unfold kpF; rw [m0e, m1e, m2e, m3e]; (first | exact absurd c130 c106 | rw [if_pos (by omega), hgs, if_pos c130, if_pos (by omega)]); rw [va_up_ne _ _ e, hT]; by_cases g2 : (k : Int) < i; rw [if_pos g2, if_pos (by omega)]; rw [if_neg g2, if_neg (by omega)]) (by omega) hG hS (lv_sub hl [0, 2, 3, 4, 5, 6, 7, 8, 9, 10, 11] rfl)
            · refine lv_iload hx hb dX5_keeps_109 (lv_at hl 11 rfl) ?_
              refine m_if_eq (tgt := 128) hx hb dX5_keeps_111 (by decide) ⟨by omega, by omega⟩ (fun c111 => ?_) (fun c111 => ?_)
              · refine lv_iload hx hb dX5_keeps_128 (lv_at hl 0 rfl) ?_
                refine m_ifb_eq (tgt := 142) hx hb dX5_keeps_130 (by decide) (fun c130 => ?_) (fun c130 => ?_)
                · refine m_iinc (lv' := [(10, .int (iI (i + 1))), (11, .int (iI (if gz (((4096 * v) + i).toNat) = true then 1 else 0))), (9, .int (iI (hiM 0 sp nn sa sx sy ra t.toNat u))), (8, .int (iI (loM 0 sp nn sa sx sy ra t.toNat u))), (7, .int (iI (hiM 1 sp nn sa sx sy ra t.toNat u))), (6, .int (iI (loM 1 sp nn sa sx sy ra t.toNat u))), (0, .ref (am 0)), (1, .int (iI t)), (2, .int (iI v)), (3, .int (iI u)), (4, .int (iI o)), (5, .int (iI kc))]) (k := 1) hx hb dX5_keeps_142 hl rfl (by decide) rfl (fun ls hl => ?_)
                  refine lv_goto (tgt := 39) hx hb dX5_keeps_145 (by decide) ?_
                  exact ih39 (i + 1) T _ _ _ (by omega) (by omega) (fun k => by rw [hT]; by_cases e : k = i.toNat; rw [e, if_neg (by omega), if_pos (by omega)]; unfold kpF; rw [m0e, m1e, m2e, m3e]; (first | exact absurd c106 c130 | rw [if_pos (by omega), hgs, if_neg c130]); by_cases g2 : (k : Int) < i; rw [if_pos g2, if_pos (by omega)]; rw [if_neg g2, if_neg (by omega)]) (by omega) hG hS (lv_sub hl [0, 2, 3, 4, 5, 6, 7, 8, 9, 10, 11] rfl)
                · refine lv_aload_n hx hb dX5_keeps_133 rfl (lv_at hl 6 rfl) ?_
                  refine m_get (ci := 5) (v := .ref (am 9)) (C := RX5) (T := TX5) (N := 12) hx hb hts (by decide +kernel) hown K hG ((mset_ne (am_ne minj (i := 0) (j := 9) (by decide) (by decide) (by decide))).trans m0) rfl 10 (by decide) (by decide +kernel) rfl dX5_keeps_134 ?_
                  refine lv_iload hx hb dX5_keeps_137 (lv_at hl 1 rfl) ?_
                  refine lv_iload hx hb dX5_keeps_139 (lv_at hl 10 rfl) ?_
                  refine m_iast hx hb hG hS mset_self i.toNat (by omega) (by omega) (by decide) dX5_keeps_141 (fun H locs hG hS => ?_)
                  rw [mset_mset] at hG
                  have hG : mG D b (mset M (am 9) (aI 4096 (va_up T i.toNat o))) s H := hG
                  refine m_iinc (lv' := [(10, .int (iI (i + 1))), (11, .int (iI (if gz (((4096 * v) + i).toNat) = true then 1 else 0))), (9, .int (iI (hiM 0 sp nn sa sx sy ra t.toNat u))), (8, .int (iI (loM 0 sp nn sa sx sy ra t.toNat u))), (7, .int (iI (hiM 1 sp nn sa sx sy ra t.toNat u))), (6, .int (iI (loM 1 sp nn sa sx sy ra t.toNat u))), (0, .ref (am 0)), (1, .int (iI t)), (2, .int (iI v)), (3, .int (iI u)), (4, .int (iI o)), (5, .int (iI kc))]) (k := 1) hx hb dX5_keeps_142 hl rfl (by decide) rfl (fun ls hl => ?_)
                  refine lv_goto (tgt := 39) hx hb dX5_keeps_145 (by decide) ?_
                  exact ih39 (i + 1) (va_up T i.toNat o) _ _ _ (by omega) (by omega) (fun k => by by_cases e : k = i.toNat; rw [e, va_up_self, if_pos (by omega)]; unfold kpF; rw [m0e, m1e, m2e, m3e]; (first | exact absurd c130 c106 | rw [if_pos (by omega), hgs, if_pos c130, if_pos (by omega)]); rw [va_up_ne _ _ e, hT]; by_cases g2 : (k : Int) < i; rw [if_pos g2, if_pos (by omega)]; rw [if_neg g2, if_neg (by omega)]) (by omega) hG hS (lv_sub hl [0, 2, 3, 4, 5, 6, 7, 8, 9, 10, 11] rfl)
              · refine lv_aload_n hx hb dX5_keeps_114 rfl (lv_at hl 6 rfl) ?_
                refine m_get (ci := 5) (v := .ref (am 9)) (C := RX5) (T := TX5) (N := 12) hx hb hts (by decide +kernel) hown K hG ((mset_ne (am_ne minj (i := 0) (j := 9) (by decide) (by decide) (by decide))).trans m0) rfl 10 (by decide) (by decide +kernel) rfl dX5_keeps_115 ?_
                refine lv_iload hx hb dX5_keeps_118 (lv_at hl 1 rfl) ?_
                refine lv_dup2_11 hx hb dX5_keeps_120 rfl rfl ?_
                refine m_iald hx hb hG mset_self i.toNat (by omega) (by omega) (by decide) dX5_keeps_121 ?_
                refine lv_iconst (v := iI 1) hx hb dX5_keeps_122 rfl ?_
                refine m_iadd hx hb dX5_keeps_123 ?_
                refine m_iast hx hb hG hS mset_self i.toNat (by omega) (by omega) (by decide) dX5_keeps_124 (fun H locs hG hS => ?_)
                rw [mset_mset] at hG
                have hG : mG D b (mset M (am 9) (aI 4096 (va_up T i.toNat ((T i.toNat) + 1)))) s H := hG
                refine lv_goto (tgt := 142) hx hb dX5_keeps_125 (by decide) ?_
                refine m_iinc (lv' := [(10, .int (iI (i + 1))), (11, .int (iI (if gz (((4096 * v) + i).toNat) = true then 1 else 0))), (9, .int (iI (hiM 0 sp nn sa sx sy ra t.toNat u))), (8, .int (iI (loM 0 sp nn sa sx sy ra t.toNat u))), (7, .int (iI (hiM 1 sp nn sa sx sy ra t.toNat u))), (6, .int (iI (loM 1 sp nn sa sx sy ra t.toNat u))), (0, .ref (am 0)), (1, .int (iI t)), (2, .int (iI v)), (3, .int (iI u)), (4, .int (iI o)), (5, .int (iI kc))]) (k := 1) hx hb dX5_keeps_142 hl rfl (by decide) rfl (fun ls hl => ?_)
                refine lv_goto (tgt := 39) hx hb dX5_keeps_145 (by decide) ?_
                exact ih39 (i + 1) (va_up T i.toNat ((T i.toNat) + 1)) _ _ _ (by omega) (by omega) (fun k => by by_cases e : k = i.toNat; rw [e, va_up_self, if_pos (by omega)]; unfold kpF; rw [m0e, m1e, m2e, m3e]; rw [if_pos (by omega), hgs, if_pos c106, if_neg (by omega)]; rw [hT, if_neg (by omega)]; rw [va_up_ne _ _ e, hT]; by_cases g2 : (k : Int) < i; rw [if_pos g2, if_pos (by omega)]; rw [if_neg g2, if_neg (by omega)]) (by omega) hG hS (lv_sub hl [0, 2, 3, 4, 5, 6, 7, 8, 9, 10, 11] rfl)
          · refine lv_aload_n hx hb dX5_keeps_92 rfl (lv_at hl 6 rfl) ?_
            refine m_get (ci := 5) (v := .ref (am 9)) (C := RX5) (T := TX5) (N := 12) hx hb hts (by decide +kernel) hown K hG ((mset_ne (am_ne minj (i := 0) (j := 9) (by decide) (by decide) (by decide))).trans m0) rfl 10 (by decide) (by decide +kernel) rfl dX5_keeps_93 ?_
            refine lv_iload hx hb dX5_keeps_96 (lv_at hl 1 rfl) ?_
            refine lv_iload hx hb dX5_keeps_98 (lv_at hl 10 rfl) ?_
            refine m_iast hx hb hG hS mset_self i.toNat (by omega) (by omega) (by decide) dX5_keeps_100 (fun H locs hG hS => ?_)
            rw [mset_mset] at hG
            have hG : mG D b (mset M (am 9) (aI 4096 (va_up T i.toNat o))) s H := hG
            refine lv_goto (tgt := 142) hx hb dX5_keeps_101 (by decide) ?_
            refine m_iinc (lv' := [(10, .int (iI (i + 1))), (11, .int (iI (if gz (((4096 * v) + i).toNat) = true then 1 else 0))), (9, .int (iI (hiM 0 sp nn sa sx sy ra t.toNat u))), (8, .int (iI (loM 0 sp nn sa sx sy ra t.toNat u))), (7, .int (iI (hiM 1 sp nn sa sx sy ra t.toNat u))), (6, .int (iI (loM 1 sp nn sa sx sy ra t.toNat u))), (0, .ref (am 0)), (1, .int (iI t)), (2, .int (iI v)), (3, .int (iI u)), (4, .int (iI o)), (5, .int (iI kc))]) (k := 1) hx hb dX5_keeps_142 hl rfl (by decide) rfl (fun ls hl => ?_)
            refine lv_goto (tgt := 39) hx hb dX5_keeps_145 (by decide) ?_
            exact ih39 (i + 1) (va_up T i.toNat o) _ _ _ (by omega) (by omega) (fun k => by by_cases e : k = i.toNat; rw [e, va_up_self, if_pos (by omega)]; unfold kpF; rw [m0e, m1e, m2e, m3e]; rw [if_neg (by omega)]; rw [va_up_ne _ _ e, hT]; by_cases g2 : (k : Int) < i; rw [if_pos g2, if_pos (by omega)]; rw [if_neg g2, if_neg (by omega)]) (by omega) hG hS (lv_sub hl [0, 2, 3, 4, 5, 6, 7, 8, 9, 10, 11] rfl)
  exact loop39 _ 0 va _ _ _ (by omega) (by omega) (fun k => by rw [if_neg (by omega)]) (Nat.lt_succ_self _) (by rw [mset_id m9]; exact hG) hS (lv_sub hl [0, 1, 2, 3, 4, 5, 6, 7, 8, 9, 10] rfl)

