/-- the reference's grounds, ground t drawn -/
def dz (gz : Nat → Bool) (t u v : Int) (wb : Bool) (i : Int) : Nat → Bool := fun k => if 4096 * t ≤ k ∧ (k : Int) < 4096 * t + i ∧ (u / 64 ≤ (k - 4096 * t) / 64 ∧ ((k : Int) - 4096 * t) / 64 ≤ v / 64) ∧ (u % 64 ≤ ((k : Int) - 4096 * t) % 64 ∧ ((k : Int) - 4096 * t) % 64 ≤ v % 64) then wb else gz k

set_option maxHeartbeats 4000000 in
set_option maxRecDepth 100000 in
theorem c_X5_draw (l : Launch) (D : va_G) (b : Nat) (M : mM) (am : Nat → Nat) (nt ng : Int) (sp nn jj sa sx sy ra : Nat → Int) (gz : Nat → Bool) (va ac : Nat → Int) (hO : MoOk M am nt ng sp nn jj sa sx sy ra gz va ac) (t u v : Int) (wb : Bool) (hrt : rg t) (hru : rg u) (hrv : rg v) : Met l yX5_draw wsX5_draw ({ frames := 2, cells := 0, slots := 0, locals := 43 } : Room) (mPc [.ref (am 0), .int (iI t), .int (iI u), .int (iI v), .int (iI (if wb = true then 1 else 0))] D b M) (mQi D b (fun r M1 => (¬ ((0 ≤ t ∧ t < ng) ∧ (0 ≤ u ∧ u < 4096) ∧ (0 ≤ v ∧ v < 4096) ∧ u / 64 ≤ v / 64 ∧ u % 64 ≤ v % 64) ∧ r = iI (-1) ∧ M1 = M) ∨ (((0 ≤ t ∧ t < ng) ∧ (0 ≤ u ∧ u < 4096) ∧ (0 ≤ v ∧ v < 4096) ∧ u / 64 ≤ v / 64 ∧ u % 64 ≤ v % 64) ∧ r = iI (ctn (fun k => dz gz t u v wb 4096 (4096 * t.toNat + k)) 4096 : Nat) ∧ MoOk M1 am nt ng sp nn jj sa sx sy ra (dz gz t u v wb 4096) va ac ∧ (∀ a, (∀ i, i ≤ 10 → a ≠ am i) → M1 a = M a)))) 0 0 (mF b) := by
  refine m_met (cc := cX5_draw) (maxL := 8) (ret := (some .int)) (by decide) rfl (Nat.le_of_ble_eq_true rfl) ?_
  intro p e s m args below meth c Q ls hx hb hml hr hts hown hlk hnm hQ K hG hS hl
  have hown : s.vm.findClass RX5 = some m.cls := hown
  have hl : lv_has ls 8 [(0, .ref (am 0)), (1, .int (iI t)), (2, .int (iI u)), (3, .int (iI v)), (4, .int (iI (if wb = true then 1 else 0)))] := hl
  obtain ⟨m0, m1, m2, m3, m4, m5, m6, m7, m8, m9, m10, minj, ⟨b1, b2, b3, b4⟩⟩ := id hO
  refine lv_aload_n hx hb dX5_draw_0 rfl (lv_at hl 0 rfl) ?_
  refine lv_iload_n hx hb dX5_draw_1 rfl (lv_at hl 1 rfl) ?_
  refine m_callfi (m_runV (a := am 0) (As := [.int (iI t)]) (rest := []) ⟨hx, hb, hml, hown, hts⟩ (c_X5_isGround l D b _ am nt ng sp nn jj sa sx sy ra gz va ac hO t hrt) (cwV 1 hts gX5_draw_X5_isGround rfl rfl rfl (by decide +kernel) ⟨Nat.le_of_ble_eq_true rfl, Nat.le_of_ble_eq_true rfl⟩) K hG m0 rfl rfl rfl hl.1 rfl (Nat.le_of_ble_eq_true rfl) dX5_draw_2 ⟨Nat.le_of_ble_eq_true rfl, Nat.le_of_ble_eq_true rfl⟩) hS (fun H locs hG hS => ?_)
  have hG : mG D b M s H := hG
  refine m_ifb_eq (tgt := 30) hx hb dX5_draw_5 (by decide) (fun c5 => ?_) (fun c5 => ?_)
  · refine lv_iconst (v := iI (-1)) hx hb dX5_draw_30 rfl ?_
    exact m_iret hx hb hr hlk hQ hG hS (Nat.le_of_ble_eq_true rfl) (Nat.le_of_ble_eq_true rfl) dX5_draw_31 (Or.inl ⟨by omega, rfl, rfl⟩)
  · refine lv_iload_n hx hb dX5_draw_8 rfl (lv_at hl 2 rfl) ?_
    refine lv_iconst (v := iI 0) hx hb dX5_draw_9 rfl ?_
    refine lv_sipush (v := iI 4095) hx hb dX5_draw_10 (by decide) ?_
    refine m_callfi (m_runS (As := [.int (iI u), .int (iI 0), .int (iI 4095)]) (rest := []) ⟨hx, hb, hml, hown, hts⟩ (c_X5_in l D b _ u 0 4095 hru ⟨by omega, by omega⟩ ⟨by omega, by omega⟩) (va_cwS 3 hts gX5_draw_X5_in rfl rfl rfl (by decide +kernel) ⟨Nat.le_of_ble_eq_true rfl, Nat.le_of_ble_eq_true rfl⟩) K hG rfl hl.1 rfl (Nat.le_of_ble_eq_true rfl) dX5_draw_13 ⟨Nat.le_of_ble_eq_true rfl, Nat.le_of_ble_eq_true rfl⟩) hS (fun H locs hG hS => ?_)
    have hG : mG D b M s H := hG
    refine m_ifb_eq (tgt := 30) hx hb dX5_draw_16 (by decide) (fun c16 => ?_) (fun c16 => ?_)
    · refine lv_iconst (v := iI (-1)) hx hb dX5_draw_30 rfl ?_
      exact m_iret hx hb hr hlk hQ hG hS (Nat.le_of_ble_eq_true rfl) (Nat.le_of_ble_eq_true rfl) dX5_draw_31 (Or.inl ⟨by omega, rfl, rfl⟩)
    · refine lv_iload_n hx hb dX5_draw_19 rfl (lv_at hl 3 rfl) ?_
      refine lv_iconst (v := iI 0) hx hb dX5_draw_20 rfl ?_
      refine lv_sipush (v := iI 4095) hx hb dX5_draw_21 (by decide) ?_
      refine m_callfi (m_runS (As := [.int (iI v), .int (iI 0), .int (iI 4095)]) (rest := []) ⟨hx, hb, hml, hown, hts⟩ (c_X5_in l D b _ v 0 4095 hrv ⟨by omega, by omega⟩ ⟨by omega, by omega⟩) (va_cwS 3 hts gX5_draw_X5_in rfl rfl rfl (by decide +kernel) ⟨Nat.le_of_ble_eq_true rfl, Nat.le_of_ble_eq_true rfl⟩) K hG rfl hl.1 rfl (Nat.le_of_ble_eq_true rfl) dX5_draw_24 ⟨Nat.le_of_ble_eq_true rfl, Nat.le_of_ble_eq_true rfl⟩) hS (fun H locs hG hS => ?_)
      have hG : mG D b M s H := hG
      refine m_ifb_ne (tgt := 32) hx hb dX5_draw_27 (by decide) (fun c27 => ?_) (fun c27 => ?_)
      · refine lv_iload_n hx hb dX5_draw_32 rfl (lv_at hl 3 rfl) ?_
        refine lv_bipush (v := iI 64) hx hb dX5_draw_33 (by decide) ?_
        refine m_idiv hx hb dX5_draw_35 (by omega) (by omega) ?_
        refine lv_iload_n hx hb dX5_draw_36 rfl (lv_at hl 2 rfl) ?_
        refine lv_bipush (v := iI 64) hx hb dX5_draw_37 (by decide) ?_
        refine m_idiv hx hb dX5_draw_39 (by omega) (by omega) ?_
        refine m_icmp_lt (tgt := 54) hx hb dX5_draw_40 (by decide) ⟨by omega, by omega⟩ ⟨by omega, by omega⟩ (fun c40 => ?_) (fun c40 => ?_)
        · refine lv_iconst (v := iI (-1)) hx hb dX5_draw_54 rfl ?_
          exact m_iret hx hb hr hlk hQ hG hS (Nat.le_of_ble_eq_true rfl) (Nat.le_of_ble_eq_true rfl) dX5_draw_55 (Or.inl ⟨by omega, rfl, rfl⟩)
        · refine lv_iload_n hx hb dX5_draw_43 rfl (lv_at hl 3 rfl) ?_
          refine lv_bipush (v := iI 64) hx hb dX5_draw_44 (by decide) ?_
          refine m_irem hx hb dX5_draw_46 (by omega) (by omega) ?_
          refine lv_iload_n hx hb dX5_draw_47 rfl (lv_at hl 2 rfl) ?_
          refine lv_bipush (v := iI 64) hx hb dX5_draw_48 (by decide) ?_
          refine m_irem hx hb dX5_draw_50 (by omega) (by omega) ?_
          refine m_icmp_ge (tgt := 56) hx hb dX5_draw_51 (by decide) ⟨by omega, by omega⟩ ⟨by omega, by omega⟩ (fun c51 => ?_) (fun c51 => ?_)
          · refine lv_iconst (v := iI 0) hx hb dX5_draw_56 rfl ?_
            refine lv_istore (lv' := [(5, .int (iI 0)), (0, .ref (am 0)), (1, .int (iI t)), (2, .int (iI u)), (3, .int (iI v)), (4, .int (iI (if wb = true then 1 else 0)))]) hx hb dX5_draw_57 hl (by decide) rfl (fun ls hl => ?_)
            refine lv_iconst (v := iI 0) hx hb dX5_draw_59 rfl ?_
            refine lv_istore (lv' := [(6, .int (iI 0)), (5, .int (iI 0)), (0, .ref (am 0)), (1, .int (iI t)), (2, .int (iI u)), (3, .int (iI v)), (4, .int (iI (if wb = true then 1 else 0)))]) hx hb dX5_draw_60 hl (by decide) rfl (fun ls hl => ?_)
            have loop62 : ∀ (fuel : Nat) (i : Int) (x : Int) (T : Nat → Bool) (H : Heap) (locs : List Loc) (ls : Array Slot), (0 ≤ i) → (i ≤ 4096) → (∀ k, T k = dz gz t u v wb i k) → (x = (ctn (fun k => T (4096 * t.toNat + k)) i.toNat : Nat)) → (4096 - i).toNat < fuel → mG D b (mset M (am 8) (aZ 16384 T)) s H → va_S (mF b) s.heap H locs → lv_has ls 8 [(6, .int (iI i)), (5, .int (iI x)), (0, .ref (am 0)), (1, .int (iI t)), (2, .int (iI u)), (3, .int (iI v)), (4, .int (iI (if wb = true then 1 else 0)))] → W p l e ({ frames := 2, cells := 0, slots := 0, locals := 43 } : Room) s m args below meth c H locs 0 0 Q (F0 m 62 ls []) := by
              intro fuel
              induction fuel with
              | zero => intro i x T H locs ls hi0 hi1 hT hn hm; exact absurd hm (Nat.not_lt_zero _)
              | succ fuel ih62 =>
                intro i x T H locs ls hi0 hi1 hT hn hm hG hS hl
                refine lv_iload hx hb dX5_draw_62 (lv_at hl 0 rfl) ?_
                refine lv_sipush (v := iI 4096) hx hb dX5_draw_64 (by decide) ?_
                refine m_icmp_ge (tgt := 167) hx hb dX5_draw_67 (by decide) ⟨by omega, by omega⟩ ⟨by omega, by omega⟩ (fun c67 => ?_) (fun c67 => ?_)
                · refine lv_iload hx hb dX5_draw_167 (lv_at hl 1 rfl) ?_
                  exact m_iret hx hb hr hlk hQ hG hS (Nat.le_of_ble_eq_true rfl) (Nat.le_of_ble_eq_true rfl) dX5_draw_169 (by have eT : T = dz gz t u v wb 4096 := funext fun k => (by rw [hT, show i = 4096 by omega]); rw [eT] at hn ⊢; exact Or.inr ⟨by omega, congrArg iI (by rw [hn, show i.toNat = 4096 by omega]), ⟨((mset_ne (am_ne minj (i := 0) (j := 8) (by decide) (by decide) (by decide))).trans m0), ((mset_ne (am_ne minj (i := 1) (j := 8) (by decide) (by decide) (by decide))).trans m1), ((mset_ne (am_ne minj (i := 2) (j := 8) (by decide) (by decide) (by decide))).trans m2), ((mset_ne (am_ne minj (i := 3) (j := 8) (by decide) (by decide) (by decide))).trans m3), ((mset_ne (am_ne minj (i := 4) (j := 8) (by decide) (by decide) (by decide))).trans m4), ((mset_ne (am_ne minj (i := 5) (j := 8) (by decide) (by decide) (by decide))).trans m5), ((mset_ne (am_ne minj (i := 6) (j := 8) (by decide) (by decide) (by decide))).trans m6), ((mset_ne (am_ne minj (i := 7) (j := 8) (by decide) (by decide) (by decide))).trans m7), mset_self, ((mset_ne (am_ne minj (i := 9) (j := 8) (by decide) (by decide) (by decide))).trans m9), ((mset_ne (am_ne minj (i := 10) (j := 8) (by decide) (by decide) (by decide))).trans m10), minj, ⟨b1, b2, b3, b4⟩⟩, (fun a h9 => mset_ne (h9 8 (by decide)))⟩)
                · refine lv_iload hx hb dX5_draw_70 (lv_at hl 0 rfl) ?_
                  refine lv_bipush (v := iI 64) hx hb dX5_draw_72 (by decide) ?_
                  refine m_idiv hx hb dX5_draw_74 (by omega) (by omega) ?_
                  refine lv_iload_n hx hb dX5_draw_75 rfl (lv_at hl 4 rfl) ?_
                  refine lv_bipush (v := iI 64) hx hb dX5_draw_76 (by decide) ?_
                  refine m_idiv hx hb dX5_draw_78 (by omega) (by omega) ?_
                  refine lv_iload_n hx hb dX5_draw_79 rfl (lv_at hl 5 rfl) ?_
                  refine lv_bipush (v := iI 64) hx hb dX5_draw_80 (by decide) ?_
                  refine m_idiv hx hb dX5_draw_82 (by omega) (by omega) ?_
                  refine m_callfi (m_runS (As := [.int (iI (i / 64)), .int (iI (u / 64)), .int (iI (v / 64))]) (rest := []) ⟨hx, hb, hml, hown, hts⟩ (c_X5_in l D b _ (i / 64) (u / 64) (v / 64) ⟨by omega, by omega⟩ ⟨by omega, by omega⟩ ⟨by omega, by omega⟩) (va_cwS 3 hts gX5_draw_X5_in rfl rfl rfl (by decide +kernel) ⟨Nat.le_of_ble_eq_true rfl, Nat.le_of_ble_eq_true rfl⟩) K hG rfl hl.1 rfl (Nat.le_of_ble_eq_true rfl) dX5_draw_83 ⟨Nat.le_of_ble_eq_true rfl, Nat.le_of_ble_eq_true rfl⟩) hS (fun H locs hG hS => ?_)
                  have hG : mG D b (mset M (am 8) (aZ 16384 T)) s H := hG
                  refine m_ifb_eq (tgt := 112) hx hb dX5_draw_86 (by decide) (fun c86 => ?_) (fun c86 => ?_)
                  · refine lv_iconst (v := iI 0) hx hb dX5_draw_112 rfl ?_
                    refine lv_istore (lv' := [(7, .int (iI 0)), (6, .int (iI i)), (5, .int (iI x)), (0, .ref (am 0)), (1, .int (iI t)), (2, .int (iI u)), (3, .int (iI v)), (4, .int (iI (if wb = true then 1 else 0)))]) hx hb dX5_draw_113 hl (by decide) rfl (fun ls hl => ?_)
                    refine lv_iload hx hb dX5_draw_115 (lv_at hl 0 rfl) ?_
                    refine m_if_eq (tgt := 135) hx hb dX5_draw_117 (by decide) ⟨by decide, by decide⟩ (fun c117 => ?_) (fun c117 => absurd c117 (by decide))
                    refine lv_iload hx hb dX5_draw_135 (lv_at hl 2 rfl) ?_
                    refine lv_aload_n hx hb dX5_draw_137 rfl (lv_at hl 3 rfl) ?_
                    refine m_get (ci := 5) (v := .ref (am 8)) (C := RX5) (T := TX5) (N := 12) hx hb hts (by decide +kernel) hown K hG ((mset_ne (am_ne minj (i := 0) (j := 8) (by decide) (by decide) (by decide))).trans m0) rfl 9 (by decide) (by decide +kernel) rfl dX5_draw_138 ?_
                    refine lv_sipush (v := iI 4096) hx hb dX5_draw_141 (by decide) ?_
                    refine lv_iload_n hx hb dX5_draw_144 rfl (lv_at hl 4 rfl) ?_
                    refine m_imul hx hb dX5_draw_145 ?_
                    refine lv_iload hx hb dX5_draw_146 (lv_at hl 1 rfl) ?_
                    refine m_iadd hx hb dX5_draw_148 ?_
                    refine m_zald hx hb hG mset_self (((4096 * t) + i).toNat) (by omega) (by omega) (by decide) dX5_draw_149 ?_
                    refine m_ifb_eq (tgt := 157) hx hb dX5_draw_150 (by decide) (fun c150 => ?_) (fun c150 => ?_)
                    · refine lv_iconst (v := iI 0) hx hb dX5_draw_157 rfl ?_
                      refine m_iadd hx hb dX5_draw_158 ?_
                      refine lv_istore (lv' := [(5, .int (iI (x + 0))), (7, .int (iI 0)), (6, .int (iI i)), (0, .ref (am 0)), (1, .int (iI t)), (2, .int (iI u)), (3, .int (iI v)), (4, .int (iI (if wb = true then 1 else 0)))]) hx hb dX5_draw_159 hl (by decide) rfl (fun ls hl => ?_)
                      refine m_iinc (lv' := [(6, .int (iI (i + 1))), (5, .int (iI (x + 0))), (7, .int (iI 0)), (0, .ref (am 0)), (1, .int (iI t)), (2, .int (iI u)), (3, .int (iI v)), (4, .int (iI (if wb = true then 1 else 0)))]) (k := 2) hx hb dX5_draw_161 hl rfl (by decide) rfl (fun ls hl => ?_)
                      refine lv_goto (tgt := 62) hx hb dX5_draw_164 (by decide) ?_
                      exact ih62 (i + 1) (x + 0) T _ _ _ (by omega) (by omega) (fun k => by rw [hT]; unfold dz; by_cases g : (4096 * t ≤ (k : Int) ∧ (k : Int) < 4096 * t + i ∧ (u / 64 ≤ ((k : Int) - 4096 * t) / 64 ∧ ((k : Int) - 4096 * t) / 64 ≤ v / 64) ∧ (u % 64 ≤ ((k : Int) - 4096 * t) % 64 ∧ ((k : Int) - 4096 * t) % 64 ≤ v % 64)); rw [if_pos g, if_pos ⟨g.1, by omega, g.2.2⟩]; rw [if_neg g, if_neg (fun z => by by_cases e : (k : Int) = 4096 * t + i; rw [show (k : Int) - 4096 * t = i by omega] at z; omega; exact g ⟨z.1, by omega, z.2.2⟩)]) (by rw [hn, show (i + 1).toNat = i.toNat + 1 by omega, ctn, show 4096 * t.toNat + i.toNat = (4096 * t + i).toNat by omega, if_neg c150]; omega) (by omega) hG hS (lv_sub hl [0, 1, 3, 4, 5, 6, 7] rfl)
                    · refine lv_iconst (v := iI 1) hx hb dX5_draw_153 rfl ?_
                      refine lv_goto (tgt := 158) hx hb dX5_draw_154 (by decide) ?_
                      refine m_iadd hx hb dX5_draw_158 ?_
                      refine lv_istore (lv' := [(5, .int (iI (x + 1))), (7, .int (iI 0)), (6, .int (iI i)), (0, .ref (am 0)), (1, .int (iI t)), (2, .int (iI u)), (3, .int (iI v)), (4, .int (iI (if wb = true then 1 else 0)))]) hx hb dX5_draw_159 hl (by decide) rfl (fun ls hl => ?_)
                      refine m_iinc (lv' := [(6, .int (iI (i + 1))), (5, .int (iI (x + 1))), (7, .int (iI 0)), (0, .ref (am 0)), (1, .int (iI t)), (2, .int (iI u)), (3, .int (iI v)), (4, .int (iI (if wb = true then 1 else 0)))]) (k := 2) hx hb dX5_draw_161 hl rfl (by decide) rfl (fun ls hl => ?_)
                      refine lv_goto (tgt := 62) hx hb dX5_draw_164 (by decide) ?_
                      exact ih62 (i + 1) (x + 1) T _ _ _ (by omega) (by omega) (fun k => by rw [hT]; unfold dz; by_cases g : (4096 * t ≤ (k : Int) ∧ (k : Int) < 4096 * t + i ∧ (u / 64 ≤ ((k : Int) - 4096 * t) / 64 ∧ ((k : Int) - 4096 * t) / 64 ≤ v / 64) ∧ (u % 64 ≤ ((k : Int) - 4096 * t) % 64 ∧ ((k : Int) - 4096 * t) % 64 ≤ v % 64)); rw [if_pos g, if_pos ⟨g.1, by omega, g.2.2⟩]; rw [if_neg g, if_neg (fun z => by by_cases e : (k : Int) = 4096 * t + i; rw [show (k : Int) - 4096 * t = i by omega] at z; omega; exact g ⟨z.1, by omega, z.2.2⟩)]) (by rw [hn, show (i + 1).toNat = i.toNat + 1 by omega, ctn, show 4096 * t.toNat + i.toNat = (4096 * t + i).toNat by omega, if_pos c150]; omega) (by omega) hG hS (lv_sub hl [0, 1, 3, 4, 5, 6, 7] rfl)
                  · refine lv_iload hx hb dX5_draw_89 (lv_at hl 0 rfl) ?_
                    refine lv_bipush (v := iI 64) hx hb dX5_draw_91 (by decide) ?_
                    refine m_irem hx hb dX5_draw_93 (by omega) (by omega) ?_
                    refine lv_iload_n hx hb dX5_draw_94 rfl (lv_at hl 4 rfl) ?_
                    refine lv_bipush (v := iI 64) hx hb dX5_draw_95 (by decide) ?_
                    refine m_irem hx hb dX5_draw_97 (by omega) (by omega) ?_
                    refine lv_iload_n hx hb dX5_draw_98 rfl (lv_at hl 5 rfl) ?_
                    refine lv_bipush (v := iI 64) hx hb dX5_draw_99 (by decide) ?_
                    refine m_irem hx hb dX5_draw_101 (by omega) (by omega) ?_
                    refine m_callfi (m_runS (As := [.int (iI (i % 64)), .int (iI (u % 64)), .int (iI (v % 64))]) (rest := []) ⟨hx, hb, hml, hown, hts⟩ (c_X5_in l D b _ (i % 64) (u % 64) (v % 64) ⟨by omega, by omega⟩ ⟨by omega, by omega⟩ ⟨by omega, by omega⟩) (va_cwS 3 hts gX5_draw_X5_in rfl rfl rfl (by decide +kernel) ⟨Nat.le_of_ble_eq_true rfl, Nat.le_of_ble_eq_true rfl⟩) K hG rfl hl.1 rfl (Nat.le_of_ble_eq_true rfl) dX5_draw_102 ⟨Nat.le_of_ble_eq_true rfl, Nat.le_of_ble_eq_true rfl⟩) hS (fun H locs hG hS => ?_)
                    have hG : mG D b (mset M (am 8) (aZ 16384 T)) s H := hG
                    refine m_ifb_eq (tgt := 112) hx hb dX5_draw_105 (by decide) (fun c105 => ?_) (fun c105 => ?_)
                    · refine lv_iconst (v := iI 0) hx hb dX5_draw_112 rfl ?_
                      refine lv_istore (lv' := [(7, .int (iI 0)), (6, .int (iI i)), (5, .int (iI x)), (0, .ref (am 0)), (1, .int (iI t)), (2, .int (iI u)), (3, .int (iI v)), (4, .int (iI (if wb = true then 1 else 0)))]) hx hb dX5_draw_113 hl (by decide) rfl (fun ls hl => ?_)
                      refine lv_iload hx hb dX5_draw_115 (lv_at hl 0 rfl) ?_
                      refine m_if_eq (tgt := 135) hx hb dX5_draw_117 (by decide) ⟨by decide, by decide⟩ (fun c117 => ?_) (fun c117 => absurd c117 (by decide))
                      refine lv_iload hx hb dX5_draw_135 (lv_at hl 2 rfl) ?_
                      refine lv_aload_n hx hb dX5_draw_137 rfl (lv_at hl 3 rfl) ?_
                      refine m_get (ci := 5) (v := .ref (am 8)) (C := RX5) (T := TX5) (N := 12) hx hb hts (by decide +kernel) hown K hG ((mset_ne (am_ne minj (i := 0) (j := 8) (by decide) (by decide) (by decide))).trans m0) rfl 9 (by decide) (by decide +kernel) rfl dX5_draw_138 ?_
                      refine lv_sipush (v := iI 4096) hx hb dX5_draw_141 (by decide) ?_
                      refine lv_iload_n hx hb dX5_draw_144 rfl (lv_at hl 4 rfl) ?_
                      refine m_imul hx hb dX5_draw_145 ?_
                      refine lv_iload hx hb dX5_draw_146 (lv_at hl 1 rfl) ?_
                      refine m_iadd hx hb dX5_draw_148 ?_
                      refine m_zald hx hb hG mset_self (((4096 * t) + i).toNat) (by omega) (by omega) (by decide) dX5_draw_149 ?_
                      refine m_ifb_eq (tgt := 157) hx hb dX5_draw_150 (by decide) (fun c150 => ?_) (fun c150 => ?_)
                      · refine lv_iconst (v := iI 0) hx hb dX5_draw_157 rfl ?_
                        refine m_iadd hx hb dX5_draw_158 ?_
                        refine lv_istore (lv' := [(5, .int (iI (x + 0))), (7, .int (iI 0)), (6, .int (iI i)), (0, .ref (am 0)), (1, .int (iI t)), (2, .int (iI u)), (3, .int (iI v)), (4, .int (iI (if wb = true then 1 else 0)))]) hx hb dX5_draw_159 hl (by decide) rfl (fun ls hl => ?_)
                        refine m_iinc (lv' := [(6, .int (iI (i + 1))), (5, .int (iI (x + 0))), (7, .int (iI 0)), (0, .ref (am 0)), (1, .int (iI t)), (2, .int (iI u)), (3, .int (iI v)), (4, .int (iI (if wb = true then 1 else 0)))]) (k := 2) hx hb dX5_draw_161 hl rfl (by decide) rfl (fun ls hl => ?_)
                        refine lv_goto (tgt := 62) hx hb dX5_draw_164 (by decide) ?_
                        exact ih62 (i + 1) (x + 0) T _ _ _ (by omega) (by omega) (fun k => by rw [hT]; unfold dz; by_cases g : (4096 * t ≤ (k : Int) ∧ (k : Int) < 4096 * t + i ∧ (u / 64 ≤ ((k : Int) - 4096 * t) / 64 ∧ ((k : Int) - 4096 * t) / 64 ≤ v / 64) ∧ (u % 64 ≤ ((k : Int) - 4096 * t) % 64 ∧ ((k : Int) - 4096 * t) % 64 ≤ v % 64)); rw [if_pos g, if_pos ⟨g.1, by omega, g.2.2⟩]; rw [if_neg g, if_neg (fun z => by by_cases e : (k : Int) = 4096 * t + i; rw [show (k : Int) - 4096 * t = i by omega] at z; omega; exact g ⟨z.1, by omega, z.2.2⟩)]) (by rw [hn, show (i + 1).toNat = i.toNat + 1 by omega, ctn, show 4096 * t.toNat + i.toNat = (4096 * t + i).toNat by omega, if_neg c150]; omega) (by omega) hG hS (lv_sub hl [0, 1, 3, 4, 5, 6, 7] rfl)
                      · refine lv_iconst (v := iI 1) hx hb dX5_draw_153 rfl ?_
                        refine lv_goto (tgt := 158) hx hb dX5_draw_154 (by decide) ?_
                        refine m_iadd hx hb dX5_draw_158 ?_
                        refine lv_istore (lv' := [(5, .int (iI (x + 1))), (7, .int (iI 0)), (6, .int (iI i)), (0, .ref (am 0)), (1, .int (iI t)), (2, .int (iI u)), (3, .int (iI v)), (4, .int (iI (if wb = true then 1 else 0)))]) hx hb dX5_draw_159 hl (by decide) rfl (fun ls hl => ?_)
                        refine m_iinc (lv' := [(6, .int (iI (i + 1))), (5, .int (iI (x + 1))), (7, .int (iI 0)), (0, .ref (am 0)), (1, .int (iI t)), (2, .int (iI u)), (3, .int (iI v)), (4, .int (iI (if wb = true then 1 else 0)))]) (k := 2) hx hb dX5_draw_161 hl rfl (by decide) rfl (fun ls hl => ?_)
                        refine lv_goto (tgt := 62) hx hb dX5_draw_164 (by decide) ?_
                        exact ih62 (i + 1) (x + 1) T _ _ _ (by omega) (by omega) (fun k => by rw [hT]; unfold dz; by_cases g : (4096 * t ≤ (k : Int) ∧ (k : Int) < 4096 * t + i ∧ (u / 64 ≤ ((k : Int) - 4096 * t) / 64 ∧ ((k : Int) - 4096 * t) / 64 ≤ v / 64) ∧ (u % 64 ≤ ((k : Int) - 4096 * t) % 64 ∧ ((k : Int) - 4096 * t) % 64 ≤ v % 64)); rw [if_pos g, if_pos ⟨g.1, by omega, g.2.2⟩]; rw [if_neg g, if_neg (fun z => by by_cases e : (k : Int) = 4096 * t + i; rw [show (k : Int) - 4096 * t = i by omega] at z; omega; exact g ⟨z.1, by omega, z.2.2⟩)]) (by rw [hn, show (i + 1).toNat = i.toNat + 1 by omega, ctn, show 4096 * t.toNat + i.toNat = (4096 * t + i).toNat by omega, if_pos c150]; omega) (by omega) hG hS (lv_sub hl [0, 1, 3, 4, 5, 6, 7] rfl)
                    · refine lv_iconst (v := iI 1) hx hb dX5_draw_108 rfl ?_
                      refine lv_goto (tgt := 113) hx hb dX5_draw_109 (by decide) ?_
                      refine lv_istore (lv' := [(7, .int (iI 1)), (6, .int (iI i)), (5, .int (iI x)), (0, .ref (am 0)), (1, .int (iI t)), (2, .int (iI u)), (3, .int (iI v)), (4, .int (iI (if wb = true then 1 else 0)))]) hx hb dX5_draw_113 hl (by decide) rfl (fun ls hl => ?_)
                      refine lv_iload hx hb dX5_draw_115 (lv_at hl 0 rfl) ?_
                      refine m_if_eq (tgt := 135) hx hb dX5_draw_117 (by decide) ⟨by decide, by decide⟩ (fun c117 => absurd c117 (by decide)) (fun c117 => ?_)
                      refine lv_aload_n hx hb dX5_draw_120 rfl (lv_at hl 3 rfl) ?_
                      refine m_get (ci := 5) (v := .ref (am 8)) (C := RX5) (T := TX5) (N := 12) hx hb hts (by decide +kernel) hown K hG ((mset_ne (am_ne minj (i := 0) (j := 8) (by decide) (by decide) (by decide))).trans m0) rfl 9 (by decide) (by decide +kernel) rfl dX5_draw_121 ?_
                      refine lv_sipush (v := iI 4096) hx hb dX5_draw_124 (by decide) ?_
                      refine lv_iload_n hx hb dX5_draw_127 rfl (lv_at hl 4 rfl) ?_
                      refine m_imul hx hb dX5_draw_128 ?_
                      refine lv_iload hx hb dX5_draw_129 (lv_at hl 1 rfl) ?_
                      refine m_iadd hx hb dX5_draw_131 ?_
                      refine lv_iload hx hb dX5_draw_132 (lv_at hl 7 rfl) ?_
                      refine m_zast hx hb hG hS mset_self (((4096 * t) + i).toNat) (by omega) (by omega) (by decide) dX5_draw_134 (fun H locs hG hS => ?_)
                      rw [mset_mset] at hG
                      have hG : mG D b (mset M (am 8) (aZ 16384 (va_up T (((4096 * t) + i).toNat) (decide (wb = true))))) s H := hG
                      refine lv_iload hx hb dX5_draw_135 (lv_at hl 2 rfl) ?_
                      refine lv_aload_n hx hb dX5_draw_137 rfl (lv_at hl 3 rfl) ?_
                      refine m_get (ci := 5) (v := .ref (am 8)) (C := RX5) (T := TX5) (N := 12) hx hb hts (by decide +kernel) hown K hG ((mset_ne (am_ne minj (i := 0) (j := 8) (by decide) (by decide) (by decide))).trans m0) rfl 9 (by decide) (by decide +kernel) rfl dX5_draw_138 ?_
                      refine lv_sipush (v := iI 4096) hx hb dX5_draw_141 (by decide) ?_
                      refine lv_iload_n hx hb dX5_draw_144 rfl (lv_at hl 4 rfl) ?_
                      refine m_imul hx hb dX5_draw_145 ?_
                      refine lv_iload hx hb dX5_draw_146 (lv_at hl 1 rfl) ?_
                      refine m_iadd hx hb dX5_draw_148 ?_
                      refine m_zald hx hb hG mset_self (((4096 * t) + i).toNat) (by omega) (by omega) (by decide) dX5_draw_149 ?_
                      refine m_ifb_eq (tgt := 157) hx hb dX5_draw_150 (by decide) (fun c150 => ?_) (fun c150 => ?_)
                      · refine lv_iconst (v := iI 0) hx hb dX5_draw_157 rfl ?_
                        refine m_iadd hx hb dX5_draw_158 ?_
                        refine lv_istore (lv' := [(5, .int (iI (x + 0))), (7, .int (iI 1)), (6, .int (iI i)), (0, .ref (am 0)), (1, .int (iI t)), (2, .int (iI u)), (3, .int (iI v)), (4, .int (iI (if wb = true then 1 else 0)))]) hx hb dX5_draw_159 hl (by decide) rfl (fun ls hl => ?_)
                        refine m_iinc (lv' := [(6, .int (iI (i + 1))), (5, .int (iI (x + 0))), (7, .int (iI 1)), (0, .ref (am 0)), (1, .int (iI t)), (2, .int (iI u)), (3, .int (iI v)), (4, .int (iI (if wb = true then 1 else 0)))]) (k := 2) hx hb dX5_draw_161 hl rfl (by decide) rfl (fun ls hl => ?_)
                        refine lv_goto (tgt := 62) hx hb dX5_draw_164 (by decide) ?_
                        exact ih62 (i + 1) (x + 0) (va_up T (((4096 * t) + i).toNat) (decide (wb = true))) _ _ _ (by omega) (by omega) (fun k => by unfold dz; by_cases e : k = (4096 * t + i).toNat; rw [e, va_up_self, if_pos (by omega)]; simp; rw [va_up_ne _ _ e, hT]; unfold dz; by_cases g : (4096 * t ≤ (k : Int) ∧ (k : Int) < 4096 * t + i ∧ (u / 64 ≤ ((k : Int) - 4096 * t) / 64 ∧ ((k : Int) - 4096 * t) / 64 ≤ v / 64) ∧ (u % 64 ≤ ((k : Int) - 4096 * t) % 64 ∧ ((k : Int) - 4096 * t) % 64 ≤ v % 64)); rw [if_pos g, if_pos ⟨g.1, by omega, g.2.2⟩]; rw [if_neg g, if_neg (fun z => g ⟨z.1, by omega, z.2.2⟩)]) (by rw [hn, show (i + 1).toNat = i.toNat + 1 by omega, ctn, show 4096 * t.toNat + i.toNat = (4096 * t + i).toNat by omega, if_neg c150]; rw [show ctn (fun k => va_up T (4096 * t + i).toNat (decide (wb = true)) (4096 * t.toNat + k)) i.toNat = ctn (fun k => T (4096 * t.toNat + k)) i.toNat from ctn_cong (fun k hk => va_up_ne _ _ (by omega))]; omega) (by omega) hG hS (lv_sub hl [0, 1, 3, 4, 5, 6, 7] rfl)
                      · refine lv_iconst (v := iI 1) hx hb dX5_draw_153 rfl ?_
                        refine lv_goto (tgt := 158) hx hb dX5_draw_154 (by decide) ?_
                        refine m_iadd hx hb dX5_draw_158 ?_
                        refine lv_istore (lv' := [(5, .int (iI (x + 1))), (7, .int (iI 1)), (6, .int (iI i)), (0, .ref (am 0)), (1, .int (iI t)), (2, .int (iI u)), (3, .int (iI v)), (4, .int (iI (if wb = true then 1 else 0)))]) hx hb dX5_draw_159 hl (by decide) rfl (fun ls hl => ?_)
                        refine m_iinc (lv' := [(6, .int (iI (i + 1))), (5, .int (iI (x + 1))), (7, .int (iI 1)), (0, .ref (am 0)), (1, .int (iI t)), (2, .int (iI u)), (3, .int (iI v)), (4, .int (iI (if wb = true then 1 else 0)))]) (k := 2) hx hb dX5_draw_161 hl rfl (by decide) rfl (fun ls hl => ?_)
                        refine lv_goto (tgt := 62) hx hb dX5_draw_164 (by decide) ?_
                        exact ih62 (i + 1) (x + 1) (va_up T (((4096 * t) + i).toNat) (decide (wb = true))) _ _ _ (by omega) (by omega) (fun k => by unfold dz; by_cases e : k = (4096 * t + i).toNat; rw [e, va_up_self, if_pos (by omega)]; simp; rw [va_up_ne _ _ e, hT]; unfold dz; by_cases g : (4096 * t ≤ (k : Int) ∧ (k : Int) < 4096 * t + i ∧ (u / 64 ≤ ((k : Int) - 4096 * t) / 64 ∧ ((k : Int) - 4096 * t) / 64 ≤ v / 64) ∧ (u % 64 ≤ ((k : Int) - 4096 * t) % 64 ∧ ((k : Int) - 4096 * t) % 64 ≤ v % 64)); rw [if_pos g, if_pos ⟨g.1, by omega, g.2.2⟩]; rw [if_neg g, if_neg (fun z => g ⟨z.1, by omega, z.2.2⟩)]) (by rw [hn, show (i + 1).toNat = i.toNat + 1 by omega, ctn, show 4096 * t.toNat + i.toNat = (4096 * t + i).toNat by omega, if_pos c150]; rw [show ctn (fun k => va_up T (4096 * t + i).toNat (decide (wb = true)) (4096 * t.toNat + k)) i.toNat = ctn (fun k => T (4096 * t.toNat + k)) i.toNat from ctn_cong (fun k hk => va_up_ne _ _ (by omega))]; omega) (by omega) hG hS (lv_sub hl [0, 1, 3, 4, 5, 6, 7] rfl)
            exact loop62 _ 0 0 gz _ _ _ (by omega) (by omega) (fun k => by unfold dz; rw [if_neg (by omega)]) rfl (Nat.lt_succ_self _) (by rw [mset_id m8]; exact hG) hS (lv_sub hl [0, 1, 2, 3, 4, 5, 6] rfl)
          · refine lv_iconst (v := iI (-1)) hx hb dX5_draw_54 rfl ?_
            exact m_iret hx hb hr hlk hQ hG hS (Nat.le_of_ble_eq_true rfl) (Nat.le_of_ble_eq_true rfl) dX5_draw_55 (Or.inl ⟨by omega, rfl, rfl⟩)
      · refine lv_iconst (v := iI (-1)) hx hb dX5_draw_30 rfl ?_
        exact m_iret hx hb hr hlk hQ hG hS (Nat.le_of_ble_eq_true rfl) (Nat.le_of_ble_eq_true rfl) dX5_draw_31 (Or.inl ⟨by omega, rfl, rfl⟩)

