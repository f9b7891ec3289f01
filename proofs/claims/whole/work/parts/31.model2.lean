/-- the coordinate that is asked for -/
def cxy (bb : Int) (sx sy : Nat → Int) : Nat → Int := fun k => if bb = 0 then sy k else sx k
/-- the model's sights of thing i are in range -/
abbrev mSo (n : Int) (sa sx sy ra : Nat → Int) (i : Nat) : Prop := ∀ k : Nat, (k : Int) < n → (0 ≤ sa (12 * i + k) ∧ sa (12 * i + k) < 80) ∧ (0 ≤ sx (12 * i + k) ∧ sx (12 * i + k) < 64) ∧ (0 ≤ sy (12 * i + k) ∧ sy (12 * i + k) < 64) ∧ (0 ≤ ra (12 * i + k) ∧ ra (12 * i + k) < 64)
def loM (bb : Int) (sp nn sa sx sy ra : Nat → Int) (i : Nat) (u : Int) : Int := mxF 0 (fun d => cxy bb sx sy (12 * i + d) - ra (12 * i + d)) (fun d => sa (12 * i + d)) (sp i) (nn i).toNat u
def hiM (bb : Int) (sp nn sa sx sy ra : Nat → Int) (i : Nat) (u : Int) : Int := - mxF (-63) (fun d => -(cxy bb sx sy (12 * i + d) + ra (12 * i + d))) (fun d => sa (12 * i + d)) (sp i) (nn i).toNat u
theorem pr_rg {a c : Int} (h1 : 0 ≤ a ∧ a ≤ 7) (h2 : 0 ≤ c ∧ c ≤ 79) : 0 ≤ a * c ∧ a * c ≤ 553 := by
  refine ⟨Int.mul_nonneg h1.1 h2.1, ?_⟩
  have := Int.mul_le_mul h1.2 h2.2 h2.1 (by omega)
  omega
theorem mxF_rg {β : Int} {v tk : Nat → Int} {s u : Int} (hs : 0 ≤ s) : ∀ {n : Nat}, (-63 ≤ β ∧ β ≤ 0) → (∀ k, k < n → v k ≤ 63) → -63 ≤ mxF β v tk s n u ∧ mxF β v tk s n u ≤ 63
  | 0, h, _ => by rw [mxF]; omega
  | n + 1, h, hv => by
    have ih := mxF_rg (v := v) (tk := tk) (u := u) hs (n := n) h (fun k hk => hv k (by omega))
    have h1 := hv n (by omega)
    have h2 : 0 ≤ s * dst u (tk n) := Int.mul_nonneg hs (by unfold dst; split <;> omega)
    rw [mxF]
    omega

set_option maxHeartbeats 4000000 in
set_option maxRecDepth 100000 in
theorem c_X5_low (l : Launch) (D : va_G) (b : Nat) (M : mM) (am : Nat → Nat) (nt ng : Int) (sp nn jj sa sx sy ra : Nat → Int) (gz : Nat → Bool) (va ac : Nat → Int) (hO : MoOk M am nt ng sp nn jj sa sx sy ra gz va ac) (t u bb : Int) (ht0 : 0 ≤ t) (ht1 : t < nt) (hu0 : 0 ≤ u) (hu1 : u < 80) (hbb : bb = 0 ∨ bb = 1) (hn0 : 0 ≤ nn t.toNat) (hn1 : nn t.toNat ≤ 12) (hs0 : 0 ≤ sp t.toNat) (hs1 : sp t.toNat ≤ 7) (hso : mSo (nn t.toNat) sa sx sy ra t.toNat) : Met l yX5_low wsX5_low ({ frames := 0, cells := 0, slots := 0, locals := 0 } : Room) (mPc [.ref (am 0), .int (iI t), .int (iI u), .int (iI bb)] D b M) (mQi D b (fI (loM bb sp nn sa sx sy ra t.toNat u) M)) 0 0 (mF b) := by
  refine m_met (cc := cX5_low) (maxL := 8) (ret := (some .int)) (by decide) rfl (Nat.le_of_ble_eq_true rfl) ?_
  intro p e s m args below meth c Q ls hx hb hml hr hts hown hlk hnm hQ K hG hS hl
  have hown : s.vm.findClass RX5 = some m.cls := hown
  have hl : lv_has ls 8 [(0, .ref (am 0)), (1, .int (iI t)), (2, .int (iI u)), (3, .int (iI bb))] := hl
  obtain ⟨m0, m1, m2, m3, m4, m5, m6, m7, m8, m9, m10, minj, ⟨b1, b2, b3, b4⟩⟩ := id hO
  refine lv_iconst (v := iI 0) hx hb dX5_low_0 rfl ?_
  refine lv_istore (lv' := [(4, .int (iI 0)), (0, .ref (am 0)), (1, .int (iI t)), (2, .int (iI u)), (3, .int (iI bb))]) hx hb dX5_low_1 hl (by decide) rfl (fun ls hl => ?_)
  refine lv_bipush (v := iI 12) hx hb dX5_low_3 (by decide) ?_
  refine lv_iload_n hx hb dX5_low_5 rfl (lv_at hl 2 rfl) ?_
  refine m_imul hx hb dX5_low_6 ?_
  refine lv_istore (lv' := [(5, .int (iI (12 * t))), (4, .int (iI 0)), (0, .ref (am 0)), (1, .int (iI t)), (2, .int (iI u)), (3, .int (iI bb))]) hx hb dX5_low_7 hl (by decide) rfl (fun ls hl => ?_)
  have loop9 : ∀ (fuel : Nat) (i : Int) (x : Int) (H : Heap) (locs : List Loc) (ls : Array Slot), (12 * t ≤ i) → (i ≤ 12 * t + nn t.toNat) → (x = mxF 0 (fun d => cxy bb sx sy (12 * t.toNat + d) - ra (12 * t.toNat + d)) (fun d => sa (12 * t.toNat + d)) (sp t.toNat) (i - 12 * t).toNat u) → (-63 ≤ x ∧ x ≤ 63) → (12 * t + nn t.toNat - i).toNat < fuel → mG D b M s H → va_S (mF b) s.heap H locs → lv_has ls 8 [(5, .int (iI i)), (4, .int (iI x)), (0, .ref (am 0)), (1, .int (iI t)), (2, .int (iI u)), (3, .int (iI bb))] → W p l e ({ frames := 0, cells := 0, slots := 0, locals := 0 } : Room) s m args below meth c H locs 0 0 Q (F0 m 9 ls []) := by
    intro fuel
    induction fuel with
    | zero => intro i x H locs ls hi0 hi1 hv hxr hm; exact absurd hm (Nat.not_lt_zero _)
    | succ fuel ih9 =>
      intro i x H locs ls hi0 hi1 hv hxr hm hG hS hl
      refine lv_iload hx hb dX5_low_9 (lv_at hl 0 rfl) ?_
      refine lv_bipush (v := iI 12) hx hb dX5_low_11 (by decide) ?_
      refine lv_iload_n hx hb dX5_low_13 rfl (lv_at hl 3 rfl) ?_
      refine m_imul hx hb dX5_low_14 ?_
      refine lv_aload_n hx hb dX5_low_15 rfl (lv_at hl 2 rfl) ?_
      refine m_get (ci := 5) (v := .ref (am 2)) (C := RX5) (T := TX5) (N := 12) hx hb hts (by decide +kernel) hown K hG m0 rfl 2 (by decide) (by decide +kernel) rfl dX5_low_16 ?_
      refine lv_iload_n hx hb dX5_low_19 rfl (lv_at hl 3 rfl) ?_
      refine m_iald hx hb hG m2 t.toNat (by omega) (by omega) (by decide) dX5_low_20 ?_
      refine m_iadd hx hb dX5_low_21 ?_
      refine m_icmp_ge (tgt := 117) hx hb dX5_low_22 (by decide) ⟨by omega, by omega⟩ ⟨by omega, by omega⟩ (fun c22 => ?_) (fun c22 => ?_)
      · refine lv_iload hx hb dX5_low_117 (lv_at hl 1 rfl) ?_
        exact m_iret hx hb hr hlk hQ hG hS (Nat.le_of_ble_eq_true rfl) (Nat.le_of_ble_eq_true rfl) dX5_low_119 ⟨congrArg iI (by unfold loM; rw [hv, show (i - 12 * t).toNat = (nn t.toNat).toNat by omega]), rfl⟩
      · have so := hso (i - 12 * t).toNat (by omega)
        rw [show 12 * t.toNat + (i - 12 * t).toNat = i.toNat by omega] at so
        obtain ⟨⟨so1, so2⟩, ⟨so3, so4⟩, ⟨so5, so6⟩, so7, so8⟩ := so
        refine lv_iload_n hx hb dX5_low_25 rfl (lv_at hl 4 rfl) ?_
        refine lv_aload_n hx hb dX5_low_26 rfl (lv_at hl 2 rfl) ?_
        refine m_get (ci := 5) (v := .ref (am 4)) (C := RX5) (T := TX5) (N := 12) hx hb hts (by decide +kernel) hown K hG m0 rfl 4 (by decide) (by decide +kernel) rfl dX5_low_27 ?_
        refine lv_iload hx hb dX5_low_30 (lv_at hl 0 rfl) ?_
        refine m_iald hx hb hG m4 i.toNat (by omega) (by omega) (by decide) dX5_low_32 ?_
        refine m_icmp_ge (tgt := 48) hx hb dX5_low_33 (by decide) ⟨by omega, by omega⟩ ⟨by omega, by omega⟩ (fun c33 => ?_) (fun c33 => ?_)
        · refine lv_iload_n hx hb dX5_low_48 rfl (lv_at hl 4 rfl) ?_
          refine lv_aload_n hx hb dX5_low_49 rfl (lv_at hl 2 rfl) ?_
          refine m_get (ci := 5) (v := .ref (am 4)) (C := RX5) (T := TX5) (N := 12) hx hb hts (by decide +kernel) hown K hG m0 rfl 4 (by decide) (by decide +kernel) rfl dX5_low_50 ?_
          refine lv_iload hx hb dX5_low_53 (lv_at hl 0 rfl) ?_
          refine m_iald hx hb hG m4 i.toNat (by omega) (by omega) (by decide) dX5_low_55 ?_
          refine m_isub hx hb dX5_low_56 ?_
          refine lv_istore (lv' := [(6, .int (iI (u - (sa i.toNat)))), (5, .int (iI i)), (4, .int (iI x)), (0, .ref (am 0)), (1, .int (iI t)), (2, .int (iI u)), (3, .int (iI bb))]) hx hb dX5_low_57 hl (by decide) rfl (fun ls hl => ?_)
          refine lv_iload_n hx hb dX5_low_59 rfl (lv_at hl 6 rfl) ?_
          refine m_if_eq (tgt := 73) hx hb dX5_low_60 (by decide) ⟨by omega, by omega⟩ (fun c60 => ?_) (fun c60 => ?_)
          · refine lv_aload_n hx hb dX5_low_73 rfl (lv_at hl 3 rfl) ?_
            refine m_get (ci := 5) (v := .ref (am 6)) (C := RX5) (T := TX5) (N := 12) hx hb hts (by decide +kernel) hown K hG m0 rfl 6 (by decide) (by decide +kernel) rfl dX5_low_74 ?_
            refine lv_iload hx hb dX5_low_77 (lv_at hl 1 rfl) ?_
            refine m_iald hx hb hG m6 i.toNat (by omega) (by omega) (by decide) dX5_low_79 ?_
            refine lv_aload_n hx hb dX5_low_80 rfl (lv_at hl 3 rfl) ?_
            refine m_get (ci := 5) (v := .ref (am 7)) (C := RX5) (T := TX5) (N := 12) hx hb hts (by decide +kernel) hown K hG m0 rfl 7 (by decide) (by decide +kernel) rfl dX5_low_81 ?_
            refine lv_iload hx hb dX5_low_84 (lv_at hl 1 rfl) ?_
            refine m_iald hx hb hG m7 i.toNat (by omega) (by omega) (by decide) dX5_low_86 ?_
            refine m_isub hx hb dX5_low_87 ?_
            refine lv_aload_n hx hb dX5_low_88 rfl (lv_at hl 3 rfl) ?_
            refine m_get (ci := 5) (v := .ref (am 1)) (C := RX5) (T := TX5) (N := 12) hx hb hts (by decide +kernel) hown K hG m0 rfl 1 (by decide) (by decide +kernel) rfl dX5_low_89 ?_
            refine lv_iload_n hx hb dX5_low_92 rfl (lv_at hl 4 rfl) ?_
            refine m_iald hx hb hG m1 t.toNat (by omega) (by omega) (by decide) dX5_low_93 ?_
            refine lv_iload hx hb dX5_low_94 (lv_at hl 0 rfl) ?_
            refine m_imul hx hb dX5_low_96 ?_
            refine m_isub hx hb dX5_low_97 ?_
            have hpr := pr_rg (a := sp t.toNat) (c := u - (sa i.toNat)) ⟨hs0, hs1⟩ ⟨by omega, by omega⟩
            refine lv_istore (lv' := [(7, .int (iI (((sy i.toNat) - (ra i.toNat)) - ((sp t.toNat) * (u - (sa i.toNat)))))), (6, .int (iI (u - (sa i.toNat)))), (5, .int (iI i)), (4, .int (iI x)), (0, .ref (am 0)), (1, .int (iI t)), (2, .int (iI u)), (3, .int (iI bb))]) hx hb dX5_low_98 hl (by decide) rfl (fun ls hl => ?_)
            refine lv_iload hx hb dX5_low_100 (lv_at hl 0 rfl) ?_
            refine lv_iload hx hb dX5_low_102 (lv_at hl 3 rfl) ?_
            refine m_icmp_le (tgt := 111) hx hb dX5_low_104 (by decide) ⟨by omega, by omega⟩ ⟨by omega, by omega⟩ (fun c104 => ?_) (fun c104 => ?_)
            · refine m_iinc (lv' := [(5, .int (iI (i + 1))), (7, .int (iI (((sy i.toNat) - (ra i.toNat)) - ((sp t.toNat) * (u - (sa i.toNat)))))), (6, .int (iI (u - (sa i.toNat)))), (4, .int (iI x)), (0, .ref (am 0)), (1, .int (iI t)), (2, .int (iI u)), (3, .int (iI bb))]) (k := 2) hx hb dX5_low_111 hl rfl (by decide) rfl (fun ls hl => ?_)
              refine lv_goto (tgt := 9) hx hb dX5_low_114 (by decide) ?_
              exact ih9 (i + 1) x _ _ _ (by omega) (by omega) (by have hv2 : mxF 0 (fun d => cxy bb sx sy (12 * t.toNat + d) - ra (12 * t.toNat + d)) (fun d => sa (12 * t.toNat + d)) (sp t.toNat) (i - 12 * t).toNat u = x := (by omega); rw [show (i + 1 - 12 * t).toNat = (i - 12 * t).toNat + 1 by omega, mxF, hv2, show 12 * t.toNat + (i - 12 * t).toNat = i.toNat by omega]; unfold dst cxy; rw [if_neg (show ¬ u < sa i.toNat by omega), if_pos (by omega)]; omega) ⟨by omega, by omega⟩ (by omega) hG hS (lv_sub hl [0, 3, 4, 5, 6, 7] rfl)
            · refine lv_iload hx hb dX5_low_107 (lv_at hl 0 rfl) ?_
              refine lv_istore (lv' := [(4, .int (iI (((sy i.toNat) - (ra i.toNat)) - ((sp t.toNat) * (u - (sa i.toNat)))))), (7, .int (iI (((sy i.toNat) - (ra i.toNat)) - ((sp t.toNat) * (u - (sa i.toNat)))))), (6, .int (iI (u - (sa i.toNat)))), (5, .int (iI i)), (0, .ref (am 0)), (1, .int (iI t)), (2, .int (iI u)), (3, .int (iI bb))]) hx hb dX5_low_109 hl (by decide) rfl (fun ls hl => ?_)
              refine m_iinc (lv' := [(5, .int (iI (i + 1))), (4, .int (iI (((sy i.toNat) - (ra i.toNat)) - ((sp t.toNat) * (u - (sa i.toNat)))))), (7, .int (iI (((sy i.toNat) - (ra i.toNat)) - ((sp t.toNat) * (u - (sa i.toNat)))))), (6, .int (iI (u - (sa i.toNat)))), (0, .ref (am 0)), (1, .int (iI t)), (2, .int (iI u)), (3, .int (iI bb))]) (k := 3) hx hb dX5_low_111 hl rfl (by decide) rfl (fun ls hl => ?_)
              refine lv_goto (tgt := 9) hx hb dX5_low_114 (by decide) ?_
              exact ih9 (i + 1) (((sy i.toNat) - (ra i.toNat)) - ((sp t.toNat) * (u - (sa i.toNat)))) _ _ _ (by omega) (by omega) (by have hv2 : mxF 0 (fun d => cxy bb sx sy (12 * t.toNat + d) - ra (12 * t.toNat + d)) (fun d => sa (12 * t.toNat + d)) (sp t.toNat) (i - 12 * t).toNat u = x := (by omega); rw [show (i + 1 - 12 * t).toNat = (i - 12 * t).toNat + 1 by omega, mxF, hv2, show 12 * t.toNat + (i - 12 * t).toNat = i.toNat by omega]; unfold dst cxy; rw [if_neg (show ¬ u < sa i.toNat by omega), if_pos (by omega)]; omega) ⟨by omega, by omega⟩ (by omega) hG hS (lv_sub hl [0, 1, 4, 5, 6, 7] rfl)
          · refine lv_aload_n hx hb dX5_low_63 rfl (lv_at hl 3 rfl) ?_
            refine m_get (ci := 5) (v := .ref (am 5)) (C := RX5) (T := TX5) (N := 12) hx hb hts (by decide +kernel) hown K hG m0 rfl 5 (by decide) (by decide +kernel) rfl dX5_low_64 ?_
            refine lv_iload hx hb dX5_low_67 (lv_at hl 1 rfl) ?_
            refine m_iald hx hb hG m5 i.toNat (by omega) (by omega) (by decide) dX5_low_69 ?_
            refine lv_goto (tgt := 80) hx hb dX5_low_70 (by decide) ?_
            refine lv_aload_n hx hb dX5_low_80 rfl (lv_at hl 3 rfl) ?_
            refine m_get (ci := 5) (v := .ref (am 7)) (C := RX5) (T := TX5) (N := 12) hx hb hts (by decide +kernel) hown K hG m0 rfl 7 (by decide) (by decide +kernel) rfl dX5_low_81 ?_
            refine lv_iload hx hb dX5_low_84 (lv_at hl 1 rfl) ?_
            refine m_iald hx hb hG m7 i.toNat (by omega) (by omega) (by decide) dX5_low_86 ?_
            refine m_isub hx hb dX5_low_87 ?_
            refine lv_aload_n hx hb dX5_low_88 rfl (lv_at hl 3 rfl) ?_
            refine m_get (ci := 5) (v := .ref (am 1)) (C := RX5) (T := TX5) (N := 12) hx hb hts (by decide +kernel) hown K hG m0 rfl 1 (by decide) (by decide +kernel) rfl dX5_low_89 ?_
            refine lv_iload_n hx hb dX5_low_92 rfl (lv_at hl 4 rfl) ?_
            refine m_iald hx hb hG m1 t.toNat (by omega) (by omega) (by decide) dX5_low_93 ?_
            refine lv_iload hx hb dX5_low_94 (lv_at hl 0 rfl) ?_
            refine m_imul hx hb dX5_low_96 ?_
            refine m_isub hx hb dX5_low_97 ?_
            have hpr := pr_rg (a := sp t.toNat) (c := u - (sa i.toNat)) ⟨hs0, hs1⟩ ⟨by omega, by omega⟩
            refine lv_istore (lv' := [(7, .int (iI (((sx i.toNat) - (ra i.toNat)) - ((sp t.toNat) * (u - (sa i.toNat)))))), (6, .int (iI (u - (sa i.toNat)))), (5, .int (iI i)), (4, .int (iI x)), (0, .ref (am 0)), (1, .int (iI t)), (2, .int (iI u)), (3, .int (iI bb))]) hx hb dX5_low_98 hl (by decide) rfl (fun ls hl => ?_)
            refine lv_iload hx hb dX5_low_100 (lv_at hl 0 rfl) ?_
            refine lv_iload hx hb dX5_low_102 (lv_at hl 3 rfl) ?_
            refine m_icmp_le (tgt := 111) hx hb dX5_low_104 (by decide) ⟨by omega, by omega⟩ ⟨by omega, by omega⟩ (fun c104 => ?_) (fun c104 => ?_)
            · refine m_iinc (lv' := [(5, .int (iI (i + 1))), (7, .int (iI (((sx i.toNat) - (ra i.toNat)) - ((sp t.toNat) * (u - (sa i.toNat)))))), (6, .int (iI (u - (sa i.toNat)))), (4, .int (iI x)), (0, .ref (am 0)), (1, .int (iI t)), (2, .int (iI u)), (3, .int (iI bb))]) (k := 2) hx hb dX5_low_111 hl rfl (by decide) rfl (fun ls hl => ?_)
              refine lv_goto (tgt := 9) hx hb dX5_low_114 (by decide) ?_
              exact ih9 (i + 1) x _ _ _ (by omega) (by omega) (by have hv2 : mxF 0 (fun d => cxy bb sx sy (12 * t.toNat + d) - ra (12 * t.toNat + d)) (fun d => sa (12 * t.toNat + d)) (sp t.toNat) (i - 12 * t).toNat u = x := (by omega); rw [show (i + 1 - 12 * t).toNat = (i - 12 * t).toNat + 1 by omega, mxF, hv2, show 12 * t.toNat + (i - 12 * t).toNat = i.toNat by omega]; unfold dst cxy; rw [if_neg (show ¬ u < sa i.toNat by omega), if_neg (by omega)]; omega) ⟨by omega, by omega⟩ (by omega) hG hS (lv_sub hl [0, 3, 4, 5, 6, 7] rfl)
            · refine lv_iload hx hb dX5_low_107 (lv_at hl 0 rfl) ?_
              refine lv_istore (lv' := [(4, .int (iI (((sx i.toNat) - (ra i.toNat)) - ((sp t.toNat) * (u - (sa i.toNat)))))), (7, .int (iI (((sx i.toNat) - (ra i.toNat)) - ((sp t.toNat) * (u - (sa i.toNat)))))), (6, .int (iI (u - (sa i.toNat)))), (5, .int (iI i)), (0, .ref (am 0)), (1, .int (iI t)), (2, .int (iI u)), (3, .int (iI bb))]) hx hb dX5_low_109 hl (by decide) rfl (fun ls hl => ?_)
              refine m_iinc (lv' := [(5, .int (iI (i + 1))), (4, .int (iI (((sx i.toNat) - (ra i.toNat)) - ((sp t.toNat) * (u - (sa i.toNat)))))), (7, .int (iI (((sx i.toNat) - (ra i.toNat)) - ((sp t.toNat) * (u - (sa i.toNat)))))), (6, .int (iI (u - (sa i.toNat)))), (0, .ref (am 0)), (1, .int (iI t)), (2, .int (iI u)), (3, .int (iI bb))]) (k := 3) hx hb dX5_low_111 hl rfl (by decide) rfl (fun ls hl => ?_)
              refine lv_goto (tgt := 9) hx hb dX5_low_114 (by decide) ?_
              exact ih9 (i + 1) (((sx i.toNat) - (ra i.toNat)) - ((sp t.toNat) * (u - (sa i.toNat)))) _ _ _ (by omega) (by omega) (by have hv2 : mxF 0 (fun d => cxy bb sx sy (12 * t.toNat + d) - ra (12 * t.toNat + d)) (fun d => sa (12 * t.toNat + d)) (sp t.toNat) (i - 12 * t).toNat u = x := (by omega); rw [show (i + 1 - 12 * t).toNat = (i - 12 * t).toNat + 1 by omega, mxF, hv2, show 12 * t.toNat + (i - 12 * t).toNat = i.toNat by omega]; unfold dst cxy; rw [if_neg (show ¬ u < sa i.toNat by omega), if_neg (by omega)]; omega) ⟨by omega, by omega⟩ (by omega) hG hS (lv_sub hl [0, 1, 4, 5, 6, 7] rfl)
        · refine lv_aload_n hx hb dX5_low_36 rfl (lv_at hl 2 rfl) ?_
          refine m_get (ci := 5) (v := .ref (am 4)) (C := RX5) (T := TX5) (N := 12) hx hb hts (by decide +kernel) hown K hG m0 rfl 4 (by decide) (by decide +kernel) rfl dX5_low_37 ?_
          refine lv_iload hx hb dX5_low_40 (lv_at hl 0 rfl) ?_
          refine m_iald hx hb hG m4 i.toNat (by omega) (by omega) (by decide) dX5_low_42 ?_
          refine lv_iload_n hx hb dX5_low_43 rfl (lv_at hl 4 rfl) ?_
          refine m_isub hx hb dX5_low_44 ?_
          refine lv_goto (tgt := 57) hx hb dX5_low_45 (by decide) ?_
          refine lv_istore (lv' := [(6, .int (iI ((sa i.toNat) - u))), (5, .int (iI i)), (4, .int (iI x)), (0, .ref (am 0)), (1, .int (iI t)), (2, .int (iI u)), (3, .int (iI bb))]) hx hb dX5_low_57 hl (by decide) rfl (fun ls hl => ?_)
          refine lv_iload_n hx hb dX5_low_59 rfl (lv_at hl 6 rfl) ?_
          refine m_if_eq (tgt := 73) hx hb dX5_low_60 (by decide) ⟨by omega, by omega⟩ (fun c60 => ?_) (fun c60 => ?_)
          · refine lv_aload_n hx hb dX5_low_73 rfl (lv_at hl 3 rfl) ?_
            refine m_get (ci := 5) (v := .ref (am 6)) (C := RX5) (T := TX5) (N := 12) hx hb hts (by decide +kernel) hown K hG m0 rfl 6 (by decide) (by decide +kernel) rfl dX5_low_74 ?_
            refine lv_iload hx hb dX5_low_77 (lv_at hl 1 rfl) ?_
            refine m_iald hx hb hG m6 i.toNat (by omega) (by omega) (by decide) dX5_low_79 ?_
            refine lv_aload_n hx hb dX5_low_80 rfl (lv_at hl 3 rfl) ?_
            refine m_get (ci := 5) (v := .ref (am 7)) (C := RX5) (T := TX5) (N := 12) hx hb hts (by decide +kernel) hown K hG m0 rfl 7 (by decide) (by decide +kernel) rfl dX5_low_81 ?_
            refine lv_iload hx hb dX5_low_84 (lv_at hl 1 rfl) ?_
            refine m_iald hx hb hG m7 i.toNat (by omega) (by omega) (by decide) dX5_low_86 ?_
            refine m_isub hx hb dX5_low_87 ?_
            refine lv_aload_n hx hb dX5_low_88 rfl (lv_at hl 3 rfl) ?_
            refine m_get (ci := 5) (v := .ref (am 1)) (C := RX5) (T := TX5) (N := 12) hx hb hts (by decide +kernel) hown K hG m0 rfl 1 (by decide) (by decide +kernel) rfl dX5_low_89 ?_
            refine lv_iload_n hx hb dX5_low_92 rfl (lv_at hl 4 rfl) ?_
            refine m_iald hx hb hG m1 t.toNat (by omega) (by omega) (by decide) dX5_low_93 ?_
            refine lv_iload hx hb dX5_low_94 (lv_at hl 0 rfl) ?_
            refine m_imul hx hb dX5_low_96 ?_
            refine m_isub hx hb dX5_low_97 ?_
            have hpr := pr_rg (a := sp t.toNat) (c := (sa i.toNat) - u) ⟨hs0, hs1⟩ ⟨by omega, by omega⟩
            refine lv_istore (lv' := [(7, .int (iI (((sy i.toNat) - (ra i.toNat)) - ((sp t.toNat) * ((sa i.toNat) - u))))), (6, .int (iI ((sa i.toNat) - u))), (5, .int (iI i)), (4, .int (iI x)), (0, .ref (am 0)), (1, .int (iI t)), (2, .int (iI u)), (3, .int (iI bb))]) hx hb dX5_low_98 hl (by decide) rfl (fun ls hl => ?_)
            refine lv_iload hx hb dX5_low_100 (lv_at hl 0 rfl) ?_
            refine lv_iload hx hb dX5_low_102 (lv_at hl 3 rfl) ?_
            refine m_icmp_le (tgt := 111) hx hb dX5_low_104 (by decide) ⟨by omega, by omega⟩ ⟨by omega, by omega⟩ (fun c104 => ?_) (fun c104 => ?_)
            · refine m_iinc (lv' := [(5, .int (iI (i + 1))), (7, .int (iI (((sy i.toNat) - (ra i.toNat)) - ((sp t.toNat) * ((sa i.toNat) - u))))), (6, .int (iI ((sa i.toNat) - u))), (4, .int (iI x)), (0, .ref (am 0)), (1, .int (iI t)), (2, .int (iI u)), (3, .int (iI bb))]) (k := 2) hx hb dX5_low_111 hl rfl (by decide) rfl (fun ls hl => ?_)
              refine lv_goto (tgt := 9) hx hb dX5_low_114 (by decide) ?_
              exact ih9 (i + 1) x _ _ _ (by omega) (by omega) (by have hv2 : mxF 0 (fun d => cxy bb sx sy (12 * t.toNat + d) - ra (12 * t.toNat + d)) (fun d => sa (12 * t.toNat + d)) (sp t.toNat) (i - 12 * t).toNat u = x := (by omega); rw [show (i + 1 - 12 * t).toNat = (i - 12 * t).toNat + 1 by omega, mxF, hv2, show 12 * t.toNat + (i - 12 * t).toNat = i.toNat by omega]; unfold dst cxy; rw [if_pos (show u < sa i.toNat by omega), if_pos (by omega)]; omega) ⟨by omega, by omega⟩ (by omega) hG hS (lv_sub hl [0, 3, 4, 5, 6, 7] rfl)
            · refine lv_iload hx hb dX5_low_107 (lv_at hl 0 rfl) ?_
              refine lv_istore (lv' := [(4, .int (iI (((sy i.toNat) - (ra i.toNat)) - ((sp t.toNat) * ((sa i.toNat) - u))))), (7, .int (iI (((sy i.toNat) - (ra i.toNat)) - ((sp t.toNat) * ((sa i.toNat) - u))))), (6, .int (iI ((sa i.toNat) - u))), (5, .int (iI i)), (0, .ref (am 0)), (1, .int (iI t)), (2, .int (iI u)), (3, .int (iI bb))]) hx hb dX5_low_109 hl (by decide) rfl (fun ls hl => ?_)
              refine m_iinc (lv' := [(5, .int (iI (i + 1))), (4, .int (iI (((sy i.toNat) - (ra i.toNat)) - ((sp t.toNat) * ((sa i.toNat) - u))))), (7, .int (iI (((sy i.toNat) - (ra i.toNat)) - ((sp t.toNat) * ((sa i.toNat) - u))))), (6, .int (iI ((sa i.toNat) - u))), (0, .ref (am 0)), (1, .int (iI t)), (2, .int (iI u)), (3, .int (iI bb))]) (k := 3) hx hb dX5_low_111 hl rfl (by decide) rfl (fun ls hl => ?_)
              refine lv_goto (tgt := 9) hx hb dX5_low_114 (by decide) ?_
              exact ih9 (i + 1) (((sy i.toNat) - (ra i.toNat)) - ((sp t.toNat) * ((sa i.toNat) - u))) _ _ _ (by omega) (by omega) (by have hv2 : mxF 0 (fun d => cxy bb sx sy (12 * t.toNat + d) - ra (12 * t.toNat + d)) (fun d => sa (12 * t.toNat + d)) (sp t.toNat) (i - 12 * t).toNat u = x := (by omega); rw [show (i + 1 - 12 * t).toNat = (i - 12 * t).toNat + 1 by omega, mxF, hv2, show 12 * t.toNat + (i - 12 * t).toNat = i.toNat by omega]; unfold dst cxy; rw [if_pos (show u < sa i.toNat by omega), if_pos (by omega)]; omega) ⟨by omega, by omega⟩ (by omega) hG hS (lv_sub hl [0, 1, 4, 5, 6, 7] rfl)
          · refine lv_aload_n hx hb dX5_low_63 rfl (lv_at hl 3 rfl) ?_
            refine m_get (ci := 5) (v := .ref (am 5)) (C := RX5) (T := TX5) (N := 12) hx hb hts (by decide +kernel) hown K hG m0 rfl 5 (by decide) (by decide +kernel) rfl dX5_low_64 ?_
            refine lv_iload hx hb dX5_low_67 (lv_at hl 1 rfl) ?_
            refine m_iald hx hb hG m5 i.toNat (by omega) (by omega) (by decide) dX5_low_69 ?_
            refine lv_goto (tgt := 80) hx hb dX5_low_70 (by decide) ?_
            refine lv_aload_n hx hb dX5_low_80 rfl (lv_at hl 3 rfl) ?_
            refine m_get (ci := 5) (v := .ref (am 7)) (C := RX5) (T := TX5) (N := 12) hx hb hts (by decide +kernel) hown K hG m0 rfl 7 (by decide) (by decide +kernel) rfl dX5_low_81 ?_
            refine lv_iload hx hb dX5_low_84 (lv_at hl 1 rfl) ?_
            refine m_iald hx hb hG m7 i.toNat (by omega) (by omega) (by decide) dX5_low_86 ?_
            refine m_isub hx hb dX5_low_87 ?_
            refine lv_aload_n hx hb dX5_low_88 rfl (lv_at hl 3 rfl) ?_
            refine m_get (ci := 5) (v := .ref (am 1)) (C := RX5) (T := TX5) (N := 12) hx hb hts (by decide +kernel) hown K hG m0 rfl 1 (by decide) (by decide +kernel) rfl dX5_low_89 ?_
            refine lv_iload_n hx hb dX5_low_92 rfl (lv_at hl 4 rfl) ?_
            refine m_iald hx hb hG m1 t.toNat (by omega) (by omega) (by decide) dX5_low_93 ?_
            refine lv_iload hx hb dX5_low_94 (lv_at hl 0 rfl) ?_
            refine m_imul hx hb dX5_low_96 ?_
            refine m_isub hx hb dX5_low_97 ?_
            have hpr := pr_rg (a := sp t.toNat) (c := (sa i.toNat) - u) ⟨hs0, hs1⟩ ⟨by omega, by omega⟩
            refine lv_istore (lv' := [(7, .int (iI (((sx i.toNat) - (ra i.toNat)) - ((sp t.toNat) * ((sa i.toNat) - u))))), (6, .int (iI ((sa i.toNat) - u))), (5, .int (iI i)), (4, .int (iI x)), (0, .ref (am 0)), (1, .int (iI t)), (2, .int (iI u)), (3, .int (iI bb))]) hx hb dX5_low_98 hl (by decide) rfl (fun ls hl => ?_)
            refine lv_iload hx hb dX5_low_100 (lv_at hl 0 rfl) ?_
            refine lv_iload hx hb dX5_low_102 (lv_at hl 3 rfl) ?_
            refine m_icmp_le (tgt := 111) hx hb dX5_low_104 (by decide) ⟨by omega, by omega⟩ ⟨by omega, by omega⟩ (fun c104 => ?_) (fun c104 => ?_)
            · refine m_iinc (lv' := [(5, .int (iI (i + 1))), (7, .int (iI (((sx i.toNat) - (ra i.toNat)) - ((sp t.toNat) * ((sa i.toNat) - u))))), (6, .int (iI ((sa i.toNat) - u))), (4, .int (iI x)), (0, .ref (am 0)), (1, .int (iI t)), (2, .int (iI u)), (3, .int (iI bb))]) (k := 2) hx hb dX5_low_111 hl rfl (by decide) rfl (fun ls hl => ?_)
              refine lv_goto (tgt := 9) hx hb dX5_low_114 (by decide) ?_
              exact ih9 (i + 1) x _ _ _ (by omega) (by omega) (by have hv2 : mxF 0 (fun d => cxy bb sx sy (12 * t.toNat + d) - ra (12 * t.toNat + d)) (fun d => sa (12 * t.toNat + d)) (sp t.toNat) (i - 12 * t).toNat u = x := (by omega); rw [show (i + 1 - 12 * t).toNat = (i - 12 * t).toNat + 1 by omega, mxF, hv2, show 12 * t.toNat + (i - 12 * t).toNat = i.toNat by omega]; unfold dst cxy; rw [if_pos (show u < sa i.toNat by omega), if_neg (by omega)]; omega) ⟨by omega, by omega⟩ (by omega) hG hS (lv_sub hl [0, 3, 4, 5, 6, 7] rfl)
            · refine lv_iload hx hb dX5_low_107 (lv_at hl 0 rfl) ?_
              refine lv_istore (lv' := [(4, .int (iI (((sx i.toNat) - (ra i.toNat)) - ((sp t.toNat) * ((sa i.toNat) - u))))), (7, .int (iI (((sx i.toNat) - (ra i.toNat)) - ((sp t.toNat) * ((sa i.toNat) - u))))), (6, .int (iI ((sa i.toNat) - u))), (5, .int (iI i)), (0, .ref (am 0)), (1, .int (iI t)), (2, .int (iI u)), (3, .int (iI bb))]) hx hb dX5_low_109 hl (by decide) rfl (fun ls hl => ?_)
              refine m_iinc (lv' := [(5, .int (iI (i + 1))), (4, .int (iI (((sx i.toNat) - (ra i.toNat)) - ((sp t.toNat) * ((sa i.toNat) - u))))), (7, .int (iI (((sx i.toNat) - (ra i.toNat)) - ((sp t.toNat) * ((sa i.toNat) - u))))), (6, .int (iI ((sa i.toNat) - u))), (0, .ref (am 0)), (1, .int (iI t)), (2, .int (iI u)), (3, .int (iI bb))]) (k := 3) hx hb dX5_low_111 hl rfl (by decide) rfl (fun ls hl => ?_)
              refine lv_goto (tgt := 9) hx hb dX5_low_114 (by decide) ?_
              exact ih9 (i + 1) (((sx i.toNat) - (ra i.toNat)) - ((sp t.toNat) * ((sa i.toNat) - u))) _ _ _ (by omega) (by omega) (by have hv2 : mxF 0 (fun d => cxy bb sx sy (12 * t.toNat + d) - ra (12 * t.toNat + d)) (fun d => sa (12 * t.toNat + d)) (sp t.toNat) (i - 12 * t).toNat u = x := (by omega); rw [show (i + 1 - 12 * t).toNat = (i - 12 * t).toNat + 1 by omega, mxF, hv2, show 12 * t.toNat + (i - 12 * t).toNat = i.toNat by omega]; unfold dst cxy; rw [if_pos (show u < sa i.toNat by omega), if_neg (by omega)]; omega) ⟨by omega, by omega⟩ (by omega) hG hS (lv_sub hl [0, 1, 4, 5, 6, 7] rfl)
  exact loop9 _ (12 * t) 0 _ _ _ (by omega) (by omega) (by rw [show (12 * t - 12 * t).toNat = 0 by omega, mxF]; try rfl) ⟨by omega, by omega⟩ (Nat.lt_succ_self _) hG hS (lv_sub hl [0, 1, 2, 3, 4, 5] rfl)

set_option maxHeartbeats 4000000 in
set_option maxRecDepth 100000 in
theorem c_X5_high (l : Launch) (D : va_G) (b : Nat) (M : mM) (am : Nat → Nat) (nt ng : Int) (sp nn jj sa sx sy ra : Nat → Int) (gz : Nat → Bool) (va ac : Nat → Int) (hO : MoOk M am nt ng sp nn jj sa sx sy ra gz va ac) (t u bb : Int) (ht0 : 0 ≤ t) (ht1 : t < nt) (hu0 : 0 ≤ u) (hu1 : u < 80) (hbb : bb = 0 ∨ bb = 1) (hn0 : 0 ≤ nn t.toNat) (hn1 : nn t.toNat ≤ 12) (hs0 : 0 ≤ sp t.toNat) (hs1 : sp t.toNat ≤ 7) (hso : mSo (nn t.toNat) sa sx sy ra t.toNat) : Met l yX5_high wsX5_high ({ frames := 0, cells := 0, slots := 0, locals := 0 } : Room) (mPc [.ref (am 0), .int (iI t), .int (iI u), .int (iI bb)] D b M) (mQi D b (fI (hiM bb sp nn sa sx sy ra t.toNat u) M)) 0 0 (mF b) := by
  refine m_met (cc := cX5_high) (maxL := 8) (ret := (some .int)) (by decide) rfl (Nat.le_of_ble_eq_true rfl) ?_
  intro p e s m args below meth c Q ls hx hb hml hr hts hown hlk hnm hQ K hG hS hl
  have hown : s.vm.findClass RX5 = some m.cls := hown
  have hl : lv_has ls 8 [(0, .ref (am 0)), (1, .int (iI t)), (2, .int (iI u)), (3, .int (iI bb))] := hl
  obtain ⟨m0, m1, m2, m3, m4, m5, m6, m7, m8, m9, m10, minj, ⟨b1, b2, b3, b4⟩⟩ := id hO
  refine lv_bipush (v := iI 63) hx hb dX5_high_0 (by decide) ?_
  refine lv_istore (lv' := [(4, .int (iI 63)), (0, .ref (am 0)), (1, .int (iI t)), (2, .int (iI u)), (3, .int (iI bb))]) hx hb dX5_high_2 hl (by decide) rfl (fun ls hl => ?_)
  refine lv_bipush (v := iI 12) hx hb dX5_high_4 (by decide) ?_
  refine lv_iload_n hx hb dX5_high_6 rfl (lv_at hl 2 rfl) ?_
  refine m_imul hx hb dX5_high_7 ?_
  refine lv_istore (lv' := [(5, .int (iI (12 * t))), (4, .int (iI 63)), (0, .ref (am 0)), (1, .int (iI t)), (2, .int (iI u)), (3, .int (iI bb))]) hx hb dX5_high_8 hl (by decide) rfl (fun ls hl => ?_)
  have loop10 : ∀ (fuel : Nat) (i : Int) (x : Int) (H : Heap) (locs : List Loc) (ls : Array Slot), (12 * t ≤ i) → (i ≤ 12 * t + nn t.toNat) → (x = - mxF (-63) (fun d => -(cxy bb sx sy (12 * t.toNat + d) + ra (12 * t.toNat + d))) (fun d => sa (12 * t.toNat + d)) (sp t.toNat) (i - 12 * t).toNat u) → (-63 ≤ x ∧ x ≤ 63) → (12 * t + nn t.toNat - i).toNat < fuel → mG D b M s H → va_S (mF b) s.heap H locs → lv_has ls 8 [(5, .int (iI i)), (4, .int (iI x)), (0, .ref (am 0)), (1, .int (iI t)), (2, .int (iI u)), (3, .int (iI bb))] → W p l e ({ frames := 0, cells := 0, slots := 0, locals := 0 } : Room) s m args below meth c H locs 0 0 Q (F0 m 10 ls []) := by
    intro fuel
    induction fuel with
    | zero => intro i x H locs ls hi0 hi1 hv hxr hm; exact absurd hm (Nat.not_lt_zero _)
    | succ fuel ih10 =>
      intro i x H locs ls hi0 hi1 hv hxr hm hG hS hl
      refine lv_iload hx hb dX5_high_10 (lv_at hl 0 rfl) ?_
      refine lv_bipush (v := iI 12) hx hb dX5_high_12 (by decide) ?_
      refine lv_iload_n hx hb dX5_high_14 rfl (lv_at hl 3 rfl) ?_
      refine m_imul hx hb dX5_high_15 ?_
      refine lv_aload_n hx hb dX5_high_16 rfl (lv_at hl 2 rfl) ?_
      refine m_get (ci := 5) (v := .ref (am 2)) (C := RX5) (T := TX5) (N := 12) hx hb hts (by decide +kernel) hown K hG m0 rfl 2 (by decide) (by decide +kernel) rfl dX5_high_17 ?_
      refine lv_iload_n hx hb dX5_high_20 rfl (lv_at hl 3 rfl) ?_
      refine m_iald hx hb hG m2 t.toNat (by omega) (by omega) (by decide) dX5_high_21 ?_
      refine m_iadd hx hb dX5_high_22 ?_
      refine m_icmp_ge (tgt := 118) hx hb dX5_high_23 (by decide) ⟨by omega, by omega⟩ ⟨by omega, by omega⟩ (fun c23 => ?_) (fun c23 => ?_)
      · refine lv_iload hx hb dX5_high_118 (lv_at hl 1 rfl) ?_
        exact m_iret hx hb hr hlk hQ hG hS (Nat.le_of_ble_eq_true rfl) (Nat.le_of_ble_eq_true rfl) dX5_high_120 ⟨congrArg iI (by unfold hiM; rw [hv, show (i - 12 * t).toNat = (nn t.toNat).toNat by omega]), rfl⟩
      · have so := hso (i - 12 * t).toNat (by omega)
        rw [show 12 * t.toNat + (i - 12 * t).toNat = i.toNat by omega] at so
        obtain ⟨⟨so1, so2⟩, ⟨so3, so4⟩, ⟨so5, so6⟩, so7, so8⟩ := so
        refine lv_iload_n hx hb dX5_high_26 rfl (lv_at hl 4 rfl) ?_
        refine lv_aload_n hx hb dX5_high_27 rfl (lv_at hl 2 rfl) ?_
        refine m_get (ci := 5) (v := .ref (am 4)) (C := RX5) (T := TX5) (N := 12) hx hb hts (by decide +kernel) hown K hG m0 rfl 4 (by decide) (by decide +kernel) rfl dX5_high_28 ?_
        refine lv_iload hx hb dX5_high_31 (lv_at hl 0 rfl) ?_
        refine m_iald hx hb hG m4 i.toNat (by omega) (by omega) (by decide) dX5_high_33 ?_
        refine m_icmp_ge (tgt := 49) hx hb dX5_high_34 (by decide) ⟨by omega, by omega⟩ ⟨by omega, by omega⟩ (fun c34 => ?_) (fun c34 => ?_)
        · refine lv_iload_n hx hb dX5_high_49 rfl (lv_at hl 4 rfl) ?_
          refine lv_aload_n hx hb dX5_high_50 rfl (lv_at hl 2 rfl) ?_
          refine m_get (ci := 5) (v := .ref (am 4)) (C := RX5) (T := TX5) (N := 12) hx hb hts (by decide +kernel) hown K hG m0 rfl 4 (by decide) (by decide +kernel) rfl dX5_high_51 ?_
          refine lv_iload hx hb dX5_high_54 (lv_at hl 0 rfl) ?_
          refine m_iald hx hb hG m4 i.toNat (by omega) (by omega) (by decide) dX5_high_56 ?_
          refine m_isub hx hb dX5_high_57 ?_
          refine lv_istore (lv' := [(6, .int (iI (u - (sa i.toNat)))), (5, .int (iI i)), (4, .int (iI x)), (0, .ref (am 0)), (1, .int (iI t)), (2, .int (iI u)), (3, .int (iI bb))]) hx hb dX5_high_58 hl (by decide) rfl (fun ls hl => ?_)
          refine lv_iload_n hx hb dX5_high_60 rfl (lv_at hl 6 rfl) ?_
          refine m_if_eq (tgt := 74) hx hb dX5_high_61 (by decide) ⟨by omega, by omega⟩ (fun c61 => ?_) (fun c61 => ?_)
          · refine lv_aload_n hx hb dX5_high_74 rfl (lv_at hl 3 rfl) ?_
            refine m_get (ci := 5) (v := .ref (am 6)) (C := RX5) (T := TX5) (N := 12) hx hb hts (by decide +kernel) hown K hG m0 rfl 6 (by decide) (by decide +kernel) rfl dX5_high_75 ?_
            refine lv_iload hx hb dX5_high_78 (lv_at hl 1 rfl) ?_
            refine m_iald hx hb hG m6 i.toNat (by omega) (by omega) (by decide) dX5_high_80 ?_
            refine lv_aload_n hx hb dX5_high_81 rfl (lv_at hl 3 rfl) ?_
            refine m_get (ci := 5) (v := .ref (am 7)) (C := RX5) (T := TX5) (N := 12) hx hb hts (by decide +kernel) hown K hG m0 rfl 7 (by decide) (by decide +kernel) rfl dX5_high_82 ?_
            refine lv_iload hx hb dX5_high_85 (lv_at hl 1 rfl) ?_
            refine m_iald hx hb hG m7 i.toNat (by omega) (by omega) (by decide) dX5_high_87 ?_
            refine m_iadd hx hb dX5_high_88 ?_
            refine lv_aload_n hx hb dX5_high_89 rfl (lv_at hl 3 rfl) ?_
            refine m_get (ci := 5) (v := .ref (am 1)) (C := RX5) (T := TX5) (N := 12) hx hb hts (by decide +kernel) hown K hG m0 rfl 1 (by decide) (by decide +kernel) rfl dX5_high_90 ?_
            refine lv_iload_n hx hb dX5_high_93 rfl (lv_at hl 4 rfl) ?_
            refine m_iald hx hb hG m1 t.toNat (by omega) (by omega) (by decide) dX5_high_94 ?_
            refine lv_iload hx hb dX5_high_95 (lv_at hl 0 rfl) ?_
            refine m_imul hx hb dX5_high_97 ?_
            refine m_iadd hx hb dX5_high_98 ?_
            have hpr := pr_rg (a := sp t.toNat) (c := u - (sa i.toNat)) ⟨hs0, hs1⟩ ⟨by omega, by omega⟩
            refine lv_istore (lv' := [(7, .int (iI (((sy i.toNat) + (ra i.toNat)) + ((sp t.toNat) * (u - (sa i.toNat)))))), (6, .int (iI (u - (sa i.toNat)))), (5, .int (iI i)), (4, .int (iI x)), (0, .ref (am 0)), (1, .int (iI t)), (2, .int (iI u)), (3, .int (iI bb))]) hx hb dX5_high_99 hl (by decide) rfl (fun ls hl => ?_)
            refine lv_iload hx hb dX5_high_101 (lv_at hl 0 rfl) ?_
            refine lv_iload hx hb dX5_high_103 (lv_at hl 3 rfl) ?_
            refine m_icmp_ge (tgt := 112) hx hb dX5_high_105 (by decide) ⟨by omega, by omega⟩ ⟨by omega, by omega⟩ (fun c105 => ?_) (fun c105 => ?_)
            · refine m_iinc (lv' := [(5, .int (iI (i + 1))), (7, .int (iI (((sy i.toNat) + (ra i.toNat)) + ((sp t.toNat) * (u - (sa i.toNat)))))), (6, .int (iI (u - (sa i.toNat)))), (4, .int (iI x)), (0, .ref (am 0)), (1, .int (iI t)), (2, .int (iI u)), (3, .int (iI bb))]) (k := 2) hx hb dX5_high_112 hl rfl (by decide) rfl (fun ls hl => ?_)
              refine lv_goto (tgt := 10) hx hb dX5_high_115 (by decide) ?_
              exact ih10 (i + 1) x _ _ _ (by omega) (by omega) (by have hv2 : mxF (-63) (fun d => -(cxy bb sx sy (12 * t.toNat + d) + ra (12 * t.toNat + d))) (fun d => sa (12 * t.toNat + d)) (sp t.toNat) (i - 12 * t).toNat u = -x := (by omega); rw [show (i + 1 - 12 * t).toNat = (i - 12 * t).toNat + 1 by omega, mxF, hv2, show 12 * t.toNat + (i - 12 * t).toNat = i.toNat by omega]; unfold dst cxy; rw [if_neg (show ¬ u < sa i.toNat by omega), if_pos (by omega)]; omega) ⟨by omega, by omega⟩ (by omega) hG hS (lv_sub hl [0, 3, 4, 5, 6, 7] rfl)
            · refine lv_iload hx hb dX5_high_108 (lv_at hl 0 rfl) ?_
              refine lv_istore (lv' := [(4, .int (iI (((sy i.toNat) + (ra i.toNat)) + ((sp t.toNat) * (u - (sa i.toNat)))))), (7, .int (iI (((sy i.toNat) + (ra i.toNat)) + ((sp t.toNat) * (u - (sa i.toNat)))))), (6, .int (iI (u - (sa i.toNat)))), (5, .int (iI i)), (0, .ref (am 0)), (1, .int (iI t)), (2, .int (iI u)), (3, .int (iI bb))]) hx hb dX5_high_110 hl (by decide) rfl (fun ls hl => ?_)
              refine m_iinc (lv' := [(5, .int (iI (i + 1))), (4, .int (iI (((sy i.toNat) + (ra i.toNat)) + ((sp t.toNat) * (u - (sa i.toNat)))))), (7, .int (iI (((sy i.toNat) + (ra i.toNat)) + ((sp t.toNat) * (u - (sa i.toNat)))))), (6, .int (iI (u - (sa i.toNat)))), (0, .ref (am 0)), (1, .int (iI t)), (2, .int (iI u)), (3, .int (iI bb))]) (k := 3) hx hb dX5_high_112 hl rfl (by decide) rfl (fun ls hl => ?_)
              refine lv_goto (tgt := 10) hx hb dX5_high_115 (by decide) ?_
              exact ih10 (i + 1) (((sy i.toNat) + (ra i.toNat)) + ((sp t.toNat) * (u - (sa i.toNat)))) _ _ _ (by omega) (by omega) (by have hv2 : mxF (-63) (fun d => -(cxy bb sx sy (12 * t.toNat + d) + ra (12 * t.toNat + d))) (fun d => sa (12 * t.toNat + d)) (sp t.toNat) (i - 12 * t).toNat u = -x := (by omega); rw [show (i + 1 - 12 * t).toNat = (i - 12 * t).toNat + 1 by omega, mxF, hv2, show 12 * t.toNat + (i - 12 * t).toNat = i.toNat by omega]; unfold dst cxy; rw [if_neg (show ¬ u < sa i.toNat by omega), if_pos (by omega)]; omega) ⟨by omega, by omega⟩ (by omega) hG hS (lv_sub hl [0, 1, 4, 5, 6, 7] rfl)
          · refine lv_aload_n hx hb dX5_high_64 rfl (lv_at hl 3 rfl) ?_
            refine m_get (ci := 5) (v := .ref (am 5)) (C := RX5) (T := TX5) (N := 12) hx hb hts (by decide +kernel) hown K hG m0 rfl 5 (by decide) (by decide +kernel) rfl dX5_high_65 ?_
            refine lv_iload hx hb dX5_high_68 (lv_at hl 1 rfl) ?_
            refine m_iald hx hb hG m5 i.toNat (by omega) (by omega) (by decide) dX5_high_70 ?_
            refine lv_goto (tgt := 81) hx hb dX5_high_71 (by decide) ?_
            refine lv_aload_n hx hb dX5_high_81 rfl (lv_at hl 3 rfl) ?_
            refine m_get (ci := 5) (v := .ref (am 7)) (C := RX5) (T := TX5) (N := 12) hx hb hts (by decide +kernel) hown K hG m0 rfl 7 (by decide) (by decide +kernel) rfl dX5_high_82 ?_
            refine lv_iload hx hb dX5_high_85 (lv_at hl 1 rfl) ?_
            refine m_iald hx hb hG m7 i.toNat (by omega) (by omega) (by decide) dX5_high_87 ?_
            refine m_iadd hx hb dX5_high_88 ?_
            refine lv_aload_n hx hb dX5_high_89 rfl (lv_at hl 3 rfl) ?_
            refine m_get (ci := 5) (v := .ref (am 1)) (C := RX5) (T := TX5) (N := 12) hx hb hts (by decide +kernel) hown K hG m0 rfl 1 (by decide) (by decide +kernel) rfl dX5_high_90 ?_
            refine lv_iload_n hx hb dX5_high_93 rfl (lv_at hl 4 rfl) ?_
            refine m_iald hx hb hG m1 t.toNat (by omega) (by omega) (by decide) dX5_high_94 ?_
            refine lv_iload hx hb dX5_high_95 (lv_at hl 0 rfl) ?_
            refine m_imul hx hb dX5_high_97 ?_
            refine m_iadd hx hb dX5_high_98 ?_
            have hpr := pr_rg (a := sp t.toNat) (c := u - (sa i.toNat)) ⟨hs0, hs1⟩ ⟨by omega, by omega⟩
            refine lv_istore (lv' := [(7, .int (iI (((sx i.toNat) + (ra i.toNat)) + ((sp t.toNat) * (u - (sa i.toNat)))))), (6, .int (iI (u - (sa i.toNat)))), (5, .int (iI i)), (4, .int (iI x)), (0, .ref (am 0)), (1, .int (iI t)), (2, .int (iI u)), (3, .int (iI bb))]) hx hb dX5_high_99 hl (by decide) rfl (fun ls hl => ?_)
            refine lv_iload hx hb dX5_high_101 (lv_at hl 0 rfl) ?_
            refine lv_iload hx hb dX5_high_103 (lv_at hl 3 rfl) ?_
            refine m_icmp_ge (tgt := 112) hx hb dX5_high_105 (by decide) ⟨by omega, by omega⟩ ⟨by omega, by omega⟩ (fun c105 => ?_) (fun c105 => ?_)
            · refine m_iinc (lv' := [(5, .int (iI (i + 1))), (7, .int (iI (((sx i.toNat) + (ra i.toNat)) + ((sp t.toNat) * (u - (sa i.toNat)))))), (6, .int (iI (u - (sa i.toNat)))), (4, .int (iI x)), (0, .ref (am 0)), (1, .int (iI t)), (2, .int (iI u)), (3, .int (iI bb))]) (k := 2) hx hb dX5_high_112 hl rfl (by decide) rfl (fun ls hl => ?_)
              refine lv_goto (tgt := 10) hx hb dX5_high_115 (by decide) ?_
              exact ih10 (i + 1) x _ _ _ (by omega) (by omega) (by have hv2 : mxF (-63) (fun d => -(cxy bb sx sy (12 * t.toNat + d) + ra (12 * t.toNat + d))) (fun d => sa (12 * t.toNat + d)) (sp t.toNat) (i - 12 * t).toNat u = -x := (by omega); rw [show (i + 1 - 12 * t).toNat = (i - 12 * t).toNat + 1 by omega, mxF, hv2, show 12 * t.toNat + (i - 12 * t).toNat = i.toNat by omega]; unfold dst cxy; rw [if_neg (show ¬ u < sa i.toNat by omega), if_neg (by omega)]; omega) ⟨by omega, by omega⟩ (by omega) hG hS (lv_sub hl [0, 3, 4, 5, 6, 7] rfl)
            · refine lv_iload hx hb dX5_high_108 (lv_at hl 0 rfl) ?_
              refine lv_istore (lv' := [(4, .int (iI (((sx i.toNat) + (ra i.toNat)) + ((sp t.toNat) * (u - (sa i.toNat)))))), (7, .int (iI (((sx i.toNat) + (ra i.toNat)) + ((sp t.toNat) * (u - (sa i.toNat)))))), (6, .int (iI (u - (sa i.toNat)))), (5, .int (iI i)), (0, .ref (am 0)), (1, .int (iI t)), (2, .int (iI u)), (3, .int (iI bb))]) hx hb dX5_high_110 hl (by decide) rfl (fun ls hl => ?_)
              refine m_iinc (lv' := [(5, .int (iI (i + 1))), (4, .int (iI (((sx i.toNat) + (ra i.toNat)) + ((sp t.toNat) * (u - (sa i.toNat)))))), (7, .int (iI (((sx i.toNat) + (ra i.toNat)) + ((sp t.toNat) * (u - (sa i.toNat)))))), (6, .int (iI (u - (sa i.toNat)))), (0, .ref (am 0)), (1, .int (iI t)), (2, .int (iI u)), (3, .int (iI bb))]) (k := 3) hx hb dX5_high_112 hl rfl (by decide) rfl (fun ls hl => ?_)
              refine lv_goto (tgt := 10) hx hb dX5_high_115 (by decide) ?_
              exact ih10 (i + 1) (((sx i.toNat) + (ra i.toNat)) + ((sp t.toNat) * (u - (sa i.toNat)))) _ _ _ (by omega) (by omega) (by have hv2 : mxF (-63) (fun d => -(cxy bb sx sy (12 * t.toNat + d) + ra (12 * t.toNat + d))) (fun d => sa (12 * t.toNat + d)) (sp t.toNat) (i - 12 * t).toNat u = -x := (by omega); rw [show (i + 1 - 12 * t).toNat = (i - 12 * t).toNat + 1 by omega, mxF, hv2, show 12 * t.toNat + (i - 12 * t).toNat = i.toNat by omega]; unfold dst cxy; rw [if_neg (show ¬ u < sa i.toNat by omega), if_neg (by omega)]; omega) ⟨by omega, by omega⟩ (by omega) hG hS (lv_sub hl [0, 1, 4, 5, 6, 7] rfl)
        · refine lv_aload_n hx hb dX5_high_37 rfl (lv_at hl 2 rfl) ?_
          refine m_get (ci := 5) (v := .ref (am 4)) (C := RX5) (T := TX5) (N := 12) hx hb hts (by decide +kernel) hown K hG m0 rfl 4 (by decide) (by decide +kernel) rfl dX5_high_38 ?_
          refine lv_iload hx hb dX5_high_41 (lv_at hl 0 rfl) ?_
          refine m_iald hx hb hG m4 i.toNat (by omega) (by omega) (by decide) dX5_high_43 ?_
          refine lv_iload_n hx hb dX5_high_44 rfl (lv_at hl 4 rfl) ?_
          refine m_isub hx hb dX5_high_45 ?_
          refine lv_goto (tgt := 58) hx hb dX5_high_46 (by decide) ?_
          refine lv_istore (lv' := [(6, .int (iI ((sa i.toNat) - u))), (5, .int (iI i)), (4, .int (iI x)), (0, .ref (am 0)), (1, .int (iI t)), (2, .int (iI u)), (3, .int (iI bb))]) hx hb dX5_high_58 hl (by decide) rfl (fun ls hl => ?_)
          refine lv_iload_n hx hb dX5_high_60 rfl (lv_at hl 6 rfl) ?_
          refine m_if_eq (tgt := 74) hx hb dX5_high_61 (by decide) ⟨by omega, by omega⟩ (fun c61 => ?_) (fun c61 => ?_)
          · refine lv_aload_n hx hb dX5_high_74 rfl (lv_at hl 3 rfl) ?_
            refine m_get (ci := 5) (v := .ref (am 6)) (C := RX5) (T := TX5) (N := 12) hx hb hts (by decide +kernel) hown K hG m0 rfl 6 (by decide) (by decide +kernel) rfl dX5_high_75 ?_
            refine lv_iload hx hb dX5_high_78 (lv_at hl 1 rfl) ?_
            refine m_iald hx hb hG m6 i.toNat (by omega) (by omega) (by decide) dX5_high_80 ?_
            refine lv_aload_n hx hb dX5_high_81 rfl (lv_at hl 3 rfl) ?_
            refine m_get (ci := 5) (v := .ref (am 7)) (C := RX5) (T := TX5) (N := 12) hx hb hts (by decide +kernel) hown K hG m0 rfl 7 (by decide) (by decide +kernel) rfl dX5_high_82 ?_
            refine lv_iload hx hb dX5_high_85 (lv_at hl 1 rfl) ?_
            refine m_iald hx hb hG m7 i.toNat (by omega) (by omega) (by decide) dX5_high_87 ?_
            refine m_iadd hx hb dX5_high_88 ?_
            refine lv_aload_n hx hb dX5_high_89 rfl (lv_at hl 3 rfl) ?_
            refine m_get (ci := 5) (v := .ref (am 1)) (C := RX5) (T := TX5) (N := 12) hx hb hts (by decide +kernel) hown K hG m0 rfl 1 (by decide) (by decide +kernel) rfl dX5_high_90 ?_
            refine lv_iload_n hx hb dX5_high_93 rfl (lv_at hl 4 rfl) ?_
            refine m_iald hx hb hG m1 t.toNat (by omega) (by omega) (by decide) dX5_high_94 ?_
            refine lv_iload hx hb dX5_high_95 (lv_at hl 0 rfl) ?_
            refine m_imul hx hb dX5_high_97 ?_
            refine m_iadd hx hb dX5_high_98 ?_
            have hpr := pr_rg (a := sp t.toNat) (c := (sa i.toNat) - u) ⟨hs0, hs1⟩ ⟨by omega, by omega⟩
            refine lv_istore (lv' := [(7, .int (iI (((sy i.toNat) + (ra i.toNat)) + ((sp t.toNat) * ((sa i.toNat) - u))))), (6, .int (iI ((sa i.toNat) - u))), (5, .int (iI i)), (4, .int (iI x)), (0, .ref (am 0)), (1, .int (iI t)), (2, .int (iI u)), (3, .int (iI bb))]) hx hb dX5_high_99 hl (by decide) rfl (fun ls hl => ?_)
            refine lv_iload hx hb dX5_high_101 (lv_at hl 0 rfl) ?_
            refine lv_iload hx hb dX5_high_103 (lv_at hl 3 rfl) ?_
            refine m_icmp_ge (tgt := 112) hx hb dX5_high_105 (by decide) ⟨by omega, by omega⟩ ⟨by omega, by omega⟩ (fun c105 => ?_) (fun c105 => ?_)
            · refine m_iinc (lv' := [(5, .int (iI (i + 1))), (7, .int (iI (((sy i.toNat) + (ra i.toNat)) + ((sp t.toNat) * ((sa i.toNat) - u))))), (6, .int (iI ((sa i.toNat) - u))), (4, .int (iI x)), (0, .ref (am 0)), (1, .int (iI t)), (2, .int (iI u)), (3, .int (iI bb))]) (k := 2) hx hb dX5_high_112 hl rfl (by decide) rfl (fun ls hl => ?_)
              refine lv_goto (tgt := 10) hx hb dX5_high_115 (by decide) ?_
              exact ih10 (i + 1) x _ _ _ (by omega) (by omega) (by have hv2 : mxF (-63) (fun d => -(cxy bb sx sy (12 * t.toNat + d) + ra (12 * t.toNat + d))) (fun d => sa (12 * t.toNat + d)) (sp t.toNat) (i - 12 * t).toNat u = -x := (by omega); rw [show (i + 1 - 12 * t).toNat = (i - 12 * t).toNat + 1 by omega, mxF, hv2, show 12 * t.toNat + (i - 12 * t).toNat = i.toNat by omega]; unfold dst cxy; rw [if_pos (show u < sa i.toNat by omega), if_pos (by omega)]; omega) ⟨by omega, by omega⟩ (by omega) hG hS (lv_sub hl [0, 3, 4, 5, 6, 7] rfl)
            · refine lv_iload hx hb dX5_high_108 (lv_at hl 0 rfl) ?_
              refine lv_istore (lv' := [(4, .int (iI (((sy i.toNat) + (ra i.toNat)) + ((sp t.toNat) * ((sa i.toNat) - u))))), (7, .int (iI (((sy i.toNat) + (ra i.toNat)) + ((sp t.toNat) * ((sa i.toNat) - u))))), (6, .int (iI ((sa i.toNat) - u))), (5, .int (iI i)), (0, .ref (am 0)), (1, .int (iI t)), (2, .int (iI u)), (3, .int (iI bb))]) hx hb dX5_high_110 hl (by decide) rfl (fun ls hl => ?_)
              refine m_iinc (lv' := [(5, .int (iI (i + 1))), (4, .int (iI (((sy i.toNat) + (ra i.toNat)) + ((sp t.toNat) * ((sa i.toNat) - u))))), (7, .int (iI (((sy i.toNat) + (ra i.toNat)) + ((sp t.toNat) * ((sa i.toNat) - u))))), (6, .int (iI ((sa i.toNat) - u))), (0, .ref (am 0)), (1, .int (iI t)), (2, .int (iI u)), (3, .int (iI bb))]) (k := 3) hx hb dX5_high_112 hl rfl (by decide) rfl (fun ls hl => ?_)
              refine lv_goto (tgt := 10) hx hb dX5_high_115 (by decide) ?_
              exact ih10 (i + 1) (((sy i.toNat) + (ra i.toNat)) + ((sp t.toNat) * ((sa i.toNat) - u))) _ _ _ (by omega) (by omega) (by have hv2 : mxF (-63) (fun d => -(cxy bb sx sy (12 * t.toNat + d) + ra (12 * t.toNat + d))) (fun d => sa (12 * t.toNat + d)) (sp t.toNat) (i - 12 * t).toNat u = -x := (by omega); rw [show (i + 1 - 12 * t).toNat = (i - 12 * t).toNat + 1 by omega, mxF, hv2, show 12 * t.toNat + (i - 12 * t).toNat = i.toNat by omega]; unfold dst cxy; rw [if_pos (show u < sa i.toNat by omega), if_pos (by omega)]; omega) ⟨by omega, by omega⟩ (by omega) hG hS (lv_sub hl [0, 1, 4, 5, 6, 7] rfl)
          · refine lv_aload_n hx hb dX5_high_64 rfl (lv_at hl 3 rfl) ?_
            refine m_get (ci := 5) (v := .ref (am 5)) (C := RX5) (T := TX5) (N := 12) hx hb hts (by decide +kernel) hown K hG m0 rfl 5 (by decide) (by decide +kernel) rfl dX5_high_65 ?_
            refine lv_iload hx hb dX5_high_68 (lv_at hl 1 rfl) ?_
            refine m_iald hx hb hG m5 i.toNat (by omega) (by omega) (by decide) dX5_high_70 ?_
            refine lv_goto (tgt := 81) hx hb dX5_high_71 (by decide) ?_
            refine lv_aload_n hx hb dX5_high_81 rfl (lv_at hl 3 rfl) ?_
            refine m_get (ci := 5) (v := .ref (am 7)) (C := RX5) (T := TX5) (N := 12) hx hb hts (by decide +kernel) hown K hG m0 rfl 7 (by decide) (by decide +kernel) rfl dX5_high_82 ?_
            refine lv_iload hx hb dX5_high_85 (lv_at hl 1 rfl) ?_
            refine m_iald hx hb hG m7 i.toNat (by omega) (by omega) (by decide) dX5_high_87 ?_
            refine m_iadd hx hb dX5_high_88 ?_
            refine lv_aload_n hx hb dX5_high_89 rfl (lv_at hl 3 rfl) ?_
            refine m_get (ci := 5) (v := .ref (am 1)) (C := RX5) (T := TX5) (N := 12) hx hb hts (by decide +kernel) hown K hG m0 rfl 1 (by decide) (by decide +kernel) rfl dX5_high_90 ?_
            refine lv_iload_n hx hb dX5_high_93 rfl (lv_at hl 4 rfl) ?_
            refine m_iald hx hb hG m1 t.toNat (by omega) (by omega) (by decide) dX5_high_94 ?_
            refine lv_iload hx hb dX5_high_95 (lv_at hl 0 rfl) ?_
            refine m_imul hx hb dX5_high_97 ?_
            refine m_iadd hx hb dX5_high_98 ?_
            have hpr := pr_rg (a := sp t.toNat) (c := (sa i.toNat) - u) ⟨hs0, hs1⟩ ⟨by omega, by omega⟩
            refine lv_istore (lv' := [(7, .int (iI (((sx i.toNat) + (ra i.toNat)) + ((sp t.toNat) * ((sa i.toNat) - u))))), (6, .int (iI ((sa i.toNat) - u))), (5, .int (iI i)), (4, .int (iI x)), (0, .ref (am 0)), (1, .int (iI t)), (2, .int (iI u)), (3, .int (iI bb))]) hx hb dX5_high_99 hl (by decide) rfl (fun ls hl => ?_)
            refine lv_iload hx hb dX5_high_101 (lv_at hl 0 rfl) ?_
            refine lv_iload hx hb dX5_high_103 (lv_at hl 3 rfl) ?_
            refine m_icmp_ge (tgt := 112) hx hb dX5_high_105 (by decide) ⟨by omega, by omega⟩ ⟨by omega, by omega⟩ (fun c105 => ?_) (fun c105 => ?_)
            · refine m_iinc (lv' := [(5, .int (iI (i + 1))), (7, .int (iI (((sx i.toNat) + (ra i.toNat)) + ((sp t.toNat) * ((sa i.toNat) - u))))), (6, .int (iI ((sa i.toNat) - u))), (4, .int (iI x)), (0, .ref (am 0)), (1, .int (iI t)), (2, .int (iI u)), (3, .int (iI bb))]) (k := 2) hx hb dX5_high_112 hl rfl (by decide) rfl (fun ls hl => ?_)
              refine lv_goto (tgt := 10) hx hb dX5_high_115 (by decide) ?_
              exact ih10 (i + 1) x _ _ _ (by omega) (by omega) (by have hv2 : mxF (-63) (fun d => -(cxy bb sx sy (12 * t.toNat + d) + ra (12 * t.toNat + d))) (fun d => sa (12 * t.toNat + d)) (sp t.toNat) (i - 12 * t).toNat u = -x := (by omega); rw [show (i + 1 - 12 * t).toNat = (i - 12 * t).toNat + 1 by omega, mxF, hv2, show 12 * t.toNat + (i - 12 * t).toNat = i.toNat by omega]; unfold dst cxy; rw [if_pos (show u < sa i.toNat by omega), if_neg (by omega)]; omega) ⟨by omega, by omega⟩ (by omega) hG hS (lv_sub hl [0, 3, 4, 5, 6, 7] rfl)
            · refine lv_iload hx hb dX5_high_108 (lv_at hl 0 rfl) ?_
              refine lv_istore (lv' := [(4, .int (iI (((sx i.toNat) + (ra i.toNat)) + ((sp t.toNat) * ((sa i.toNat) - u))))), (7, .int (iI (((sx i.toNat) + (ra i.toNat)) + ((sp t.toNat) * ((sa i.toNat) - u))))), (6, .int (iI ((sa i.toNat) - u))), (5, .int (iI i)), (0, .ref (am 0)), (1, .int (iI t)), (2, .int (iI u)), (3, .int (iI bb))]) hx hb dX5_high_110 hl (by decide) rfl (fun ls hl => ?_)
              refine m_iinc (lv' := [(5, .int (iI (i + 1))), (4, .int (iI (((sx i.toNat) + (ra i.toNat)) + ((sp t.toNat) * ((sa i.toNat) - u))))), (7, .int (iI (((sx i.toNat) + (ra i.toNat)) + ((sp t.toNat) * ((sa i.toNat) - u))))), (6, .int (iI ((sa i.toNat) - u))), (0, .ref (am 0)), (1, .int (iI t)), (2, .int (iI u)), (3, .int (iI bb))]) (k := 3) hx hb dX5_high_112 hl rfl (by decide) rfl (fun ls hl => ?_)
              refine lv_goto (tgt := 10) hx hb dX5_high_115 (by decide) ?_
              exact ih10 (i + 1) (((sx i.toNat) + (ra i.toNat)) + ((sp t.toNat) * ((sa i.toNat) - u))) _ _ _ (by omega) (by omega) (by have hv2 : mxF (-63) (fun d => -(cxy bb sx sy (12 * t.toNat + d) + ra (12 * t.toNat + d))) (fun d => sa (12 * t.toNat + d)) (sp t.toNat) (i - 12 * t).toNat u = -x := (by omega); rw [show (i + 1 - 12 * t).toNat = (i - 12 * t).toNat + 1 by omega, mxF, hv2, show 12 * t.toNat + (i - 12 * t).toNat = i.toNat by omega]; unfold dst cxy; rw [if_pos (show u < sa i.toNat by omega), if_neg (by omega)]; omega) ⟨by omega, by omega⟩ (by omega) hG hS (lv_sub hl [0, 1, 4, 5, 6, 7] rfl)
  exact loop10 _ (12 * t) 63 _ _ _ (by omega) (by omega) (by rw [show (12 * t - 12 * t).toNat = 0 by omega, mxF]; try rfl) ⟨by omega, by omega⟩ (Nat.lt_succ_self _) hG hS (lv_sub hl [0, 1, 2, 3, 4, 5] rfl)

