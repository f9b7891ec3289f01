set_option maxHeartbeats 4000000 in
set_option maxRecDepth 100000 in
theorem c_X4_thing (l : Launch) (D : va_G) (b : Nat) (M : mM) (ad : Nat → Nat → Nat → Nat) (nt ng : Int) (sp nn jj : Nat → Int) (vt vw vr : Nat → Nat → Int) (G : Nat → Nat → Nat → Bool) (hO : OvOk M ad nt ng sp nn jj vt vw vr G) (tg : Nat → Nat × Nat × Nat) (hTg : Tg tg ad nt ng) (t : Int) (hrt : rg t) : Met l yX4_thing wsX4_thing ({ frames := 3, cells := 85, slots := 443, locals := 58 } : Room) (mPc [.ref (ad 8 0 0), .int (iI t)] D b M) (mQi D b (fun r M1 => (¬ ((0 ≤ t ∧ t ≤ 7) ∧ nt < 6) ∧ r = iI (-1) ∧ M1 = M) ∨ (((0 ≤ t ∧ t ≤ 7) ∧ nt < 6) ∧ r = iI nt ∧ ∃ (ad2 : Nat → Nat → Nat → Nat) (tg2 : Nat → Nat × Nat × Nat), OvOk M1 ad2 (nt + 1) ng (va_up sp nt.toNat t) (va_up nn nt.toNat 0) (va_up jj nt.toNat 0) (va_up vt nt.toNat (fun _ => 0)) (va_up vw nt.toNat (fun _ => 0)) (va_up vr nt.toNat (fun _ => 0)) G ∧ Tg tg2 ad2 (nt + 1) ng ∧ frB tg M M1 ∧ (∀ a, M a ≠ none → tg2 a = tg a) ∧ ad2 8 0 0 = ad 8 0 0))) 85 443 (mF b) := by
  refine m_met (cc := cX4_thing) (maxL := 2) (ret := (some .int)) (by decide) rfl (Nat.le_of_ble_eq_true rfl) ?_
  intro p e s m args below meth c Q ls hx hb hml hr hts hown hlk hnm hQ K hG hS hl
  have hown : s.vm.findClass RX4 = some m.cls := hown
  have hl : lv_has ls 2 [(0, .ref (ad 8 0 0)), (1, .int (iI t))] := hl
  obtain ⟨o1, ⟨tf0, o2, o3, o3n⟩, ⟨gf0, o4, o5⟩, oT, oG, ⟨SO, o6, o7⟩, oA, ⟨b1, b2, b3, b4⟩⟩ := id hO
  refine lv_iload_n hx hb dX4_thing_0 rfl (lv_at hl 1 rfl) ?_
  refine m_if_lt (tgt := 19) hx hb dX4_thing_1 (by decide) hrt (fun c1 => ?_) (fun c1 => ?_)
  · refine lv_iconst (v := iI (-1)) hx hb dX4_thing_19 rfl ?_
    exact m_iret hx hb hr hlk hQ hG hS (Nat.le_of_ble_eq_true rfl) (Nat.le_of_ble_eq_true rfl) dX4_thing_20 (Or.inl ⟨by omega, rfl, rfl⟩)
  · refine lv_iload_n hx hb dX4_thing_4 rfl (lv_at hl 1 rfl) ?_
    refine lv_bipush (v := iI 7) hx hb dX4_thing_5 (by decide) ?_
    refine m_icmp_gt (tgt := 19) hx hb dX4_thing_7 (by decide) hrt ⟨by omega, by omega⟩ (fun c7 => ?_) (fun c7 => ?_)
    · refine lv_iconst (v := iI (-1)) hx hb dX4_thing_19 rfl ?_
      exact m_iret hx hb hr hlk hQ hG hS (Nat.le_of_ble_eq_true rfl) (Nat.le_of_ble_eq_true rfl) dX4_thing_20 (Or.inl ⟨by omega, rfl, rfl⟩)
    · refine lv_aload_n hx hb dX4_thing_10 rfl (lv_at hl 0 rfl) ?_
      refine m_get (ci := 4) (v := .int (iI nt)) (C := RX4) (T := TX4) (N := 6) hx hb hts (by decide +kernel) hown K hG o1 rfl 4 (by decide) (by decide +kernel) rfl dX4_thing_11 ?_
      refine lv_bipush (v := iI 6) hx hb dX4_thing_14 (by decide) ?_
      refine m_icmp_lt (tgt := 21) hx hb dX4_thing_16 (by decide) ⟨by omega, by omega⟩ ⟨by omega, by omega⟩ (fun c16 => ?_) (fun c16 => ?_)
      · refine lv_aload_n hx hb dX4_thing_21 rfl (lv_at hl 0 rfl) ?_
        refine m_get (ci := 4) (v := .ref (ad 9 0 0)) (C := RX4) (T := TX4) (N := 6) hx hb hts (by decide +kernel) hown K hG o1 rfl 0 (by decide) (by decide +kernel) rfl dX4_thing_22 ?_
        refine lv_aload_n hx hb dX4_thing_25 rfl (lv_at hl 0 rfl) ?_
        refine m_get (ci := 4) (v := .int (iI nt)) (C := RX4) (T := TX4) (N := 6) hx hb hts (by decide +kernel) hown K hG o1 rfl 4 (by decide) (by decide +kernel) rfl dX4_thing_26 ?_
        refine m_new (ci := 3) (fs := [.int (iI 0), .null, .null, .null, .null, .int (iI 0), .int (iI 0)]) (C := RX3) (T := TX3) (N := 7) hx hb hts (by decide +kernel) tyX3 tyX3_ok hown (by decide +kernel) (by decide +kernel) (by decide +kernel) K hG hS rfl (fun j hj => by rcases (show j = 0 ∨ j = 1 ∨ j = 2 ∨ j = 3 ∨ j = 4 ∨ j = 5 ∨ j = 6 by omega) with rfl | rfl | rfl | rfl | rfl | rfl | rfl <;> rfl) (Nat.le_of_ble_eq_true rfl) (Nat.le_of_ble_eq_true rfl) dX4_thing_29 (fun q1 H hq1 hG hS => ?_)
        have ne2 : ad 8 0 0 ≠ q1 := mfresh hq1 o1
        have ne3 : ad 9 0 0 ≠ q1 := mfresh hq1 o2
        have ne4 : ad 10 0 0 ≠ q1 := mfresh hq1 o4
        have ne5 : ad 4 4 0 ≠ q1 := mfresh hq1 o6
        have ne6 : ad 5 4 0 ≠ q1 := mfresh hq1 o7
        have hG : mG D b (mset M q1 (.inr (3, [.int (iI 0), .null, .null, .null, .null, .int (iI 0), .int (iI 0)]))) s H := hG
        refine lv_dup hx hb dX4_thing_32 rfl ?_
        refine lv_iload_n hx hb dX4_thing_33 rfl (lv_at hl 1 rfl) ?_
        refine m_callv (m_runI (a := q1) (As := [.int (iI t)]) (rest := [.ref q1, .int (iI nt), .ref (ad 9 0 0)]) ⟨hx, hb, hml, hown, hts⟩ (c_X3_init l D b _ q1 t (by omega) mset_self) (cwI 1 hts gX4_thing_X3_init rfl rfl rfl (hts (.initialized RX3) (by decide +kernel)) (hts (.methodLink RX4 40 yX3_init) (by decide +kernel)) (hts (.instanceMethod yX3_init) (by decide +kernel)) rfl (by decide +kernel) ⟨Nat.le_of_ble_eq_true rfl, Nat.le_of_ble_eq_true rfl⟩) K hG rfl rfl hl.1 rfl (Nat.le_of_ble_eq_true rfl) dX4_thing_34 ⟨Nat.le_of_ble_eq_true rfl, Nat.le_of_ble_eq_true rfl⟩) hS (fun M8 H locs hw9 hG hS => ?_)
        obtain ⟨tk, wh, ra, rc, rf, bx, hth, hFt, ⟨hn1, hn2, hn3, hn4⟩, hnb⟩ := hw9
        have u10 : M8 (ad 8 0 0) = some (.inr (4, [.ref (ad 9 0 0), .ref (ad 10 0 0), .ref (ad 4 4 0), .ref (ad 6 0 0), .int (iI nt), .int (iI ng)])) := (hFt (ad 8 0 0) ne2 (msome ((mset_ne ne2).trans o1))).trans ((mset_ne ne2).trans o1)
        have u11 : M8 (ad 9 0 0) = some (aQ RX3 6 tf0) := (hFt (ad 9 0 0) ne3 (msome ((mset_ne ne3).trans o2))).trans ((mset_ne ne3).trans o2)
        have hn1 := mset_none hn1
        have hn2 := mset_none hn2
        have hn3 := mset_none hn3
        have hn4 := mset_none hn4
        have hnb : ∀ t, t < 80 → M (bx t) = none := fun t h9 => mset_none (hnb t h9)
        refine m_aast (r := (RX3, TX3, 7)) hx hb K hG hS u11 hth.1 rfl nt.toNat (by omega) (by omega) (by decide) dX4_thing_37 (fun H locs hG hS => ?_)
        have hG : mG D b (mset M8 (ad 9 0 0) (aQ RX3 6 (va_up tf0 nt.toNat (some q1)))) s H := hG
        refine lv_aload_n hx hb dX4_thing_38 rfl (lv_at hl 0 rfl) ?_
        refine lv_dup hx hb dX4_thing_39 rfl ?_
        refine m_get (ci := 4) (v := .int (iI nt)) (C := RX4) (T := TX4) (N := 6) hx hb hts (by decide +kernel) hown K hG ((mset_ne (hTg.ne (k := 8) (k2 := 9) (by unfold live; omega) (by unfold live; omega) (by omega))).trans u10) rfl 4 (by decide) (by decide +kernel) rfl dX4_thing_40 ?_
        refine lv_iconst (v := iI 1) hx hb dX4_thing_43 rfl ?_
        refine m_iadd hx hb dX4_thing_44 ?_
        refine m_put (ci := 4) (v := .int (iI (nt + 1))) (ty := .int) (fs' := [.ref (ad 9 0 0), .ref (ad 10 0 0), .ref (ad 4 4 0), .ref (ad 6 0 0), .int (iI (nt + 1)), .int (iI ng)]) (C := RX4) (T := TX4) (N := 6) hx hb hts (by decide +kernel) tyX4 tyX4_ok nmX4 hown K hG hS ((mset_ne (hTg.ne (k := 8) (k2 := 9) (by unfold live; omega) (by unfold live; omega) (by omega))).trans u10) rfl 4 (by decide) (by decide +kernel) rfl (by decide +kernel) rfl rfl (Nat.le_of_ble_eq_true rfl) rfl dX4_thing_45 (fun H locs hG hS => ?_)
        have hG : mG D b (mset (mset M8 (ad 9 0 0) (aQ RX3 6 (va_up tf0 nt.toNat (some q1)))) (ad 8 0 0) (.inr (4, [.ref (ad 9 0 0), .ref (ad 10 0 0), .ref (ad 4 4 0), .ref (ad 6 0 0), .int (iI (nt + 1)), .int (iI ng)]))) s H := hG
        refine lv_aload_n hx hb dX4_thing_48 rfl (lv_at hl 0 rfl) ?_
        refine m_get (ci := 4) (v := .int (iI (nt + 1))) (C := RX4) (T := TX4) (N := 6) hx hb hts (by decide +kernel) hown K hG mset_self rfl 4 (by decide) (by decide +kernel) rfl dX4_thing_49 ?_
        refine lv_iconst (v := iI 1) hx hb dX4_thing_52 rfl ?_
        refine m_isub hx hb dX4_thing_53 ?_
        exact m_iret hx hb hr hlk hQ hG hS (Nat.le_of_ble_eq_true rfl) (Nat.le_of_ble_eq_true rfl) dX4_thing_54 (by obtain ⟨ad2, tg2, k1, k2, k3, k4⟩ := Ov_newth hO hTg (by omega) (s := t) ⟨by omega, by omega⟩ hq1 hn1 hn2 hn3 hn4 hnb o2 (ThOk_keep hth ((mset_ne (mfresh hq1 o1).symm).trans (mset_ne (mfresh hq1 o2).symm)) ((mset_ne (mfresh hn1 o1).symm).trans (mset_ne (mfresh hn1 o2).symm)) ((mset_ne (mfresh hn2 o1).symm).trans (mset_ne (mfresh hn2 o2).symm)) ((mset_ne (mfresh hn3 o1).symm).trans (mset_ne (mfresh hn3 o2).symm)) ((mset_ne (mfresh hn4 o1).symm).trans (mset_ne (mfresh hn4 o2).symm)) (fun t h9 => ((mset_ne (mfresh (hnb t h9) o1).symm).trans (mset_ne (mfresh (hnb t h9) o2).symm)))) mset_self ((mset_ne (hTg.ne (k := 9) (k2 := 8) (by unfold live; omega) (by unfold live; omega) (by omega))).trans mset_self) (fun a g1 g2 g3 => (mset_ne g2).trans ((mset_ne g3).trans ((hFt a (fun z9 => g1 (by rw [z9]; exact hq1)) (by rw [mset_ne (fun z9 => g1 (by rw [z9]; exact hq1))]; exact g1)).trans (mset_ne (fun z9 => g1 (by rw [z9]; exact hq1)))))); exact Or.inr ⟨by omega, congrArg iI (by omega), ad2, tg2, k1, k2, (fun a g0 g1 => (mset_ne (hTg.big (by unfold live; omega) g0)).trans ((mset_ne (hTg.big (by unfold live; omega) g0)).trans ((hFt a (fun z9 => g1 (by rw [z9]; exact hq1)) (by rw [mset_ne (fun z9 => g1 (by rw [z9]; exact hq1))]; exact g1)).trans (mset_ne (fun z9 => g1 (by rw [z9]; exact hq1)))))), k3, k4⟩)
      · refine lv_iconst (v := iI (-1)) hx hb dX4_thing_19 rfl ?_
        exact m_iret hx hb hr hlk hQ hG hS (Nat.le_of_ble_eq_true rfl) (Nat.le_of_ble_eq_true rfl) dX4_thing_20 (Or.inl ⟨by omega, rfl, rfl⟩)

