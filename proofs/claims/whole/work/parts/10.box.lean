abbrev Bx (w x y z : Int) : mE := .inr (0, [.int (iI w), .int (iI x), .int (iI y), .int (iI z)])
abbrev sm (z : Int) : Prop := -100000 ≤ z ∧ z ≤ 100000
set_option maxHeartbeats 4000000 in
set_option maxRecDepth 100000 in
theorem c_X0_init (l : Launch) (D : va_G) (b : Nat) (M : mM) (h0 : Nat) (w x y z : Int) (h : M h0 = some (Bx 0 0 0 0)) : Met l yX0_init wsX0_init ({ frames := 1, cells := 0, slots := 0, locals := 12 } : Room) (mPc [.ref h0, .int (iI w), .int (iI x), .int (iI y), .int (iI z)] D b M) (mQv D b (fV (mset M h0 (Bx w x y z)))) 0 0 (mF b) := by
  refine m_met (cc := cX0_init) (maxL := 5) (ret := none) (by decide) rfl (Nat.le_of_ble_eq_true rfl) ?_
  intro p e s m args below meth c Q ls hx hb hml hr hts hown hlk hnm hQ K hG hS hl
  have hown : s.vm.findClass RX0 = some m.cls := hown
  have hl : lv_has ls 5 [(0, .ref h0), (1, .int (iI w)), (2, .int (iI x)), (3, .int (iI y)), (4, .int (iI z))] := hl
  refine lv_aload_n hx hb dX0_init_0 rfl (lv_at hl 0 rfl) ?_
  refine W.objInit hx hb hown (hts (.methodLink RX0 3 objectInit) (by decide +kernel)) (hts (.instanceMethod objectInit) (by decide +kernel)) (hts (.code objectInit ⟨#[0xb1]⟩ 1 none) (by decide +kernel)) rfl (by rw [hml]; exact hl.1) rfl dX0_init_1 (Nat.le_of_ble_eq_true rfl) (Nat.le_of_ble_eq_true rfl) ?_
  refine W.eq (g2 := F0 m 4 ls []) rfl ?_
  refine lv_aload_n hx hb dX0_init_4 rfl (lv_at hl 0 rfl) ?_
  refine lv_iload_n hx hb dX0_init_5 rfl (lv_at hl 1 rfl) ?_
  refine m_put (ci := 0) (v := .int (iI w)) (ty := .int) (fs' := [.int (iI w), .int (iI 0), .int (iI 0), .int (iI 0)]) (C := RX0) (T := TX0) (N := 4) hx hb hts (by decide +kernel) tyX0 tyX0_ok nmX0 hown K hG hS h rfl 0 (by decide) (by decide +kernel) rfl (by decide +kernel) rfl rfl (Nat.le_of_ble_eq_true rfl) rfl dX0_init_6 (fun H locs hG hS => ?_)
  have hG : mG D b (mset M h0 (.inr (0, [.int (iI w), .int (iI 0), .int (iI 0), .int (iI 0)]))) s H := hG
  refine lv_aload_n hx hb dX0_init_9 rfl (lv_at hl 0 rfl) ?_
  refine lv_iload_n hx hb dX0_init_10 rfl (lv_at hl 2 rfl) ?_
  refine m_put (ci := 0) (v := .int (iI x)) (ty := .int) (fs' := [.int (iI w), .int (iI x), .int (iI 0), .int (iI 0)]) (C := RX0) (T := TX0) (N := 4) hx hb hts (by decide +kernel) tyX0 tyX0_ok nmX0 hown K hG hS mset_self rfl 1 (by decide) (by decide +kernel) rfl (by decide +kernel) rfl rfl (Nat.le_of_ble_eq_true rfl) rfl dX0_init_11 (fun H locs hG hS => ?_)
  rw [mset_mset] at hG
  have hG : mG D b (mset M h0 (.inr (0, [.int (iI w), .int (iI x), .int (iI 0), .int (iI 0)]))) s H := hG
  refine lv_aload_n hx hb dX0_init_14 rfl (lv_at hl 0 rfl) ?_
  refine lv_iload_n hx hb dX0_init_15 rfl (lv_at hl 3 rfl) ?_
  refine m_put (ci := 0) (v := .int (iI y)) (ty := .int) (fs' := [.int (iI w), .int (iI x), .int (iI y), .int (iI 0)]) (C := RX0) (T := TX0) (N := 4) hx hb hts (by decide +kernel) tyX0 tyX0_ok nmX0 hown K hG hS mset_self rfl 2 (by decide) (by decide +kernel) rfl (by decide +kernel) rfl rfl (Nat.le_of_ble_eq_true rfl) rfl dX0_init_16 (fun H locs hG hS => ?_)
  rw [mset_mset] at hG
  have hG : mG D b (mset M h0 (.inr (0, [.int (iI w), .int (iI x), .int (iI y), .int (iI 0)]))) s H := hG
  refine lv_aload_n hx hb dX0_init_19 rfl (lv_at hl 0 rfl) ?_
  refine lv_iload hx hb dX0_init_20 (lv_at hl 4 rfl) ?_
  refine m_put (ci := 0) (v := .int (iI z)) (ty := .int) (fs' := [.int (iI w), .int (iI x), .int (iI y), .int (iI z)]) (C := RX0) (T := TX0) (N := 4) hx hb hts (by decide +kernel) tyX0 tyX0_ok nmX0 hown K hG hS mset_self rfl 3 (by decide) (by decide +kernel) rfl (by decide +kernel) rfl rfl (Nat.le_of_ble_eq_true rfl) rfl dX0_init_22 (fun H locs hG hS => ?_)
  rw [mset_mset] at hG
  have hG : mG D b (mset M h0 (.inr (0, [.int (iI w), .int (iI x), .int (iI y), .int (iI z)]))) s H := hG
  exact m_vret hx hb hr hlk hQ hG hS (Nat.le_of_ble_eq_true rfl) (Nat.le_of_ble_eq_true rfl) dX0_init_25 rfl

set_option maxHeartbeats 4000000 in
set_option maxRecDepth 100000 in
theorem c_X0_setToField (l : Launch) (D : va_G) (b : Nat) (M : mM) (h0 : Nat) (w x y z : Int) (h : M h0 = some (Bx w x y z)) : Met l yX0_setToField wsX0_setToField ({ frames := 0, cells := 0, slots := 0, locals := 0 } : Room) (mPc [.ref h0] D b M) (mQv D b (fV (mset M h0 (Bx 0 63 0 63)))) 0 0 (mF b) := by
  refine m_met (cc := cX0_setToField) (maxL := 1) (ret := none) (by decide) rfl (Nat.le_of_ble_eq_true rfl) ?_
  intro p e s m args below meth c Q ls hx hb hml hr hts hown hlk hnm hQ K hG hS hl
  have hown : s.vm.findClass RX0 = some m.cls := hown
  have hl : lv_has ls 1 [(0, .ref h0)] := hl
  refine lv_aload_n hx hb dX0_setToField_0 rfl (lv_at hl 0 rfl) ?_
  refine lv_iconst (v := iI 0) hx hb dX0_setToField_1 rfl ?_
  refine m_put (ci := 0) (v := .int (iI 0)) (ty := .int) (fs' := [.int (iI 0), .int (iI x), .int (iI y), .int (iI z)]) (C := RX0) (T := TX0) (N := 4) hx hb hts (by decide +kernel) tyX0 tyX0_ok nmX0 hown K hG hS h rfl 0 (by decide) (by decide +kernel) rfl (by decide +kernel) rfl rfl (Nat.le_of_ble_eq_true rfl) rfl dX0_setToField_2 (fun H locs hG hS => ?_)
  have hG : mG D b (mset M h0 (.inr (0, [.int (iI 0), .int (iI x), .int (iI y), .int (iI z)]))) s H := hG
  refine lv_aload_n hx hb dX0_setToField_5 rfl (lv_at hl 0 rfl) ?_
  refine lv_bipush (v := iI 63) hx hb dX0_setToField_6 (by decide) ?_
  refine m_put (ci := 0) (v := .int (iI 63)) (ty := .int) (fs' := [.int (iI 0), .int (iI 63), .int (iI y), .int (iI z)]) (C := RX0) (T := TX0) (N := 4) hx hb hts (by decide +kernel) tyX0 tyX0_ok nmX0 hown K hG hS mset_self rfl 1 (by decide) (by decide +kernel) rfl (by decide +kernel) rfl rfl (Nat.le_of_ble_eq_true rfl) rfl dX0_setToField_8 (fun H locs hG hS => ?_)
  rw [mset_mset] at hG
  have hG : mG D b (mset M h0 (.inr (0, [.int (iI 0), .int (iI 63), .int (iI y), .int (iI z)]))) s H := hG
  refine lv_aload_n hx hb dX0_setToField_11 rfl (lv_at hl 0 rfl) ?_
  refine lv_iconst (v := iI 0) hx hb dX0_setToField_12 rfl ?_
  refine m_put (ci := 0) (v := .int (iI 0)) (ty := .int) (fs' := [.int (iI 0), .int (iI 63), .int (iI 0), .int (iI z)]) (C := RX0) (T := TX0) (N := 4) hx hb hts (by decide +kernel) tyX0 tyX0_ok nmX0 hown K hG hS mset_self rfl 2 (by decide) (by decide +kernel) rfl (by decide +kernel) rfl rfl (Nat.le_of_ble_eq_true rfl) rfl dX0_setToField_13 (fun H locs hG hS => ?_)
  rw [mset_mset] at hG
  have hG : mG D b (mset M h0 (.inr (0, [.int (iI 0), .int (iI 63), .int (iI 0), .int (iI z)]))) s H := hG
  refine lv_aload_n hx hb dX0_setToField_16 rfl (lv_at hl 0 rfl) ?_
  refine lv_bipush (v := iI 63) hx hb dX0_setToField_17 (by decide) ?_
  refine m_put (ci := 0) (v := .int (iI 63)) (ty := .int) (fs' := [.int (iI 0), .int (iI 63), .int (iI 0), .int (iI 63)]) (C := RX0) (T := TX0) (N := 4) hx hb hts (by decide +kernel) tyX0 tyX0_ok nmX0 hown K hG hS mset_self rfl 3 (by decide) (by decide +kernel) rfl (by decide +kernel) rfl rfl (Nat.le_of_ble_eq_true rfl) rfl dX0_setToField_19 (fun H locs hG hS => ?_)
  rw [mset_mset] at hG
  have hG : mG D b (mset M h0 (.inr (0, [.int (iI 0), .int (iI 63), .int (iI 0), .int (iI 63)]))) s H := hG
  exact m_vret hx hb hr hlk hQ hG hS (Nat.le_of_ble_eq_true rfl) (Nat.le_of_ble_eq_true rfl) dX0_setToField_22 rfl

set_option maxHeartbeats 4000000 in
set_option maxRecDepth 100000 in
theorem c_X0_keepAround (l : Launch) (D : va_G) (b : Nat) (M : mM) (h0 : Nat) (w x y z : Int) (h : M h0 = some (Bx w x y z)) (hw : sm w) (hx0 : sm x) (hy0 : sm y) (hz0 : sm z) (u v r : Int) (hu : sm u) (hv : sm v) (hr0 : sm r) : Met l yX0_keepAround wsX0_keepAround ({ frames := 1, cells := 0, slots := 0, locals := 14 } : Room) (mPc [.ref h0, .int (iI u), .int (iI v), .int (iI r)] D b M) (mQv D b (fV (mset M h0 (Bx (max w (u - r)) (min x (u + r)) (max y (v - r)) (min z (v + r)))))) 0 0 (mF b) := by
  refine m_met (cc := cX0_keepAround) (maxL := 4) (ret := none) (by decide) rfl (Nat.le_of_ble_eq_true rfl) ?_
  intro p e s m args below meth c Q ls hx hb hml hr hts hown hlk hnm hQ K hG hS hl
  have hown : s.vm.findClass RX0 = some m.cls := hown
  have hl : lv_has ls 4 [(0, .ref h0), (1, .int (iI u)), (2, .int (iI v)), (3, .int (iI r))] := hl
  refine lv_aload_n hx hb dX0_keepAround_0 rfl (lv_at hl 0 rfl) ?_
  refine lv_aload_n hx hb dX0_keepAround_1 rfl (lv_at hl 0 rfl) ?_
  refine m_get (ci := 0) (v := .int (iI w)) (C := RX0) (T := TX0) (N := 4) hx hb hts (by decide +kernel) hown K hG h rfl 0 (by decide) (by decide +kernel) rfl dX0_keepAround_2 ?_
  refine lv_iload_n hx hb dX0_keepAround_5 rfl (lv_at hl 1 rfl) ?_
  refine lv_iload_n hx hb dX0_keepAround_6 rfl (lv_at hl 3 rfl) ?_
  refine m_isub hx hb dX0_keepAround_7 ?_
  refine m_mmax hx hb (hml.trans hl.1.symm) hts hown (by decide +kernel) (by decide +kernel) (by decide +kernel) (by decide +kernel) (Nat.le_of_ble_eq_true rfl) (Nat.le_of_ble_eq_true rfl) (Nat.zero_le _) (Nat.zero_le _) ⟨by omega, by omega⟩ ⟨by omega, by omega⟩ dX0_keepAround_8 ?_
  refine m_put (ci := 0) (v := .int (iI (max w (u - r)))) (ty := .int) (fs' := [.int (iI (max w (u - r))), .int (iI x), .int (iI y), .int (iI z)]) (C := RX0) (T := TX0) (N := 4) hx hb hts (by decide +kernel) tyX0 tyX0_ok nmX0 hown K hG hS h rfl 0 (by decide) (by decide +kernel) rfl (by decide +kernel) rfl rfl (Nat.le_of_ble_eq_true rfl) rfl dX0_keepAround_11 (fun H locs hG hS => ?_)
  have hG : mG D b (mset M h0 (.inr (0, [.int (iI (max w (u - r))), .int (iI x), .int (iI y), .int (iI z)]))) s H := hG
  refine lv_aload_n hx hb dX0_keepAround_14 rfl (lv_at hl 0 rfl) ?_
  refine lv_aload_n hx hb dX0_keepAround_15 rfl (lv_at hl 0 rfl) ?_
  refine m_get (ci := 0) (v := .int (iI x)) (C := RX0) (T := TX0) (N := 4) hx hb hts (by decide +kernel) hown K hG mset_self rfl 1 (by decide) (by decide +kernel) rfl dX0_keepAround_16 ?_
  refine lv_iload_n hx hb dX0_keepAround_19 rfl (lv_at hl 1 rfl) ?_
  refine lv_iload_n hx hb dX0_keepAround_20 rfl (lv_at hl 3 rfl) ?_
  refine m_iadd hx hb dX0_keepAround_21 ?_
  refine m_mmin hx hb (hml.trans hl.1.symm) hts hown (by decide +kernel) (by decide +kernel) (by decide +kernel) (by decide +kernel) (Nat.le_of_ble_eq_true rfl) (Nat.le_of_ble_eq_true rfl) (Nat.zero_le _) (Nat.zero_le _) ⟨by omega, by omega⟩ ⟨by omega, by omega⟩ dX0_keepAround_22 ?_
  refine m_put (ci := 0) (v := .int (iI (min x (u + r)))) (ty := .int) (fs' := [.int (iI (max w (u - r))), .int (iI (min x (u + r))), .int (iI y), .int (iI z)]) (C := RX0) (T := TX0) (N := 4) hx hb hts (by decide +kernel) tyX0 tyX0_ok nmX0 hown K hG hS mset_self rfl 1 (by decide) (by decide +kernel) rfl (by decide +kernel) rfl rfl (Nat.le_of_ble_eq_true rfl) rfl dX0_keepAround_25 (fun H locs hG hS => ?_)
  rw [mset_mset] at hG
  have hG : mG D b (mset M h0 (.inr (0, [.int (iI (max w (u - r))), .int (iI (min x (u + r))), .int (iI y), .int (iI z)]))) s H := hG
  refine lv_aload_n hx hb dX0_keepAround_28 rfl (lv_at hl 0 rfl) ?_
  refine lv_aload_n hx hb dX0_keepAround_29 rfl (lv_at hl 0 rfl) ?_
  refine m_get (ci := 0) (v := .int (iI y)) (C := RX0) (T := TX0) (N := 4) hx hb hts (by decide +kernel) hown K hG mset_self rfl 2 (by decide) (by decide +kernel) rfl dX0_keepAround_30 ?_
  refine lv_iload_n hx hb dX0_keepAround_33 rfl (lv_at hl 2 rfl) ?_
  refine lv_iload_n hx hb dX0_keepAround_34 rfl (lv_at hl 3 rfl) ?_
  refine m_isub hx hb dX0_keepAround_35 ?_
  refine m_mmax hx hb (hml.trans hl.1.symm) hts hown (by decide +kernel) (by decide +kernel) (by decide +kernel) (by decide +kernel) (Nat.le_of_ble_eq_true rfl) (Nat.le_of_ble_eq_true rfl) (Nat.zero_le _) (Nat.zero_le _) ⟨by omega, by omega⟩ ⟨by omega, by omega⟩ dX0_keepAround_36 ?_
  refine m_put (ci := 0) (v := .int (iI (max y (v - r)))) (ty := .int) (fs' := [.int (iI (max w (u - r))), .int (iI (min x (u + r))), .int (iI (max y (v - r))), .int (iI z)]) (C := RX0) (T := TX0) (N := 4) hx hb hts (by decide +kernel) tyX0 tyX0_ok nmX0 hown K hG hS mset_self rfl 2 (by decide) (by decide +kernel) rfl (by decide +kernel) rfl rfl (Nat.le_of_ble_eq_true rfl) rfl dX0_keepAround_39 (fun H locs hG hS => ?_)
  rw [mset_mset] at hG
  have hG : mG D b (mset M h0 (.inr (0, [.int (iI (max w (u - r))), .int (iI (min x (u + r))), .int (iI (max y (v - r))), .int (iI z)]))) s H := hG
  refine lv_aload_n hx hb dX0_keepAround_42 rfl (lv_at hl 0 rfl) ?_
  refine lv_aload_n hx hb dX0_keepAround_43 rfl (lv_at hl 0 rfl) ?_
  refine m_get (ci := 0) (v := .int (iI z)) (C := RX0) (T := TX0) (N := 4) hx hb hts (by decide +kernel) hown K hG mset_self rfl 3 (by decide) (by decide +kernel) rfl dX0_keepAround_44 ?_
  refine lv_iload_n hx hb dX0_keepAround_47 rfl (lv_at hl 2 rfl) ?_
  refine lv_iload_n hx hb dX0_keepAround_48 rfl (lv_at hl 3 rfl) ?_
  refine m_iadd hx hb dX0_keepAround_49 ?_
  refine m_mmin hx hb (hml.trans hl.1.symm) hts hown (by decide +kernel) (by decide +kernel) (by decide +kernel) (by decide +kernel) (Nat.le_of_ble_eq_true rfl) (Nat.le_of_ble_eq_true rfl) (Nat.zero_le _) (Nat.zero_le _) ⟨by omega, by omega⟩ ⟨by omega, by omega⟩ dX0_keepAround_50 ?_
  refine m_put (ci := 0) (v := .int (iI (min z (v + r)))) (ty := .int) (fs' := [.int (iI (max w (u - r))), .int (iI (min x (u + r))), .int (iI (max y (v - r))), .int (iI (min z (v + r)))]) (C := RX0) (T := TX0) (N := 4) hx hb hts (by decide +kernel) tyX0 tyX0_ok nmX0 hown K hG hS mset_self rfl 3 (by decide) (by decide +kernel) rfl (by decide +kernel) rfl rfl (Nat.le_of_ble_eq_true rfl) rfl dX0_keepAround_53 (fun H locs hG hS => ?_)
  rw [mset_mset] at hG
  have hG : mG D b (mset M h0 (.inr (0, [.int (iI (max w (u - r))), .int (iI (min x (u + r))), .int (iI (max y (v - r))), .int (iI (min z (v + r)))]))) s H := hG
  exact m_vret hx hb hr hlk hQ hG hS (Nat.le_of_ble_eq_true rfl) (Nat.le_of_ble_eq_true rfl) dX0_keepAround_56 rfl

set_option maxHeartbeats 4000000 in
set_option maxRecDepth 100000 in
theorem c_X0_keepNear (l : Launch) (D : va_G) (b : Nat) (M : mM) (h0 : Nat) (w x y z : Int) (h : M h0 = some (Bx w x y z)) (hw : sm w) (hx0 : sm x) (hy0 : sm y) (hz0 : sm z) (o : Nat) (w2 x2 y2 z2 d : Int) (h2 : M o = some (Bx w2 x2 y2 z2)) (hw2 : sm w2) (hx2 : sm x2) (hy2 : sm y2) (hz2 : sm z2) (hd : sm d) (ho : o ≠ h0) : Met l yX0_keepNear wsX0_keepNear ({ frames := 1, cells := 0, slots := 0, locals := 14 } : Room) (mPc [.ref h0, .ref o, .int (iI d)] D b M) (mQv D b (fV (mset M h0 (Bx (max w (w2 - d)) (min x (x2 + d)) (max y (y2 - d)) (min z (z2 + d)))))) 0 0 (mF b) := by
  refine m_met (cc := cX0_keepNear) (maxL := 3) (ret := none) (by decide) rfl (Nat.le_of_ble_eq_true rfl) ?_
  intro p e s m args below meth c Q ls hx hb hml hr hts hown hlk hnm hQ K hG hS hl
  have hown : s.vm.findClass RX0 = some m.cls := hown
  have hl : lv_has ls 3 [(0, .ref h0), (1, .ref o), (2, .int (iI d))] := hl
  refine lv_aload_n hx hb dX0_keepNear_0 rfl (lv_at hl 0 rfl) ?_
  refine lv_aload_n hx hb dX0_keepNear_1 rfl (lv_at hl 0 rfl) ?_
  refine m_get (ci := 0) (v := .int (iI w)) (C := RX0) (T := TX0) (N := 4) hx hb hts (by decide +kernel) hown K hG h rfl 0 (by decide) (by decide +kernel) rfl dX0_keepNear_2 ?_
  refine lv_aload_n hx hb dX0_keepNear_5 rfl (lv_at hl 1 rfl) ?_
  refine m_get (ci := 0) (v := .int (iI w2)) (C := RX0) (T := TX0) (N := 4) hx hb hts (by decide +kernel) hown K hG h2 rfl 0 (by decide) (by decide +kernel) rfl dX0_keepNear_6 ?_
  refine lv_iload_n hx hb dX0_keepNear_9 rfl (lv_at hl 2 rfl) ?_
  refine m_isub hx hb dX0_keepNear_10 ?_
  refine m_mmax hx hb (hml.trans hl.1.symm) hts hown (by decide +kernel) (by decide +kernel) (by decide +kernel) (by decide +kernel) (Nat.le_of_ble_eq_true rfl) (Nat.le_of_ble_eq_true rfl) (Nat.zero_le _) (Nat.zero_le _) ⟨by omega, by omega⟩ ⟨by omega, by omega⟩ dX0_keepNear_11 ?_
  refine m_put (ci := 0) (v := .int (iI (max w (w2 - d)))) (ty := .int) (fs' := [.int (iI (max w (w2 - d))), .int (iI x), .int (iI y), .int (iI z)]) (C := RX0) (T := TX0) (N := 4) hx hb hts (by decide +kernel) tyX0 tyX0_ok nmX0 hown K hG hS h rfl 0 (by decide) (by decide +kernel) rfl (by decide +kernel) rfl rfl (Nat.le_of_ble_eq_true rfl) rfl dX0_keepNear_14 (fun H locs hG hS => ?_)
  have hG : mG D b (mset M h0 (.inr (0, [.int (iI (max w (w2 - d))), .int (iI x), .int (iI y), .int (iI z)]))) s H := hG
  refine lv_aload_n hx hb dX0_keepNear_17 rfl (lv_at hl 0 rfl) ?_
  refine lv_aload_n hx hb dX0_keepNear_18 rfl (lv_at hl 0 rfl) ?_
  refine m_get (ci := 0) (v := .int (iI x)) (C := RX0) (T := TX0) (N := 4) hx hb hts (by decide +kernel) hown K hG mset_self rfl 1 (by decide) (by decide +kernel) rfl dX0_keepNear_19 ?_
  refine lv_aload_n hx hb dX0_keepNear_22 rfl (lv_at hl 1 rfl) ?_
  refine m_get (ci := 0) (v := .int (iI x2)) (C := RX0) (T := TX0) (N := 4) hx hb hts (by decide +kernel) hown K hG ((mset_ne ho).trans h2) rfl 1 (by decide) (by decide +kernel) rfl dX0_keepNear_23 ?_
  refine lv_iload_n hx hb dX0_keepNear_26 rfl (lv_at hl 2 rfl) ?_
  refine m_iadd hx hb dX0_keepNear_27 ?_
  refine m_mmin hx hb (hml.trans hl.1.symm) hts hown (by decide +kernel) (by decide +kernel) (by decide +kernel) (by decide +kernel) (Nat.le_of_ble_eq_true rfl) (Nat.le_of_ble_eq_true rfl) (Nat.zero_le _) (Nat.zero_le _) ⟨by omega, by omega⟩ ⟨by omega, by omega⟩ dX0_keepNear_28 ?_
  refine m_put (ci := 0) (v := .int (iI (min x (x2 + d)))) (ty := .int) (fs' := [.int (iI (max w (w2 - d))), .int (iI (min x (x2 + d))), .int (iI y), .int (iI z)]) (C := RX0) (T := TX0) (N := 4) hx hb hts (by decide +kernel) tyX0 tyX0_ok nmX0 hown K hG hS mset_self rfl 1 (by decide) (by decide +kernel) rfl (by decide +kernel) rfl rfl (Nat.le_of_ble_eq_true rfl) rfl dX0_keepNear_31 (fun H locs hG hS => ?_)
  rw [mset_mset] at hG
  have hG : mG D b (mset M h0 (.inr (0, [.int (iI (max w (w2 - d))), .int (iI (min x (x2 + d))), .int (iI y), .int (iI z)]))) s H := hG
  refine lv_aload_n hx hb dX0_keepNear_34 rfl (lv_at hl 0 rfl) ?_
  refine lv_aload_n hx hb dX0_keepNear_35 rfl (lv_at hl 0 rfl) ?_
  refine m_get (ci := 0) (v := .int (iI y)) (C := RX0) (T := TX0) (N := 4) hx hb hts (by decide +kernel) hown K hG mset_self rfl 2 (by decide) (by decide +kernel) rfl dX0_keepNear_36 ?_
  refine lv_aload_n hx hb dX0_keepNear_39 rfl (lv_at hl 1 rfl) ?_
  refine m_get (ci := 0) (v := .int (iI y2)) (C := RX0) (T := TX0) (N := 4) hx hb hts (by decide +kernel) hown K hG ((mset_ne ho).trans h2) rfl 2 (by decide) (by decide +kernel) rfl dX0_keepNear_40 ?_
  refine lv_iload_n hx hb dX0_keepNear_43 rfl (lv_at hl 2 rfl) ?_
  refine m_isub hx hb dX0_keepNear_44 ?_
  refine m_mmax hx hb (hml.trans hl.1.symm) hts hown (by decide +kernel) (by decide +kernel) (by decide +kernel) (by decide +kernel) (Nat.le_of_ble_eq_true rfl) (Nat.le_of_ble_eq_true rfl) (Nat.zero_le _) (Nat.zero_le _) ⟨by omega, by omega⟩ ⟨by omega, by omega⟩ dX0_keepNear_45 ?_
  refine m_put (ci := 0) (v := .int (iI (max y (y2 - d)))) (ty := .int) (fs' := [.int (iI (max w (w2 - d))), .int (iI (min x (x2 + d))), .int (iI (max y (y2 - d))), .int (iI z)]) (C := RX0) (T := TX0) (N := 4) hx hb hts (by decide +kernel) tyX0 tyX0_ok nmX0 hown K hG hS mset_self rfl 2 (by decide) (by decide +kernel) rfl (by decide +kernel) rfl rfl (Nat.le_of_ble_eq_true rfl) rfl dX0_keepNear_48 (fun H locs hG hS => ?_)
  rw [mset_mset] at hG
  have hG : mG D b (mset M h0 (.inr (0, [.int (iI (max w (w2 - d))), .int (iI (min x (x2 + d))), .int (iI (max y (y2 - d))), .int (iI z)]))) s H := hG
  refine lv_aload_n hx hb dX0_keepNear_51 rfl (lv_at hl 0 rfl) ?_
  refine lv_aload_n hx hb dX0_keepNear_52 rfl (lv_at hl 0 rfl) ?_
  refine m_get (ci := 0) (v := .int (iI z)) (C := RX0) (T := TX0) (N := 4) hx hb hts (by decide +kernel) hown K hG mset_self rfl 3 (by decide) (by decide +kernel) rfl dX0_keepNear_53 ?_
  refine lv_aload_n hx hb dX0_keepNear_56 rfl (lv_at hl 1 rfl) ?_
  refine m_get (ci := 0) (v := .int (iI z2)) (C := RX0) (T := TX0) (N := 4) hx hb hts (by decide +kernel) hown K hG ((mset_ne ho).trans h2) rfl 3 (by decide) (by decide +kernel) rfl dX0_keepNear_57 ?_
  refine lv_iload_n hx hb dX0_keepNear_60 rfl (lv_at hl 2 rfl) ?_
  refine m_iadd hx hb dX0_keepNear_61 ?_
  refine m_mmin hx hb (hml.trans hl.1.symm) hts hown (by decide +kernel) (by decide +kernel) (by decide +kernel) (by decide +kernel) (Nat.le_of_ble_eq_true rfl) (Nat.le_of_ble_eq_true rfl) (Nat.zero_le _) (Nat.zero_le _) ⟨by omega, by omega⟩ ⟨by omega, by omega⟩ dX0_keepNear_62 ?_
  refine m_put (ci := 0) (v := .int (iI (min z (z2 + d)))) (ty := .int) (fs' := [.int (iI (max w (w2 - d))), .int (iI (min x (x2 + d))), .int (iI (max y (y2 - d))), .int (iI (min z (z2 + d)))]) (C := RX0) (T := TX0) (N := 4) hx hb hts (by decide +kernel) tyX0 tyX0_ok nmX0 hown K hG hS mset_self rfl 3 (by decide) (by decide +kernel) rfl (by decide +kernel) rfl rfl (Nat.le_of_ble_eq_true rfl) rfl dX0_keepNear_65 (fun H locs hG hS => ?_)
  rw [mset_mset] at hG
  have hG : mG D b (mset M h0 (.inr (0, [.int (iI (max w (w2 - d))), .int (iI (min x (x2 + d))), .int (iI (max y (y2 - d))), .int (iI (min z (z2 + d)))]))) s H := hG
  exact m_vret hx hb hr hlk hQ hG hS (Nat.le_of_ble_eq_true rfl) (Nat.le_of_ble_eq_true rfl) dX0_keepNear_68 rfl

set_option maxHeartbeats 4000000 in
set_option maxRecDepth 100000 in
theorem c_X0_isEmpty (l : Launch) (D : va_G) (b : Nat) (M : mM) (h0 : Nat) (w x y z : Int) (h : M h0 = some (Bx w x y z)) (hw : sm w) (hx0 : sm x) (hy0 : sm y) (hz0 : sm z) : Met l yX0_isEmpty wsX0_isEmpty ({ frames := 0, cells := 0, slots := 0, locals := 0 } : Room) (mPc [.ref h0] D b M) (mQi D b (fI (if x < w ∨ z < y then 1 else 0) M)) 0 0 (mF b) := by
  refine m_met (cc := cX0_isEmpty) (maxL := 1) (ret := (some .boolean)) (by decide) rfl (Nat.le_of_ble_eq_true rfl) ?_
  intro p e s m args below meth c Q ls hx hb hml hr hts hown hlk hnm hQ K hG hS hl
  have hown : s.vm.findClass RX0 = some m.cls := hown
  have hl : lv_has ls 1 [(0, .ref h0)] := hl
  refine lv_aload_n hx hb dX0_isEmpty_0 rfl (lv_at hl 0 rfl) ?_
  refine m_get (ci := 0) (v := .int (iI w)) (C := RX0) (T := TX0) (N := 4) hx hb hts (by decide +kernel) hown K hG h rfl 0 (by decide) (by decide +kernel) rfl dX0_isEmpty_1 ?_
  refine lv_aload_n hx hb dX0_isEmpty_4 rfl (lv_at hl 0 rfl) ?_
  refine m_get (ci := 0) (v := .int (iI x)) (C := RX0) (T := TX0) (N := 4) hx hb hts (by decide +kernel) hown K hG h rfl 1 (by decide) (by decide +kernel) rfl dX0_isEmpty_5 ?_
  refine m_icmp_gt (tgt := 22) hx hb dX0_isEmpty_8 (by decide) ⟨by omega, by omega⟩ ⟨by omega, by omega⟩ (fun c8 => ?_) (fun c8 => ?_)
  · refine lv_iconst (v := iI 1) hx hb dX0_isEmpty_22 rfl ?_
    refine lv_goto (tgt := 27) hx hb dX0_isEmpty_23 (by decide) ?_
    exact m_zret hx hb hr hlk hQ hG hS (Nat.le_of_ble_eq_true rfl) (Nat.le_of_ble_eq_true rfl) dX0_isEmpty_27 (Or.inr rfl) ⟨congrArg iI (by first | rfl | omega | (split <;> omega)), rfl⟩
  · refine lv_aload_n hx hb dX0_isEmpty_11 rfl (lv_at hl 0 rfl) ?_
    refine m_get (ci := 0) (v := .int (iI y)) (C := RX0) (T := TX0) (N := 4) hx hb hts (by decide +kernel) hown K hG h rfl 2 (by decide) (by decide +kernel) rfl dX0_isEmpty_12 ?_
    refine lv_aload_n hx hb dX0_isEmpty_15 rfl (lv_at hl 0 rfl) ?_
    refine m_get (ci := 0) (v := .int (iI z)) (C := RX0) (T := TX0) (N := 4) hx hb hts (by decide +kernel) hown K hG h rfl 3 (by decide) (by decide +kernel) rfl dX0_isEmpty_16 ?_
    refine m_icmp_le (tgt := 26) hx hb dX0_isEmpty_19 (by decide) ⟨by omega, by omega⟩ ⟨by omega, by omega⟩ (fun c19 => ?_) (fun c19 => ?_)
    · refine lv_iconst (v := iI 0) hx hb dX0_isEmpty_26 rfl ?_
      exact m_zret hx hb hr hlk hQ hG hS (Nat.le_of_ble_eq_true rfl) (Nat.le_of_ble_eq_true rfl) dX0_isEmpty_27 (Or.inl rfl) ⟨congrArg iI (by first | rfl | omega | (split <;> omega)), rfl⟩
    · refine lv_iconst (v := iI 1) hx hb dX0_isEmpty_22 rfl ?_
      refine lv_goto (tgt := 27) hx hb dX0_isEmpty_23 (by decide) ?_
      exact m_zret hx hb hr hlk hQ hG hS (Nat.le_of_ble_eq_true rfl) (Nat.le_of_ble_eq_true rfl) dX0_isEmpty_27 (Or.inr rfl) ⟨congrArg iI (by first | rfl | omega | (split <;> omega)), rfl⟩

set_option maxHeartbeats 4000000 in
set_option maxRecDepth 100000 in
theorem c_X0_size (l : Launch) (D : va_G) (b : Nat) (M : mM) (h0 : Nat) (w x y z : Int) (h : M h0 = some (Bx w x y z)) : Met l yX0_size wsX0_size ({ frames := 0, cells := 0, slots := 0, locals := 0 } : Room) (mPc [.ref h0] D b M) (mQi D b (fI ((x - w + 1) * (z - y + 1)) M)) 0 0 (mF b) := by
  refine m_met (cc := cX0_size) (maxL := 1) (ret := (some .int)) (by decide) rfl (Nat.le_of_ble_eq_true rfl) ?_
  intro p e s m args below meth c Q ls hx hb hml hr hts hown hlk hnm hQ K hG hS hl
  have hown : s.vm.findClass RX0 = some m.cls := hown
  have hl : lv_has ls 1 [(0, .ref h0)] := hl
  refine lv_aload_n hx hb dX0_size_0 rfl (lv_at hl 0 rfl) ?_
  refine m_get (ci := 0) (v := .int (iI x)) (C := RX0) (T := TX0) (N := 4) hx hb hts (by decide +kernel) hown K hG h rfl 1 (by decide) (by decide +kernel) rfl dX0_size_1 ?_
  refine lv_aload_n hx hb dX0_size_4 rfl (lv_at hl 0 rfl) ?_
  refine m_get (ci := 0) (v := .int (iI w)) (C := RX0) (T := TX0) (N := 4) hx hb hts (by decide +kernel) hown K hG h rfl 0 (by decide) (by decide +kernel) rfl dX0_size_5 ?_
  refine m_isub hx hb dX0_size_8 ?_
  refine lv_iconst (v := iI 1) hx hb dX0_size_9 rfl ?_
  refine m_iadd hx hb dX0_size_10 ?_
  refine lv_aload_n hx hb dX0_size_11 rfl (lv_at hl 0 rfl) ?_
  refine m_get (ci := 0) (v := .int (iI z)) (C := RX0) (T := TX0) (N := 4) hx hb hts (by decide +kernel) hown K hG h rfl 3 (by decide) (by decide +kernel) rfl dX0_size_12 ?_
  refine lv_aload_n hx hb dX0_size_15 rfl (lv_at hl 0 rfl) ?_
  refine m_get (ci := 0) (v := .int (iI y)) (C := RX0) (T := TX0) (N := 4) hx hb hts (by decide +kernel) hown K hG h rfl 2 (by decide) (by decide +kernel) rfl dX0_size_16 ?_
  refine m_isub hx hb dX0_size_19 ?_
  refine lv_iconst (v := iI 1) hx hb dX0_size_20 rfl ?_
  refine m_iadd hx hb dX0_size_21 ?_
  refine m_imul hx hb dX0_size_22 ?_
  exact m_iret hx hb hr hlk hQ hG hS (Nat.le_of_ble_eq_true rfl) (Nat.le_of_ble_eq_true rfl) dX0_size_23 ⟨congrArg iI (by first | rfl | omega | (split <;> omega)), rfl⟩

set_option maxHeartbeats 4000000 in
set_option maxRecDepth 100000 in
theorem c_X0_leastApart (l : Launch) (D : va_G) (b : Nat) (M : mM) (h0 : Nat) (w x y z : Int) (h : M h0 = some (Bx w x y z)) (hw : sm w) (hx0 : sm x) (hy0 : sm y) (hz0 : sm z) (o : Nat) (w2 x2 y2 z2 : Int) (h2 : M o = some (Bx w2 x2 y2 z2)) (hw2 : sm w2) (hx2 : sm x2) (hy2 : sm y2) (hz2 : sm z2) : Met l yX0_leastApart wsX0_leastApart ({ frames := 1, cells := 0, slots := 0, locals := 14 } : Room) (mPc [.ref h0, .ref o] D b M) (mQi D b (fI (max 0 (max (max (w - x2) (w2 - x)) (max (y - z2) (y2 - z)))) M)) 0 0 (mF b) := by
  refine m_met (cc := cX0_leastApart) (maxL := 4) (ret := (some .int)) (by decide) rfl (Nat.le_of_ble_eq_true rfl) ?_
  intro p e s m args below meth c Q ls hx hb hml hr hts hown hlk hnm hQ K hG hS hl
  have hown : s.vm.findClass RX0 = some m.cls := hown
  have hl : lv_has ls 4 [(0, .ref h0), (1, .ref o)] := hl
  refine lv_aload_n hx hb dX0_leastApart_0 rfl (lv_at hl 0 rfl) ?_
  refine m_get (ci := 0) (v := .int (iI w)) (C := RX0) (T := TX0) (N := 4) hx hb hts (by decide +kernel) hown K hG h rfl 0 (by decide) (by decide +kernel) rfl dX0_leastApart_1 ?_
  refine lv_aload_n hx hb dX0_leastApart_4 rfl (lv_at hl 1 rfl) ?_
  refine m_get (ci := 0) (v := .int (iI x2)) (C := RX0) (T := TX0) (N := 4) hx hb hts (by decide +kernel) hown K hG h2 rfl 1 (by decide) (by decide +kernel) rfl dX0_leastApart_5 ?_
  refine m_isub hx hb dX0_leastApart_8 ?_
  refine lv_aload_n hx hb dX0_leastApart_9 rfl (lv_at hl 1 rfl) ?_
  refine m_get (ci := 0) (v := .int (iI w2)) (C := RX0) (T := TX0) (N := 4) hx hb hts (by decide +kernel) hown K hG h2 rfl 0 (by decide) (by decide +kernel) rfl dX0_leastApart_10 ?_
  refine lv_aload_n hx hb dX0_leastApart_13 rfl (lv_at hl 0 rfl) ?_
  refine m_get (ci := 0) (v := .int (iI x)) (C := RX0) (T := TX0) (N := 4) hx hb hts (by decide +kernel) hown K hG h rfl 1 (by decide) (by decide +kernel) rfl dX0_leastApart_14 ?_
  refine m_isub hx hb dX0_leastApart_17 ?_
  refine m_mmax hx hb (hml.trans hl.1.symm) hts hown (by decide +kernel) (by decide +kernel) (by decide +kernel) (by decide +kernel) (Nat.le_of_ble_eq_true rfl) (Nat.le_of_ble_eq_true rfl) (Nat.zero_le _) (Nat.zero_le _) ⟨by omega, by omega⟩ ⟨by omega, by omega⟩ dX0_leastApart_18 ?_
  refine lv_istore_n (lv' := [(2, .int (iI (max (w - x2) (w2 - x)))), (0, .ref h0), (1, .ref o)]) hx hb dX0_leastApart_21 rfl hl (by decide) rfl (fun ls hl => ?_)
  refine lv_aload_n hx hb dX0_leastApart_22 rfl (lv_at hl 1 rfl) ?_
  refine m_get (ci := 0) (v := .int (iI y)) (C := RX0) (T := TX0) (N := 4) hx hb hts (by decide +kernel) hown K hG h rfl 2 (by decide) (by decide +kernel) rfl dX0_leastApart_23 ?_
  refine lv_aload_n hx hb dX0_leastApart_26 rfl (lv_at hl 2 rfl) ?_
  refine m_get (ci := 0) (v := .int (iI z2)) (C := RX0) (T := TX0) (N := 4) hx hb hts (by decide +kernel) hown K hG h2 rfl 3 (by decide) (by decide +kernel) rfl dX0_leastApart_27 ?_
  refine m_isub hx hb dX0_leastApart_30 ?_
  refine lv_aload_n hx hb dX0_leastApart_31 rfl (lv_at hl 2 rfl) ?_
  refine m_get (ci := 0) (v := .int (iI y2)) (C := RX0) (T := TX0) (N := 4) hx hb hts (by decide +kernel) hown K hG h2 rfl 2 (by decide) (by decide +kernel) rfl dX0_leastApart_32 ?_
  refine lv_aload_n hx hb dX0_leastApart_35 rfl (lv_at hl 1 rfl) ?_
  refine m_get (ci := 0) (v := .int (iI z)) (C := RX0) (T := TX0) (N := 4) hx hb hts (by decide +kernel) hown K hG h rfl 3 (by decide) (by decide +kernel) rfl dX0_leastApart_36 ?_
  refine m_isub hx hb dX0_leastApart_39 ?_
  refine m_mmax hx hb (hml.trans hl.1.symm) hts hown (by decide +kernel) (by decide +kernel) (by decide +kernel) (by decide +kernel) (Nat.le_of_ble_eq_true rfl) (Nat.le_of_ble_eq_true rfl) (Nat.zero_le _) (Nat.zero_le _) ⟨by omega, by omega⟩ ⟨by omega, by omega⟩ dX0_leastApart_40 ?_
  refine lv_istore_n (lv' := [(3, .int (iI (max (y - z2) (y2 - z)))), (2, .int (iI (max (w - x2) (w2 - x)))), (0, .ref h0), (1, .ref o)]) hx hb dX0_leastApart_43 rfl hl (by decide) rfl (fun ls hl => ?_)
  refine lv_iconst (v := iI 0) hx hb dX0_leastApart_44 rfl ?_
  refine lv_iload_n hx hb dX0_leastApart_45 rfl (lv_at hl 1 rfl) ?_
  refine lv_iload_n hx hb dX0_leastApart_46 rfl (lv_at hl 0 rfl) ?_
  refine m_mmax hx hb (hml.trans hl.1.symm) hts hown (by decide +kernel) (by decide +kernel) (by decide +kernel) (by decide +kernel) (Nat.le_of_ble_eq_true rfl) (Nat.le_of_ble_eq_true rfl) (Nat.zero_le _) (Nat.zero_le _) ⟨by omega, by omega⟩ ⟨by omega, by omega⟩ dX0_leastApart_47 ?_
  refine m_mmax hx hb (hml.trans hl.1.symm) hts hown (by decide +kernel) (by decide +kernel) (by decide +kernel) (by decide +kernel) (Nat.le_of_ble_eq_true rfl) (Nat.le_of_ble_eq_true rfl) (Nat.zero_le _) (Nat.zero_le _) ⟨by omega, by omega⟩ ⟨by omega, by omega⟩ dX0_leastApart_50 ?_
  exact m_iret hx hb hr hlk hQ hG hS (Nat.le_of_ble_eq_true rfl) (Nat.le_of_ble_eq_true rfl) dX0_leastApart_53 ⟨congrArg iI (by first | rfl | omega | (split <;> omega)), rfl⟩

set_option maxHeartbeats 4000000 in
set_option maxRecDepth 100000 in
theorem c_X0_mostApart (l : Launch) (D : va_G) (b : Nat) (M : mM) (h0 : Nat) (w x y z : Int) (h : M h0 = some (Bx w x y z)) (hw : sm w) (hx0 : sm x) (hy0 : sm y) (hz0 : sm z) (o : Nat) (w2 x2 y2 z2 : Int) (h2 : M o = some (Bx w2 x2 y2 z2)) (hw2 : sm w2) (hx2 : sm x2) (hy2 : sm y2) (hz2 : sm z2) : Met l yX0_mostApart wsX0_mostApart ({ frames := 1, cells := 0, slots := 0, locals := 13 } : Room) (mPc [.ref h0, .ref o] D b M) (mQi D b (fI (max (max (x - w2) (x2 - w)) (max (z - y2) (z2 - y))) M)) 0 0 (mF b) := by
  refine m_met (cc := cX0_mostApart) (maxL := 4) (ret := (some .int)) (by decide) rfl (Nat.le_of_ble_eq_true rfl) ?_
  intro p e s m args below meth c Q ls hx hb hml hr hts hown hlk hnm hQ K hG hS hl
  have hown : s.vm.findClass RX0 = some m.cls := hown
  have hl : lv_has ls 4 [(0, .ref h0), (1, .ref o)] := hl
  refine lv_aload_n hx hb dX0_mostApart_0 rfl (lv_at hl 0 rfl) ?_
  refine m_get (ci := 0) (v := .int (iI x)) (C := RX0) (T := TX0) (N := 4) hx hb hts (by decide +kernel) hown K hG h rfl 1 (by decide) (by decide +kernel) rfl dX0_mostApart_1 ?_
  refine lv_aload_n hx hb dX0_mostApart_4 rfl (lv_at hl 1 rfl) ?_
  refine m_get (ci := 0) (v := .int (iI w2)) (C := RX0) (T := TX0) (N := 4) hx hb hts (by decide +kernel) hown K hG h2 rfl 0 (by decide) (by decide +kernel) rfl dX0_mostApart_5 ?_
  refine m_isub hx hb dX0_mostApart_8 ?_
  refine lv_aload_n hx hb dX0_mostApart_9 rfl (lv_at hl 1 rfl) ?_
  refine m_get (ci := 0) (v := .int (iI x2)) (C := RX0) (T := TX0) (N := 4) hx hb hts (by decide +kernel) hown K hG h2 rfl 1 (by decide) (by decide +kernel) rfl dX0_mostApart_10 ?_
  refine lv_aload_n hx hb dX0_mostApart_13 rfl (lv_at hl 0 rfl) ?_
  refine m_get (ci := 0) (v := .int (iI w)) (C := RX0) (T := TX0) (N := 4) hx hb hts (by decide +kernel) hown K hG h rfl 0 (by decide) (by decide +kernel) rfl dX0_mostApart_14 ?_
  refine m_isub hx hb dX0_mostApart_17 ?_
  refine m_mmax hx hb (hml.trans hl.1.symm) hts hown (by decide +kernel) (by decide +kernel) (by decide +kernel) (by decide +kernel) (Nat.le_of_ble_eq_true rfl) (Nat.le_of_ble_eq_true rfl) (Nat.zero_le _) (Nat.zero_le _) ⟨by omega, by omega⟩ ⟨by omega, by omega⟩ dX0_mostApart_18 ?_
  refine lv_istore_n (lv' := [(2, .int (iI (max (x - w2) (x2 - w)))), (0, .ref h0), (1, .ref o)]) hx hb dX0_mostApart_21 rfl hl (by decide) rfl (fun ls hl => ?_)
  refine lv_aload_n hx hb dX0_mostApart_22 rfl (lv_at hl 1 rfl) ?_
  refine m_get (ci := 0) (v := .int (iI z)) (C := RX0) (T := TX0) (N := 4) hx hb hts (by decide +kernel) hown K hG h rfl 3 (by decide) (by decide +kernel) rfl dX0_mostApart_23 ?_
  refine lv_aload_n hx hb dX0_mostApart_26 rfl (lv_at hl 2 rfl) ?_
  refine m_get (ci := 0) (v := .int (iI y2)) (C := RX0) (T := TX0) (N := 4) hx hb hts (by decide +kernel) hown K hG h2 rfl 2 (by decide) (by decide +kernel) rfl dX0_mostApart_27 ?_
  refine m_isub hx hb dX0_mostApart_30 ?_
  refine lv_aload_n hx hb dX0_mostApart_31 rfl (lv_at hl 2 rfl) ?_
  refine m_get (ci := 0) (v := .int (iI z2)) (C := RX0) (T := TX0) (N := 4) hx hb hts (by decide +kernel) hown K hG h2 rfl 3 (by decide) (by decide +kernel) rfl dX0_mostApart_32 ?_
  refine lv_aload_n hx hb dX0_mostApart_35 rfl (lv_at hl 1 rfl) ?_
  refine m_get (ci := 0) (v := .int (iI y)) (C := RX0) (T := TX0) (N := 4) hx hb hts (by decide +kernel) hown K hG h rfl 2 (by decide) (by decide +kernel) rfl dX0_mostApart_36 ?_
  refine m_isub hx hb dX0_mostApart_39 ?_
  refine m_mmax hx hb (hml.trans hl.1.symm) hts hown (by decide +kernel) (by decide +kernel) (by decide +kernel) (by decide +kernel) (Nat.le_of_ble_eq_true rfl) (Nat.le_of_ble_eq_true rfl) (Nat.zero_le _) (Nat.zero_le _) ⟨by omega, by omega⟩ ⟨by omega, by omega⟩ dX0_mostApart_40 ?_
  refine lv_istore_n (lv' := [(3, .int (iI (max (z - y2) (z2 - y)))), (2, .int (iI (max (x - w2) (x2 - w)))), (0, .ref h0), (1, .ref o)]) hx hb dX0_mostApart_43 rfl hl (by decide) rfl (fun ls hl => ?_)
  refine lv_iload_n hx hb dX0_mostApart_44 rfl (lv_at hl 1 rfl) ?_
  refine lv_iload_n hx hb dX0_mostApart_45 rfl (lv_at hl 0 rfl) ?_
  refine m_mmax hx hb (hml.trans hl.1.symm) hts hown (by decide +kernel) (by decide +kernel) (by decide +kernel) (by decide +kernel) (Nat.le_of_ble_eq_true rfl) (Nat.le_of_ble_eq_true rfl) (Nat.zero_le _) (Nat.zero_le _) ⟨by omega, by omega⟩ ⟨by omega, by omega⟩ dX0_mostApart_46 ?_
  exact m_iret hx hb hr hlk hQ hG hS (Nat.le_of_ble_eq_true rfl) (Nat.le_of_ble_eq_true rfl) dX0_mostApart_49 ⟨congrArg iI (by first | rfl | omega | (split <;> omega)), rfl⟩

set_option maxHeartbeats 4000000 in
set_option maxRecDepth 100000 in
theorem c_X0_rowBits (l : Launch) (D : va_G) (b : Nat) (M : mM) (h0 : Nat) (w x y z : Int) (h : M h0 = some (Bx w x y z)) (hy : 0 ≤ y) (hyz : y ≤ z) (hz : z ≤ 63) : Met l yX0_rowBits wsX0_rowBits ({ frames := 0, cells := 0, slots := 0, locals := 0 } : Room) (mPc [.ref h0] D b M) (mQl D b (fL (fun t => decide (y ≤ (t : Int) ∧ (t : Int) ≤ z)) M)) 0 0 (mF b) := by
  refine m_met (cc := cX0_rowBits) (maxL := 1) (ret := (some .long)) (by decide) rfl (Nat.le_of_ble_eq_true rfl) ?_
  intro p e s m args below meth c Q ls hx hb hml hr hts hown hlk hnm hQ K hG hS hl
  have hown : s.vm.findClass RX0 = some m.cls := hown
  have hl : lv_has ls 1 [(0, .ref h0)] := hl
  refine lv_ldc2 (v := -1) hx hb hown (hts _ (by decide +kernel : Cond.constantLong RX0 33 (-1) ∈ wsX0_rowBits)) dX0_rowBits_0 ?_
  refine m_topl bO_m1 ?_
  refine lv_bipush (v := iI 63) hx hb dX0_rowBits_3 (by decide) ?_
  refine lv_aload_n hx hb dX0_rowBits_5 rfl (lv_at hl 0 rfl) ?_
  refine m_get (ci := 0) (v := .int (iI z)) (C := RX0) (T := TX0) (N := 4) hx hb hts (by decide +kernel) hown K hG h rfl 3 (by decide) (by decide +kernel) rfl dX0_rowBits_6 ?_
  refine lv_aload_n hx hb dX0_rowBits_9 rfl (lv_at hl 0 rfl) ?_
  refine m_get (ci := 0) (v := .int (iI y)) (C := RX0) (T := TX0) (N := 4) hx hb hts (by decide +kernel) hown K hG h rfl 2 (by decide) (by decide +kernel) rfl dX0_rowBits_10 ?_
  refine m_isub hx hb dX0_rowBits_13 ?_
  refine m_isub hx hb dX0_rowBits_14 ?_
  refine m_lushr hx hb (63 - (z - y)).toNat (by omega) (by omega) dX0_rowBits_15 ?_
  refine lv_aload_n hx hb dX0_rowBits_16 rfl (lv_at hl 0 rfl) ?_
  refine m_get (ci := 0) (v := .int (iI y)) (C := RX0) (T := TX0) (N := 4) hx hb hts (by decide +kernel) hown K hG h rfl 2 (by decide) (by decide +kernel) rfl dX0_rowBits_17 ?_
  refine m_lshl hx hb y.toNat (by omega) (by omega) dX0_rowBits_20 ?_
  exact m_lret hx hb hr hlk hQ hG hS (Nat.le_of_ble_eq_true rfl) (Nat.le_of_ble_eq_true rfl) dX0_rowBits_21 ⟨bO_cong (fun t ht => by rw [Bool.and_true, ← Bool.decide_and]; exact decide_eq_decide.mpr (by omega)), rfl⟩

