set_option maxHeartbeats 4000000 in
set_option maxRecDepth 100000 in
theorem c_X4_isTick (l : Launch) (D : va_G) (b : Nat) (M : mM) (t : Int) (h : rg t) : Met l yX4_isTick wsX4_isTick ({ frames := 0, cells := 0, slots := 0, locals := 0 } : Room) (mPc [.int (iI t)] D b M) (mQi D b (fI (if 0 ≤ t ∧ t < 80 then 1 else 0) M)) 0 0 (mF b) := by
  refine m_met (cc := cX4_isTick) (maxL := 1) (ret := (some .boolean)) (by decide) rfl (Nat.le_of_ble_eq_true rfl) ?_
  intro p e s m args below meth c Q ls hx hb hml hr hts hown hlk hnm hQ K hG hS hl
  have hown : s.vm.findClass RX4 = some m.cls := hown
  have hl : lv_has ls 1 [(0, .int (iI t))] := hl
  refine lv_iload_n hx hb dX4_isTick_0 rfl (lv_at hl 0 rfl) ?_
  refine m_if_lt (tgt := 14) hx hb dX4_isTick_1 (by decide) h (fun c1 => ?_) (fun c1 => ?_)
  · refine lv_iconst (v := iI 0) hx hb dX4_isTick_14 rfl ?_
    exact m_zret hx hb hr hlk hQ hG hS (Nat.le_of_ble_eq_true rfl) (Nat.le_of_ble_eq_true rfl) dX4_isTick_15 (Or.inl rfl) ⟨congrArg iI (by first | rfl | omega | (split <;> omega)), rfl⟩
  · refine lv_iload_n hx hb dX4_isTick_4 rfl (lv_at hl 0 rfl) ?_
    refine lv_bipush (v := iI 80) hx hb dX4_isTick_5 (by decide) ?_
    refine m_icmp_ge (tgt := 14) hx hb dX4_isTick_7 (by decide) h ⟨by omega, by omega⟩ (fun c7 => ?_) (fun c7 => ?_)
    · refine lv_iconst (v := iI 0) hx hb dX4_isTick_14 rfl ?_
      exact m_zret hx hb hr hlk hQ hG hS (Nat.le_of_ble_eq_true rfl) (Nat.le_of_ble_eq_true rfl) dX4_isTick_15 (Or.inl rfl) ⟨congrArg iI (by first | rfl | omega | (split <;> omega)), rfl⟩
    · refine lv_iconst (v := iI 1) hx hb dX4_isTick_10 rfl ?_
      refine lv_goto (tgt := 15) hx hb dX4_isTick_11 (by decide) ?_
      exact m_zret hx hb hr hlk hQ hG hS (Nat.le_of_ble_eq_true rfl) (Nat.le_of_ble_eq_true rfl) dX4_isTick_15 (Or.inr rfl) ⟨congrArg iI (by first | rfl | omega | (split <;> omega)), rfl⟩

set_option maxHeartbeats 4000000 in
set_option maxRecDepth 100000 in
theorem c_X4_isPlace (l : Launch) (D : va_G) (b : Nat) (M : mM) (t : Int) (h : rg t) : Met l yX4_isPlace wsX4_isPlace ({ frames := 0, cells := 0, slots := 0, locals := 0 } : Room) (mPc [.int (iI t)] D b M) (mQi D b (fI (if 0 ≤ t ∧ t < 4096 then 1 else 0) M)) 0 0 (mF b) := by
  refine m_met (cc := cX4_isPlace) (maxL := 1) (ret := (some .boolean)) (by decide) rfl (Nat.le_of_ble_eq_true rfl) ?_
  intro p e s m args below meth c Q ls hx hb hml hr hts hown hlk hnm hQ K hG hS hl
  have hown : s.vm.findClass RX4 = some m.cls := hown
  have hl : lv_has ls 1 [(0, .int (iI t))] := hl
  refine lv_iload_n hx hb dX4_isPlace_0 rfl (lv_at hl 0 rfl) ?_
  refine m_if_lt (tgt := 15) hx hb dX4_isPlace_1 (by decide) h (fun c1 => ?_) (fun c1 => ?_)
  · refine lv_iconst (v := iI 0) hx hb dX4_isPlace_15 rfl ?_
    exact m_zret hx hb hr hlk hQ hG hS (Nat.le_of_ble_eq_true rfl) (Nat.le_of_ble_eq_true rfl) dX4_isPlace_16 (Or.inl rfl) ⟨congrArg iI (by first | rfl | omega | (split <;> omega)), rfl⟩
  · refine lv_iload_n hx hb dX4_isPlace_4 rfl (lv_at hl 0 rfl) ?_
    refine lv_sipush (v := iI 4096) hx hb dX4_isPlace_5 (by decide) ?_
    refine m_icmp_ge (tgt := 15) hx hb dX4_isPlace_8 (by decide) h ⟨by omega, by omega⟩ (fun c8 => ?_) (fun c8 => ?_)
    · refine lv_iconst (v := iI 0) hx hb dX4_isPlace_15 rfl ?_
      exact m_zret hx hb hr hlk hQ hG hS (Nat.le_of_ble_eq_true rfl) (Nat.le_of_ble_eq_true rfl) dX4_isPlace_16 (Or.inl rfl) ⟨congrArg iI (by first | rfl | omega | (split <;> omega)), rfl⟩
    · refine lv_iconst (v := iI 1) hx hb dX4_isPlace_11 rfl ?_
      refine lv_goto (tgt := 16) hx hb dX4_isPlace_12 (by decide) ?_
      exact m_zret hx hb hr hlk hQ hG hS (Nat.le_of_ble_eq_true rfl) (Nat.le_of_ble_eq_true rfl) dX4_isPlace_16 (Or.inr rfl) ⟨congrArg iI (by first | rfl | omega | (split <;> omega)), rfl⟩

set_option maxHeartbeats 4000000 in
set_option maxRecDepth 100000 in
theorem c_X4_xOf (l : Launch) (D : va_G) (b : Nat) (M : mM) (t : Int) (h : 0 ≤ t) (h2 : t < 4096) : Met l yX4_xOf wsX4_xOf ({ frames := 0, cells := 0, slots := 0, locals := 0 } : Room) (mPc [.int (iI t)] D b M) (mQi D b (fI (t / 64) M)) 0 0 (mF b) := by
  refine m_met (cc := cX4_xOf) (maxL := 1) (ret := (some .int)) (by decide) rfl (Nat.le_of_ble_eq_true rfl) ?_
  intro p e s m args below meth c Q ls hx hb hml hr hts hown hlk hnm hQ K hG hS hl
  have hown : s.vm.findClass RX4 = some m.cls := hown
  have hl : lv_has ls 1 [(0, .int (iI t))] := hl
  refine lv_iload_n hx hb dX4_xOf_0 rfl (lv_at hl 0 rfl) ?_
  refine lv_bipush (v := iI 64) hx hb dX4_xOf_1 (by decide) ?_
  refine m_idiv hx hb dX4_xOf_3 (by omega) (by omega) ?_
  exact m_iret hx hb hr hlk hQ hG hS (Nat.le_of_ble_eq_true rfl) (Nat.le_of_ble_eq_true rfl) dX4_xOf_4 ⟨congrArg iI (by first | rfl | omega | (split <;> omega)), rfl⟩

set_option maxHeartbeats 4000000 in
set_option maxRecDepth 100000 in
theorem c_X4_yOf (l : Launch) (D : va_G) (b : Nat) (M : mM) (t : Int) (h : 0 ≤ t) (h2 : t < 4096) : Met l yX4_yOf wsX4_yOf ({ frames := 0, cells := 0, slots := 0, locals := 0 } : Room) (mPc [.int (iI t)] D b M) (mQi D b (fI (t % 64) M)) 0 0 (mF b) := by
  refine m_met (cc := cX4_yOf) (maxL := 1) (ret := (some .int)) (by decide) rfl (Nat.le_of_ble_eq_true rfl) ?_
  intro p e s m args below meth c Q ls hx hb hml hr hts hown hlk hnm hQ K hG hS hl
  have hown : s.vm.findClass RX4 = some m.cls := hown
  have hl : lv_has ls 1 [(0, .int (iI t))] := hl
  refine lv_iload_n hx hb dX4_yOf_0 rfl (lv_at hl 0 rfl) ?_
  refine lv_bipush (v := iI 64) hx hb dX4_yOf_1 (by decide) ?_
  refine m_irem hx hb dX4_yOf_3 (by omega) (by omega) ?_
  exact m_iret hx hb hr hlk hQ hG hS (Nat.le_of_ble_eq_true rfl) (Nat.le_of_ble_eq_true rfl) dX4_yOf_4 ⟨congrArg iI (by first | rfl | omega | (split <;> omega)), rfl⟩

set_option maxHeartbeats 4000000 in
set_option maxRecDepth 100000 in
theorem c_X4_isStretch (l : Launch) (D : va_G) (b : Nat) (M : mM) (t u : Int) (h : rg t) (h2 : rg u) : Met l yX4_isStretch wsX4_isStretch ({ frames := 1, cells := 0, slots := 0, locals := 20 } : Room) (mPc [.int (iI t), .int (iI u)] D b M) (mQi D b (fI (if (0 ≤ t ∧ t < 80) ∧ (0 ≤ u ∧ u < 80) ∧ t ≤ u then 1 else 0) M)) 0 0 (mF b) := by
  refine m_met (cc := cX4_isStretch) (maxL := 2) (ret := (some .boolean)) (by decide) rfl (Nat.le_of_ble_eq_true rfl) ?_
  intro p e s m args below meth c Q ls hx hb hml hr hts hown hlk hnm hQ K hG hS hl
  have hown : s.vm.findClass RX4 = some m.cls := hown
  have hl : lv_has ls 2 [(0, .int (iI t)), (1, .int (iI u))] := hl
  refine lv_iload_n hx hb dX4_isStretch_0 rfl (lv_at hl 0 rfl) ?_
  refine m_callfi (m_runS (As := [.int (iI t)]) (rest := []) ⟨hx, hb, hml, hown, hts⟩ (c_X4_isTick l D b _ t h) (va_cwS 1 hts gX4_isStretch_X4_isTick rfl rfl rfl (by decide +kernel) ⟨Nat.le_of_ble_eq_true rfl, Nat.le_of_ble_eq_true rfl⟩) K hG rfl hl.1 rfl (Nat.le_of_ble_eq_true rfl) dX4_isStretch_1 ⟨Nat.le_of_ble_eq_true rfl, Nat.le_of_ble_eq_true rfl⟩) hS (fun H locs hG hS => ?_)
  have hG : mG D b M s H := hG
  refine m_ifb_eq (tgt := 23) hx hb dX4_isStretch_4 (by decide) (fun c4 => ?_) (fun c4 => ?_)
  · refine lv_iconst (v := iI 0) hx hb dX4_isStretch_23 rfl ?_
    exact m_zret hx hb hr hlk hQ hG hS (Nat.le_of_ble_eq_true rfl) (Nat.le_of_ble_eq_true rfl) dX4_isStretch_24 (Or.inl rfl) ⟨congrArg iI (by first | rfl | omega | (split <;> omega)), rfl⟩
  · refine lv_iload_n hx hb dX4_isStretch_7 rfl (lv_at hl 1 rfl) ?_
    refine m_callfi (m_runS (As := [.int (iI u)]) (rest := []) ⟨hx, hb, hml, hown, hts⟩ (c_X4_isTick l D b _ u h2) (va_cwS 1 hts gX4_isStretch_X4_isTick rfl rfl rfl (by decide +kernel) ⟨Nat.le_of_ble_eq_true rfl, Nat.le_of_ble_eq_true rfl⟩) K hG rfl hl.1 rfl (Nat.le_of_ble_eq_true rfl) dX4_isStretch_8 ⟨Nat.le_of_ble_eq_true rfl, Nat.le_of_ble_eq_true rfl⟩) hS (fun H locs hG hS => ?_)
    have hG : mG D b M s H := hG
    refine m_ifb_eq (tgt := 23) hx hb dX4_isStretch_11 (by decide) (fun c11 => ?_) (fun c11 => ?_)
    · refine lv_iconst (v := iI 0) hx hb dX4_isStretch_23 rfl ?_
      exact m_zret hx hb hr hlk hQ hG hS (Nat.le_of_ble_eq_true rfl) (Nat.le_of_ble_eq_true rfl) dX4_isStretch_24 (Or.inl rfl) ⟨congrArg iI (by first | rfl | omega | (split <;> omega)), rfl⟩
    · refine lv_iload_n hx hb dX4_isStretch_14 rfl (lv_at hl 0 rfl) ?_
      refine lv_iload_n hx hb dX4_isStretch_15 rfl (lv_at hl 1 rfl) ?_
      refine m_icmp_gt (tgt := 23) hx hb dX4_isStretch_16 (by decide) h h2 (fun c16 => ?_) (fun c16 => ?_)
      · refine lv_iconst (v := iI 0) hx hb dX4_isStretch_23 rfl ?_
        exact m_zret hx hb hr hlk hQ hG hS (Nat.le_of_ble_eq_true rfl) (Nat.le_of_ble_eq_true rfl) dX4_isStretch_24 (Or.inl rfl) ⟨congrArg iI (by first | rfl | omega | (split <;> omega)), rfl⟩
      · refine lv_iconst (v := iI 1) hx hb dX4_isStretch_19 rfl ?_
        refine lv_goto (tgt := 24) hx hb dX4_isStretch_20 (by decide) ?_
        exact m_zret hx hb hr hlk hQ hG hS (Nat.le_of_ble_eq_true rfl) (Nat.le_of_ble_eq_true rfl) dX4_isStretch_24 (Or.inr rfl) ⟨congrArg iI (by first | rfl | omega | (split <;> omega)), rfl⟩

