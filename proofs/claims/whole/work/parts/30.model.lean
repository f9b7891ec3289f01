/-- the reference: its object and its rows, by numbers: 0 the object, 1 speed, 2 sights, 3 jumped, 4 seenAt, 5 seenX, 6 seenY, 7 radius, 8 isGround, 9 value, 10 across -/
abbrev Mo (am : Nat → Nat) (nt ng : Int) : mE := .inr (5, [.int (iI nt), .ref (am 1), .ref (am 2), .ref (am 3), .ref (am 4), .ref (am 5), .ref (am 6), .ref (am 7), .int (iI ng), .ref (am 8), .ref (am 9), .ref (am 10)])
def MoOk (M : mM) (am : Nat → Nat) (nt ng : Int) (sp nn jj sa sx sy ra : Nat → Int) (gz : Nat → Bool) (va ac : Nat → Int) : Prop :=
  M (am 0) = some (Mo am nt ng) ∧ M (am 1) = some (aI 6 sp) ∧ M (am 2) = some (aI 6 nn) ∧ M (am 3) = some (aI 6 jj) ∧ M (am 4) = some (aI 72 sa) ∧ M (am 5) = some (aI 72 sx) ∧ M (am 6) = some (aI 72 sy) ∧ M (am 7) = some (aI 72 ra) ∧ M (am 8) = some (aZ 16384 gz) ∧ M (am 9) = some (aI 4096 va) ∧ M (am 10) = some (aI 4096 ac) ∧ (∀ i j, i ≤ 10 → j ≤ 10 → am i = am j → i = j) ∧ (0 ≤ nt ∧ nt ≤ 6 ∧ 0 ≤ ng ∧ ng ≤ 4)
theorem am_ne {am : Nat → Nat} (h : ∀ i j, i ≤ 10 → j ≤ 10 → am i = am j → i = j) {i j : Nat} (hi : i ≤ 10) (hj : j ≤ 10) (hn : i ≠ j) : am i ≠ am j := fun z => hn (h i j hi hj z)

set_option maxHeartbeats 4000000 in
set_option maxRecDepth 100000 in
theorem c_X5_in (l : Launch) (D : va_G) (b : Nat) (M : mM) (t u v : Int) (hrt : rg t) (hru : rg u) (hrv : rg v) : Met l yX5_in wsX5_in ({ frames := 0, cells := 0, slots := 0, locals := 0 } : Room) (mPc [.int (iI t), .int (iI u), .int (iI v)] D b M) (mQi D b (fI (if u ≤ t ∧ t ≤ v then 1 else 0) M)) 0 0 (mF b) := by
  refine m_met (cc := cX5_in) (maxL := 3) (ret := (some .boolean)) (by decide) rfl (Nat.le_of_ble_eq_true rfl) ?_
  intro p e s m args below meth c Q ls hx hb hml hr hts hown hlk hnm hQ K hG hS hl
  have hown : s.vm.findClass RX5 = some m.cls := hown
  have hl : lv_has ls 3 [(0, .int (iI t)), (1, .int (iI u)), (2, .int (iI v))] := hl
  refine lv_iload_n hx hb dX5_in_0 rfl (lv_at hl 0 rfl) ?_
  refine lv_iload_n hx hb dX5_in_1 rfl (lv_at hl 1 rfl) ?_
  refine m_icmp_lt (tgt := 14) hx hb dX5_in_2 (by decide) hrt hru (fun c2 => ?_) (fun c2 => ?_)
  · refine lv_iconst (v := iI 0) hx hb dX5_in_14 rfl ?_
    exact m_zret hx hb hr hlk hQ hG hS (Nat.le_of_ble_eq_true rfl) (Nat.le_of_ble_eq_true rfl) dX5_in_15 (Or.inl rfl) ⟨congrArg iI (by first | rfl | omega | (split <;> omega)), rfl⟩
  · refine lv_iload_n hx hb dX5_in_5 rfl (lv_at hl 0 rfl) ?_
    refine lv_iload_n hx hb dX5_in_6 rfl (lv_at hl 2 rfl) ?_
    refine m_icmp_gt (tgt := 14) hx hb dX5_in_7 (by decide) hrt hrv (fun c7 => ?_) (fun c7 => ?_)
    · refine lv_iconst (v := iI 0) hx hb dX5_in_14 rfl ?_
      exact m_zret hx hb hr hlk hQ hG hS (Nat.le_of_ble_eq_true rfl) (Nat.le_of_ble_eq_true rfl) dX5_in_15 (Or.inl rfl) ⟨congrArg iI (by first | rfl | omega | (split <;> omega)), rfl⟩
    · refine lv_iconst (v := iI 1) hx hb dX5_in_10 rfl ?_
      refine lv_goto (tgt := 15) hx hb dX5_in_11 (by decide) ?_
      exact m_zret hx hb hr hlk hQ hG hS (Nat.le_of_ble_eq_true rfl) (Nat.le_of_ble_eq_true rfl) dX5_in_15 (Or.inr rfl) ⟨congrArg iI (by first | rfl | omega | (split <;> omega)), rfl⟩

set_option maxHeartbeats 4000000 in
set_option maxRecDepth 100000 in
theorem c_X5_isTick (l : Launch) (D : va_G) (b : Nat) (M : mM) (t : Int) (hrt : rg t) : Met l yX5_isTick wsX5_isTick ({ frames := 1, cells := 0, slots := 0, locals := 22 } : Room) (mPc [.int (iI t)] D b M) (mQi D b (fI (if 0 ≤ t ∧ t ≤ 79 then 1 else 0) M)) 0 0 (mF b) := by
  refine m_met (cc := cX5_isTick) (maxL := 1) (ret := (some .boolean)) (by decide) rfl (Nat.le_of_ble_eq_true rfl) ?_
  intro p e s m args below meth c Q ls hx hb hml hr hts hown hlk hnm hQ K hG hS hl
  have hown : s.vm.findClass RX5 = some m.cls := hown
  have hl : lv_has ls 1 [(0, .int (iI t))] := hl
  refine lv_iload_n hx hb dX5_isTick_0 rfl (lv_at hl 0 rfl) ?_
  refine lv_iconst (v := iI 0) hx hb dX5_isTick_1 rfl ?_
  refine lv_bipush (v := iI 79) hx hb dX5_isTick_2 (by decide) ?_
  refine m_callfi (m_runS (As := [.int (iI t), .int (iI 0), .int (iI 79)]) (rest := []) ⟨hx, hb, hml, hown, hts⟩ (c_X5_in l D b _ t 0 79 hrt ⟨by omega, by omega⟩ ⟨by omega, by omega⟩) (va_cwS 3 hts gX5_isTick_X5_in rfl rfl rfl (by decide +kernel) ⟨Nat.le_of_ble_eq_true rfl, Nat.le_of_ble_eq_true rfl⟩) K hG rfl hl.1 rfl (Nat.le_of_ble_eq_true rfl) dX5_isTick_4 ⟨Nat.le_of_ble_eq_true rfl, Nat.le_of_ble_eq_true rfl⟩) hS (fun H locs hG hS => ?_)
  have hG : mG D b M s H := hG
  exact m_zret hx hb hr hlk hQ hG hS (Nat.le_of_ble_eq_true rfl) (Nat.le_of_ble_eq_true rfl) dX5_isTick_7 iI_if ⟨rfl, rfl⟩

set_option maxHeartbeats 4000000 in
set_option maxRecDepth 100000 in
theorem c_X5_isThing (l : Launch) (D : va_G) (b : Nat) (M : mM) (am : Nat → Nat) (nt ng : Int) (sp nn jj sa sx sy ra : Nat → Int) (gz : Nat → Bool) (va ac : Nat → Int) (hO : MoOk M am nt ng sp nn jj sa sx sy ra gz va ac) (t : Int) (hrt : rg t) : Met l yX5_isThing wsX5_isThing ({ frames := 1, cells := 0, slots := 0, locals := 22 } : Room) (mPc [.ref (am 0), .int (iI t)] D b M) (mQi D b (fI (if 0 ≤ t ∧ t ≤ nt - 1 then 1 else 0) M)) 0 0 (mF b) := by
  refine m_met (cc := cX5_isThing) (maxL := 2) (ret := (some .boolean)) (by decide) rfl (Nat.le_of_ble_eq_true rfl) ?_
  intro p e s m args below meth c Q ls hx hb hml hr hts hown hlk hnm hQ K hG hS hl
  have hown : s.vm.findClass RX5 = some m.cls := hown
  have hl : lv_has ls 2 [(0, .ref (am 0)), (1, .int (iI t))] := hl
  obtain ⟨m0, m1, m2, m3, m4, m5, m6, m7, m8, m9, m10, minj, ⟨b1, b2, b3, b4⟩⟩ := id hO
  refine lv_iload_n hx hb dX5_isThing_0 rfl (lv_at hl 1 rfl) ?_
  refine lv_iconst (v := iI 0) hx hb dX5_isThing_1 rfl ?_
  refine lv_aload_n hx hb dX5_isThing_2 rfl (lv_at hl 0 rfl) ?_
  refine m_get (ci := 5) (v := .int (iI nt)) (C := RX5) (T := TX5) (N := 12) hx hb hts (by decide +kernel) hown K hG m0 rfl 0 (by decide) (by decide +kernel) rfl dX5_isThing_3 ?_
  refine lv_iconst (v := iI 1) hx hb dX5_isThing_6 rfl ?_
  refine m_isub hx hb dX5_isThing_7 ?_
  refine m_callfi (m_runS (As := [.int (iI t), .int (iI 0), .int (iI (nt - 1))]) (rest := []) ⟨hx, hb, hml, hown, hts⟩ (c_X5_in l D b _ t 0 (nt - 1) hrt ⟨by omega, by omega⟩ ⟨by omega, by omega⟩) (va_cwS 3 hts gX5_isThing_X5_in rfl rfl rfl (by decide +kernel) ⟨Nat.le_of_ble_eq_true rfl, Nat.le_of_ble_eq_true rfl⟩) K hG rfl hl.1 rfl (Nat.le_of_ble_eq_true rfl) dX5_isThing_8 ⟨Nat.le_of_ble_eq_true rfl, Nat.le_of_ble_eq_true rfl⟩) hS (fun H locs hG hS => ?_)
  have hG : mG D b M s H := hG
  exact m_zret hx hb hr hlk hQ hG hS (Nat.le_of_ble_eq_true rfl) (Nat.le_of_ble_eq_true rfl) dX5_isThing_11 iI_if ⟨rfl, rfl⟩

set_option maxHeartbeats 4000000 in
set_option maxRecDepth 100000 in
theorem c_X5_isGround (l : Launch) (D : va_G) (b : Nat) (M : mM) (am : Nat → Nat) (nt ng : Int) (sp nn jj sa sx sy ra : Nat → Int) (gz : Nat → Bool) (va ac : Nat → Int) (hO : MoOk M am nt ng sp nn jj sa sx sy ra gz va ac) (t : Int) (hrt : rg t) : Met l yX5_isGround wsX5_isGround ({ frames := 1, cells := 0, slots := 0, locals := 22 } : Room) (mPc [.ref (am 0), .int (iI t)] D b M) (mQi D b (fI (if 0 ≤ t ∧ t ≤ ng - 1 then 1 else 0) M)) 0 0 (mF b) := by
  refine m_met (cc := cX5_isGround) (maxL := 2) (ret := (some .boolean)) (by decide) rfl (Nat.le_of_ble_eq_true rfl) ?_
  intro p e s m args below meth c Q ls hx hb hml hr hts hown hlk hnm hQ K hG hS hl
  have hown : s.vm.findClass RX5 = some m.cls := hown
  have hl : lv_has ls 2 [(0, .ref (am 0)), (1, .int (iI t))] := hl
  obtain ⟨m0, m1, m2, m3, m4, m5, m6, m7, m8, m9, m10, minj, ⟨b1, b2, b3, b4⟩⟩ := id hO
  refine lv_iload_n hx hb dX5_isGround_0 rfl (lv_at hl 1 rfl) ?_
  refine lv_iconst (v := iI 0) hx hb dX5_isGround_1 rfl ?_
  refine lv_aload_n hx hb dX5_isGround_2 rfl (lv_at hl 0 rfl) ?_
  refine m_get (ci := 5) (v := .int (iI ng)) (C := RX5) (T := TX5) (N := 12) hx hb hts (by decide +kernel) hown K hG m0 rfl 8 (by decide) (by decide +kernel) rfl dX5_isGround_3 ?_
  refine lv_iconst (v := iI 1) hx hb dX5_isGround_6 rfl ?_
  refine m_isub hx hb dX5_isGround_7 ?_
  refine m_callfi (m_runS (As := [.int (iI t), .int (iI 0), .int (iI (ng - 1))]) (rest := []) ⟨hx, hb, hml, hown, hts⟩ (c_X5_in l D b _ t 0 (ng - 1) hrt ⟨by omega, by omega⟩ ⟨by omega, by omega⟩) (va_cwS 3 hts gX5_isGround_X5_in rfl rfl rfl (by decide +kernel) ⟨Nat.le_of_ble_eq_true rfl, Nat.le_of_ble_eq_true rfl⟩) K hG rfl hl.1 rfl (Nat.le_of_ble_eq_true rfl) dX5_isGround_8 ⟨Nat.le_of_ble_eq_true rfl, Nat.le_of_ble_eq_true rfl⟩) hS (fun H locs hG hS => ?_)
  have hG : mG D b M s H := hG
  exact m_zret hx hb hr hlk hQ hG hS (Nat.le_of_ble_eq_true rfl) (Nat.le_of_ble_eq_true rfl) dX5_isGround_11 iI_if ⟨rfl, rfl⟩

set_option maxHeartbeats 4000000 in
set_option maxRecDepth 100000 in
theorem c_X5_better (l : Launch) (D : va_G) (b : Nat) (M : mM) (t u w : Int) (hrt : rg t) (hru : rg u) (hw : w = 0 ∨ w = 1) : Met l yX5_better wsX5_better ({ frames := 0, cells := 0, slots := 0, locals := 0 } : Room) (mPc [.int (iI t), .int (iI u), .int (iI w)] D b M) (mQi D b (fI (if w = 0 then max t u else min t u) M)) 0 0 (mF b) := by
  refine m_met (cc := cX5_better) (maxL := 3) (ret := (some .int)) (by decide) rfl (Nat.le_of_ble_eq_true rfl) ?_
  intro p e s m args below meth c Q ls hx hb hml hr hts hown hlk hnm hQ K hG hS hl
  have hown : s.vm.findClass RX5 = some m.cls := hown
  have hl : lv_has ls 3 [(0, .int (iI t)), (1, .int (iI u)), (2, .int (iI w))] := hl
  refine lv_iload_n hx hb dX5_better_0 rfl (lv_at hl 2 rfl) ?_
  refine m_if_eq (tgt := 17) hx hb dX5_better_1 (by decide) ⟨by omega, by omega⟩ (fun c1 => ?_) (fun c1 => ?_)
  · refine lv_iload_n hx hb dX5_better_17 rfl (lv_at hl 0 rfl) ?_
    refine lv_iload_n hx hb dX5_better_18 rfl (lv_at hl 1 rfl) ?_
    refine m_icmp_le (tgt := 26) hx hb dX5_better_19 (by decide) hrt hru (fun c19 => ?_) (fun c19 => ?_)
    · refine lv_iload_n hx hb dX5_better_26 rfl (lv_at hl 1 rfl) ?_
      exact m_iret hx hb hr hlk hQ hG hS (Nat.le_of_ble_eq_true rfl) (Nat.le_of_ble_eq_true rfl) dX5_better_27 ⟨congrArg iI (by first | (rw [if_pos (by omega)]; omega) | (rw [if_neg (by omega)]; omega)), rfl⟩
    · refine lv_iload_n hx hb dX5_better_22 rfl (lv_at hl 0 rfl) ?_
      refine lv_goto (tgt := 27) hx hb dX5_better_23 (by decide) ?_
      exact m_iret hx hb hr hlk hQ hG hS (Nat.le_of_ble_eq_true rfl) (Nat.le_of_ble_eq_true rfl) dX5_better_27 ⟨congrArg iI (by first | (rw [if_pos (by omega)]; omega) | (rw [if_neg (by omega)]; omega)), rfl⟩
  · refine lv_iload_n hx hb dX5_better_4 rfl (lv_at hl 0 rfl) ?_
    refine lv_iload_n hx hb dX5_better_5 rfl (lv_at hl 1 rfl) ?_
    refine m_icmp_ge (tgt := 13) hx hb dX5_better_6 (by decide) hrt hru (fun c6 => ?_) (fun c6 => ?_)
    · refine lv_iload_n hx hb dX5_better_13 rfl (lv_at hl 1 rfl) ?_
      refine lv_goto (tgt := 27) hx hb dX5_better_14 (by decide) ?_
      exact m_iret hx hb hr hlk hQ hG hS (Nat.le_of_ble_eq_true rfl) (Nat.le_of_ble_eq_true rfl) dX5_better_27 ⟨congrArg iI (by first | (rw [if_pos (by omega)]; omega) | (rw [if_neg (by omega)]; omega)), rfl⟩
    · refine lv_iload_n hx hb dX5_better_9 rfl (lv_at hl 0 rfl) ?_
      refine lv_goto (tgt := 27) hx hb dX5_better_10 (by decide) ?_
      exact m_iret hx hb hr hlk hQ hG hS (Nat.le_of_ble_eq_true rfl) (Nat.le_of_ble_eq_true rfl) dX5_better_27 ⟨congrArg iI (by first | (rw [if_pos (by omega)]; omega) | (rw [if_neg (by omega)]; omega)), rfl⟩

set_option maxHeartbeats 4000000 in
set_option maxRecDepth 100000 in
theorem c_X5_jumps (l : Launch) (D : va_G) (b : Nat) (M : mM) (am : Nat → Nat) (nt ng : Int) (sp nn jj sa sx sy ra : Nat → Int) (gz : Nat → Bool) (va ac : Nat → Int) (hO : MoOk M am nt ng sp nn jj sa sx sy ra gz va ac) (t : Int) (hrt : rg t) : Met l yX5_jumps wsX5_jumps ({ frames := 2, cells := 0, slots := 0, locals := 43 } : Room) (mPc [.ref (am 0), .int (iI t)] D b M) (mQi D b (fI (if 0 ≤ t ∧ t < nt then jj t.toNat else -1) M)) 0 0 (mF b) := by
  refine m_met (cc := cX5_jumps) (maxL := 2) (ret := (some .int)) (by decide) rfl (Nat.le_of_ble_eq_true rfl) ?_
  intro p e s m args below meth c Q ls hx hb hml hr hts hown hlk hnm hQ K hG hS hl
  have hown : s.vm.findClass RX5 = some m.cls := hown
  have hl : lv_has ls 2 [(0, .ref (am 0)), (1, .int (iI t))] := hl
  obtain ⟨m0, m1, m2, m3, m4, m5, m6, m7, m8, m9, m10, minj, ⟨b1, b2, b3, b4⟩⟩ := id hO
  refine lv_aload_n hx hb dX5_jumps_0 rfl (lv_at hl 0 rfl) ?_
  refine lv_iload_n hx hb dX5_jumps_1 rfl (lv_at hl 1 rfl) ?_
  refine m_callfi (m_runV (a := am 0) (As := [.int (iI t)]) (rest := []) ⟨hx, hb, hml, hown, hts⟩ (c_X5_isThing l D b _ am nt ng sp nn jj sa sx sy ra gz va ac hO t hrt) (cwV 1 hts gX5_jumps_X5_isThing rfl rfl rfl (by decide +kernel) ⟨Nat.le_of_ble_eq_true rfl, Nat.le_of_ble_eq_true rfl⟩) K hG m0 rfl rfl rfl hl.1 rfl (Nat.le_of_ble_eq_true rfl) dX5_jumps_2 ⟨Nat.le_of_ble_eq_true rfl, Nat.le_of_ble_eq_true rfl⟩) hS (fun H locs hG hS => ?_)
  have hG : mG D b M s H := hG
  refine m_ifb_eq (tgt := 17) hx hb dX5_jumps_5 (by decide) (fun c5 => ?_) (fun c5 => ?_)
  · refine lv_iconst (v := iI (-1)) hx hb dX5_jumps_17 rfl ?_
    exact m_iret hx hb hr hlk hQ hG hS (Nat.le_of_ble_eq_true rfl) (Nat.le_of_ble_eq_true rfl) dX5_jumps_18 ⟨congrArg iI (by first | rw [if_pos (by omega)] | rw [if_neg (by omega)]), rfl⟩
  · refine lv_aload_n hx hb dX5_jumps_8 rfl (lv_at hl 0 rfl) ?_
    refine m_get (ci := 5) (v := .ref (am 3)) (C := RX5) (T := TX5) (N := 12) hx hb hts (by decide +kernel) hown K hG m0 rfl 3 (by decide) (by decide +kernel) rfl dX5_jumps_9 ?_
    refine lv_iload_n hx hb dX5_jumps_12 rfl (lv_at hl 1 rfl) ?_
    refine m_iald hx hb hG m3 t.toNat (by omega) (by omega) (by decide) dX5_jumps_13 ?_
    refine lv_goto (tgt := 18) hx hb dX5_jumps_14 (by decide) ?_
    exact m_iret hx hb hr hlk hQ hG hS (Nat.le_of_ble_eq_true rfl) (Nat.le_of_ble_eq_true rfl) dX5_jumps_18 ⟨congrArg iI (by first | rw [if_pos (by omega)] | rw [if_neg (by omega)]), rfl⟩

set_option maxHeartbeats 4000000 in
set_option maxRecDepth 100000 in
theorem c_X5_has (l : Launch) (D : va_G) (b : Nat) (M : mM) (am : Nat → Nat) (nt ng : Int) (sp nn jj sa sx sy ra : Nat → Int) (gz : Nat → Bool) (va ac : Nat → Int) (hO : MoOk M am nt ng sp nn jj sa sx sy ra gz va ac) (t u : Int) (hrt : rg t) (hru : rg u) : Met l yX5_has wsX5_has ({ frames := 2, cells := 0, slots := 0, locals := 43 } : Room) (mPc [.ref (am 0), .int (iI t), .int (iI u)] D b M) (mQi D b (fI (if (0 ≤ t ∧ t < ng) ∧ (0 ≤ u ∧ u < 4096) ∧ gz (4096 * t + u).toNat = true then 1 else 0) M)) 0 0 (mF b) := by
  refine m_met (cc := cX5_has) (maxL := 3) (ret := (some .boolean)) (by decide) rfl (Nat.le_of_ble_eq_true rfl) ?_
  intro p e s m args below meth c Q ls hx hb hml hr hts hown hlk hnm hQ K hG hS hl
  have hown : s.vm.findClass RX5 = some m.cls := hown
  have hl : lv_has ls 3 [(0, .ref (am 0)), (1, .int (iI t)), (2, .int (iI u))] := hl
  obtain ⟨m0, m1, m2, m3, m4, m5, m6, m7, m8, m9, m10, minj, ⟨b1, b2, b3, b4⟩⟩ := id hO
  refine lv_aload_n hx hb dX5_has_0 rfl (lv_at hl 0 rfl) ?_
  refine lv_iload_n hx hb dX5_has_1 rfl (lv_at hl 1 rfl) ?_
  refine m_callfi (m_runV (a := am 0) (As := [.int (iI t)]) (rest := []) ⟨hx, hb, hml, hown, hts⟩ (c_X5_isGround l D b _ am nt ng sp nn jj sa sx sy ra gz va ac hO t hrt) (cwV 1 hts gX5_has_X5_isGround rfl rfl rfl (by decide +kernel) ⟨Nat.le_of_ble_eq_true rfl, Nat.le_of_ble_eq_true rfl⟩) K hG m0 rfl rfl rfl hl.1 rfl (Nat.le_of_ble_eq_true rfl) dX5_has_2 ⟨Nat.le_of_ble_eq_true rfl, Nat.le_of_ble_eq_true rfl⟩) hS (fun H locs hG hS => ?_)
  have hG : mG D b M s H := hG
  refine m_ifb_eq (tgt := 38) hx hb dX5_has_5 (by decide) (fun c5 => ?_) (fun c5 => ?_)
  · refine lv_iconst (v := iI 0) hx hb dX5_has_38 rfl ?_
    exact m_zret hx hb hr hlk hQ hG hS (Nat.le_of_ble_eq_true rfl) (Nat.le_of_ble_eq_true rfl) dX5_has_39 (Or.inl rfl) ⟨congrArg iI (by first | rw [if_neg (fun z => by omega)] | rw [if_neg (fun z => c31 z.2.2)] | rw [if_pos ⟨by omega, by omega, c31⟩]), rfl⟩
  · refine lv_iload_n hx hb dX5_has_8 rfl (lv_at hl 2 rfl) ?_
    refine lv_iconst (v := iI 0) hx hb dX5_has_9 rfl ?_
    refine lv_sipush (v := iI 4095) hx hb dX5_has_10 (by decide) ?_
    refine m_callfi (m_runS (As := [.int (iI u), .int (iI 0), .int (iI 4095)]) (rest := []) ⟨hx, hb, hml, hown, hts⟩ (c_X5_in l D b _ u 0 4095 hru ⟨by omega, by omega⟩ ⟨by omega, by omega⟩) (va_cwS 3 hts gX5_has_X5_in rfl rfl rfl (by decide +kernel) ⟨Nat.le_of_ble_eq_true rfl, Nat.le_of_ble_eq_true rfl⟩) K hG rfl hl.1 rfl (Nat.le_of_ble_eq_true rfl) dX5_has_13 ⟨Nat.le_of_ble_eq_true rfl, Nat.le_of_ble_eq_true rfl⟩) hS (fun H locs hG hS => ?_)
    have hG : mG D b M s H := hG
    refine m_ifb_eq (tgt := 38) hx hb dX5_has_16 (by decide) (fun c16 => ?_) (fun c16 => ?_)
    · refine lv_iconst (v := iI 0) hx hb dX5_has_38 rfl ?_
      exact m_zret hx hb hr hlk hQ hG hS (Nat.le_of_ble_eq_true rfl) (Nat.le_of_ble_eq_true rfl) dX5_has_39 (Or.inl rfl) ⟨congrArg iI (by first | rw [if_neg (fun z => by omega)] | rw [if_neg (fun z => c31 z.2.2)] | rw [if_pos ⟨by omega, by omega, c31⟩]), rfl⟩
    · refine lv_aload_n hx hb dX5_has_19 rfl (lv_at hl 0 rfl) ?_
      refine m_get (ci := 5) (v := .ref (am 8)) (C := RX5) (T := TX5) (N := 12) hx hb hts (by decide +kernel) hown K hG m0 rfl 9 (by decide) (by decide +kernel) rfl dX5_has_20 ?_
      refine lv_sipush (v := iI 4096) hx hb dX5_has_23 (by decide) ?_
      refine lv_iload_n hx hb dX5_has_26 rfl (lv_at hl 1 rfl) ?_
      refine m_imul hx hb dX5_has_27 ?_
      refine lv_iload_n hx hb dX5_has_28 rfl (lv_at hl 2 rfl) ?_
      refine m_iadd hx hb dX5_has_29 ?_
      refine m_zald hx hb hG m8 (((4096 * t) + u).toNat) (by omega) (by omega) (by decide) dX5_has_30 ?_
      refine m_ifb_eq (tgt := 38) hx hb dX5_has_31 (by decide) (fun c31 => ?_) (fun c31 => ?_)
      · refine lv_iconst (v := iI 0) hx hb dX5_has_38 rfl ?_
        exact m_zret hx hb hr hlk hQ hG hS (Nat.le_of_ble_eq_true rfl) (Nat.le_of_ble_eq_true rfl) dX5_has_39 (Or.inl rfl) ⟨congrArg iI (by first | rw [if_neg (fun z => by omega)] | rw [if_neg (fun z => c31 z.2.2)] | rw [if_pos ⟨by omega, by omega, c31⟩]), rfl⟩
      · refine lv_iconst (v := iI 1) hx hb dX5_has_34 rfl ?_
        refine lv_goto (tgt := 39) hx hb dX5_has_35 (by decide) ?_
        exact m_zret hx hb hr hlk hQ hG hS (Nat.le_of_ble_eq_true rfl) (Nat.le_of_ble_eq_true rfl) dX5_has_39 (Or.inr rfl) ⟨congrArg iI (by first | rw [if_neg (fun z => by omega)] | rw [if_neg (fun z => c31 z.2.2)] | rw [if_pos ⟨by omega, by omega, c31⟩]), rfl⟩

set_option maxHeartbeats 4000000 in
set_option maxRecDepth 100000 in
theorem c_X5_canAsk (l : Launch) (D : va_G) (b : Nat) (M : mM) (am : Nat → Nat) (nt ng : Int) (sp nn jj sa sx sy ra : Nat → Int) (gz : Nat → Bool) (va ac : Nat → Int) (hO : MoOk M am nt ng sp nn jj sa sx sy ra gz va ac) (t v u w : Int) (hrt : rg t) (hrv : rg v) (hru : rg u) (hrw : rg w) : Met l yX5_canAsk wsX5_canAsk ({ frames := 2, cells := 0, slots := 0, locals := 43 } : Room) (mPc [.ref (am 0), .int (iI t), .int (iI v), .int (iI u), .int (iI w)] D b M) (mQi D b (fI (if (0 ≤ t ∧ t < nt) ∧ (0 ≤ v ∧ v < ng) ∧ (0 ≤ u ∧ u < 80) ∧ (0 ≤ w ∧ w < 80) ∧ u ≤ w then 1 else 0) M)) 0 0 (mF b) := by
  refine m_met (cc := cX5_canAsk) (maxL := 5) (ret := (some .boolean)) (by decide) rfl (Nat.le_of_ble_eq_true rfl) ?_
  intro p e s m args below meth c Q ls hx hb hml hr hts hown hlk hnm hQ K hG hS hl
  have hown : s.vm.findClass RX5 = some m.cls := hown
  have hl : lv_has ls 5 [(0, .ref (am 0)), (1, .int (iI t)), (2, .int (iI v)), (3, .int (iI u)), (4, .int (iI w))] := hl
  obtain ⟨m0, m1, m2, m3, m4, m5, m6, m7, m8, m9, m10, minj, ⟨b1, b2, b3, b4⟩⟩ := id hO
  refine lv_aload_n hx hb dX5_canAsk_0 rfl (lv_at hl 0 rfl) ?_
  refine lv_iload_n hx hb dX5_canAsk_1 rfl (lv_at hl 1 rfl) ?_
  refine m_callfi (m_runV (a := am 0) (As := [.int (iI t)]) (rest := []) ⟨hx, hb, hml, hown, hts⟩ (c_X5_isThing l D b _ am nt ng sp nn jj sa sx sy ra gz va ac hO t hrt) (cwV 1 hts gX5_canAsk_X5_isThing rfl rfl rfl (by decide +kernel) ⟨Nat.le_of_ble_eq_true rfl, Nat.le_of_ble_eq_true rfl⟩) K hG m0 rfl rfl rfl hl.1 rfl (Nat.le_of_ble_eq_true rfl) dX5_canAsk_2 ⟨Nat.le_of_ble_eq_true rfl, Nat.le_of_ble_eq_true rfl⟩) hS (fun H locs hG hS => ?_)
  have hG : mG D b M s H := hG
  refine m_ifb_eq (tgt := 41) hx hb dX5_canAsk_5 (by decide) (fun c5 => ?_) (fun c5 => ?_)
  · refine lv_iconst (v := iI 0) hx hb dX5_canAsk_41 rfl ?_
    exact m_zret hx hb hr hlk hQ hG hS (Nat.le_of_ble_eq_true rfl) (Nat.le_of_ble_eq_true rfl) dX5_canAsk_42 (Or.inl rfl) ⟨congrArg iI (by first | rw [if_pos (by omega)] | rw [if_neg (by omega)]), rfl⟩
  · refine lv_aload_n hx hb dX5_canAsk_8 rfl (lv_at hl 0 rfl) ?_
    refine lv_iload_n hx hb dX5_canAsk_9 rfl (lv_at hl 2 rfl) ?_
    refine m_callfi (m_runV (a := am 0) (As := [.int (iI v)]) (rest := []) ⟨hx, hb, hml, hown, hts⟩ (c_X5_isGround l D b _ am nt ng sp nn jj sa sx sy ra gz va ac hO v hrv) (cwV 1 hts gX5_canAsk_X5_isGround rfl rfl rfl (by decide +kernel) ⟨Nat.le_of_ble_eq_true rfl, Nat.le_of_ble_eq_true rfl⟩) K hG m0 rfl rfl rfl hl.1 rfl (Nat.le_of_ble_eq_true rfl) dX5_canAsk_10 ⟨Nat.le_of_ble_eq_true rfl, Nat.le_of_ble_eq_true rfl⟩) hS (fun H locs hG hS => ?_)
    have hG : mG D b M s H := hG
    refine m_ifb_eq (tgt := 41) hx hb dX5_canAsk_13 (by decide) (fun c13 => ?_) (fun c13 => ?_)
    · refine lv_iconst (v := iI 0) hx hb dX5_canAsk_41 rfl ?_
      exact m_zret hx hb hr hlk hQ hG hS (Nat.le_of_ble_eq_true rfl) (Nat.le_of_ble_eq_true rfl) dX5_canAsk_42 (Or.inl rfl) ⟨congrArg iI (by first | rw [if_pos (by omega)] | rw [if_neg (by omega)]), rfl⟩
    · refine lv_iload_n hx hb dX5_canAsk_16 rfl (lv_at hl 3 rfl) ?_
      refine m_callfi (m_runS (As := [.int (iI u)]) (rest := []) ⟨hx, hb, hml, hown, hts⟩ (c_X5_isTick l D b _ u hru) (va_cwS 1 hts gX5_canAsk_X5_isTick rfl rfl rfl (by decide +kernel) ⟨Nat.le_of_ble_eq_true rfl, Nat.le_of_ble_eq_true rfl⟩) K hG rfl hl.1 rfl (Nat.le_of_ble_eq_true rfl) dX5_canAsk_17 ⟨Nat.le_of_ble_eq_true rfl, Nat.le_of_ble_eq_true rfl⟩) hS (fun H locs hG hS => ?_)
      have hG : mG D b M s H := hG
      refine m_ifb_eq (tgt := 41) hx hb dX5_canAsk_20 (by decide) (fun c20 => ?_) (fun c20 => ?_)
      · refine lv_iconst (v := iI 0) hx hb dX5_canAsk_41 rfl ?_
        exact m_zret hx hb hr hlk hQ hG hS (Nat.le_of_ble_eq_true rfl) (Nat.le_of_ble_eq_true rfl) dX5_canAsk_42 (Or.inl rfl) ⟨congrArg iI (by first | rw [if_pos (by omega)] | rw [if_neg (by omega)]), rfl⟩
      · refine lv_iload hx hb dX5_canAsk_23 (lv_at hl 4 rfl) ?_
        refine m_callfi (m_runS (As := [.int (iI w)]) (rest := []) ⟨hx, hb, hml, hown, hts⟩ (c_X5_isTick l D b _ w hrw) (va_cwS 1 hts gX5_canAsk_X5_isTick rfl rfl rfl (by decide +kernel) ⟨Nat.le_of_ble_eq_true rfl, Nat.le_of_ble_eq_true rfl⟩) K hG rfl hl.1 rfl (Nat.le_of_ble_eq_true rfl) dX5_canAsk_25 ⟨Nat.le_of_ble_eq_true rfl, Nat.le_of_ble_eq_true rfl⟩) hS (fun H locs hG hS => ?_)
        have hG : mG D b M s H := hG
        refine m_ifb_eq (tgt := 41) hx hb dX5_canAsk_28 (by decide) (fun c28 => ?_) (fun c28 => ?_)
        · refine lv_iconst (v := iI 0) hx hb dX5_canAsk_41 rfl ?_
          exact m_zret hx hb hr hlk hQ hG hS (Nat.le_of_ble_eq_true rfl) (Nat.le_of_ble_eq_true rfl) dX5_canAsk_42 (Or.inl rfl) ⟨congrArg iI (by first | rw [if_pos (by omega)] | rw [if_neg (by omega)]), rfl⟩
        · refine lv_iload_n hx hb dX5_canAsk_31 rfl (lv_at hl 3 rfl) ?_
          refine lv_iload hx hb dX5_canAsk_32 (lv_at hl 4 rfl) ?_
          refine m_icmp_gt (tgt := 41) hx hb dX5_canAsk_34 (by decide) hru hrw (fun c34 => ?_) (fun c34 => ?_)
          · refine lv_iconst (v := iI 0) hx hb dX5_canAsk_41 rfl ?_
            exact m_zret hx hb hr hlk hQ hG hS (Nat.le_of_ble_eq_true rfl) (Nat.le_of_ble_eq_true rfl) dX5_canAsk_42 (Or.inl rfl) ⟨congrArg iI (by first | rw [if_pos (by omega)] | rw [if_neg (by omega)]), rfl⟩
          · refine lv_iconst (v := iI 1) hx hb dX5_canAsk_37 rfl ?_
            refine lv_goto (tgt := 42) hx hb dX5_canAsk_38 (by decide) ?_
            exact m_zret hx hb hr hlk hQ hG hS (Nat.le_of_ble_eq_true rfl) (Nat.le_of_ble_eq_true rfl) dX5_canAsk_42 (Or.inr rfl) ⟨congrArg iI (by first | rw [if_pos (by omega)] | rw [if_neg (by omega)]), rfl⟩

set_option maxHeartbeats 4000000 in
set_option maxRecDepth 100000 in
theorem c_X5_ground (l : Launch) (D : va_G) (b : Nat) (M : mM) (am : Nat → Nat) (nt ng : Int) (sp nn jj sa sx sy ra : Nat → Int) (gz : Nat → Bool) (va ac : Nat → Int) (hO : MoOk M am nt ng sp nn jj sa sx sy ra gz va ac)  : Met l yX5_ground wsX5_ground ({ frames := 0, cells := 0, slots := 0, locals := 0 } : Room) (mPc [.ref (am 0)] D b M) (mQi D b (fun r M1 => (4 ≤ ng ∧ r = iI (-1) ∧ M1 = M) ∨ (ng < 4 ∧ r = iI ng ∧ MoOk M1 am nt (ng + 1) sp nn jj sa sx sy ra gz va ac ∧ (∀ a, (∀ i, i ≤ 10 → a ≠ am i) → M1 a = M a)))) 0 0 (mF b) := by
  refine m_met (cc := cX5_ground) (maxL := 1) (ret := (some .int)) (by decide) rfl (Nat.le_of_ble_eq_true rfl) ?_
  intro p e s m args below meth c Q ls hx hb hml hr hts hown hlk hnm hQ K hG hS hl
  have hown : s.vm.findClass RX5 = some m.cls := hown
  have hl : lv_has ls 1 [(0, .ref (am 0))] := hl
  obtain ⟨m0, m1, m2, m3, m4, m5, m6, m7, m8, m9, m10, minj, ⟨b1, b2, b3, b4⟩⟩ := id hO
  refine lv_aload_n hx hb dX5_ground_0 rfl (lv_at hl 0 rfl) ?_
  refine m_get (ci := 5) (v := .int (iI ng)) (C := RX5) (T := TX5) (N := 12) hx hb hts (by decide +kernel) hown K hG m0 rfl 8 (by decide) (by decide +kernel) rfl dX5_ground_1 ?_
  refine lv_iconst (v := iI 4) hx hb dX5_ground_4 rfl ?_
  refine m_icmp_ne (tgt := 10) hx hb dX5_ground_5 (by decide) ⟨by omega, by omega⟩ ⟨by omega, by omega⟩ (fun c5 => ?_) (fun c5 => ?_)
  · refine lv_aload_n hx hb dX5_ground_10 rfl (lv_at hl 0 rfl) ?_
    refine lv_dup hx hb dX5_ground_11 rfl ?_
    refine m_get (ci := 5) (v := .int (iI ng)) (C := RX5) (T := TX5) (N := 12) hx hb hts (by decide +kernel) hown K hG m0 rfl 8 (by decide) (by decide +kernel) rfl dX5_ground_12 ?_
    refine lv_iconst (v := iI 1) hx hb dX5_ground_15 rfl ?_
    refine m_iadd hx hb dX5_ground_16 ?_
    refine m_put (ci := 5) (v := .int (iI (ng + 1))) (ty := .int) (fs' := [.int (iI nt), .ref (am 1), .ref (am 2), .ref (am 3), .ref (am 4), .ref (am 5), .ref (am 6), .ref (am 7), .int (iI (ng + 1)), .ref (am 8), .ref (am 9), .ref (am 10)]) (C := RX5) (T := TX5) (N := 12) hx hb hts (by decide +kernel) tyX5 tyX5_ok nmX5 hown K hG hS m0 rfl 8 (by decide) (by decide +kernel) rfl (by decide +kernel) rfl rfl (Nat.le_of_ble_eq_true rfl) rfl dX5_ground_17 (fun H locs hG hS => ?_)
    have hG : mG D b (mset M (am 0) (.inr (5, [.int (iI nt), .ref (am 1), .ref (am 2), .ref (am 3), .ref (am 4), .ref (am 5), .ref (am 6), .ref (am 7), .int (iI (ng + 1)), .ref (am 8), .ref (am 9), .ref (am 10)]))) s H := hG
    refine lv_aload_n hx hb dX5_ground_20 rfl (lv_at hl 0 rfl) ?_
    refine m_get (ci := 5) (v := .int (iI (ng + 1))) (C := RX5) (T := TX5) (N := 12) hx hb hts (by decide +kernel) hown K hG mset_self rfl 8 (by decide) (by decide +kernel) rfl dX5_ground_21 ?_
    refine lv_iconst (v := iI 1) hx hb dX5_ground_24 rfl ?_
    refine m_isub hx hb dX5_ground_25 ?_
    exact m_iret hx hb hr hlk hQ hG hS (Nat.le_of_ble_eq_true rfl) (Nat.le_of_ble_eq_true rfl) dX5_ground_26 (Or.inr ⟨by omega, congrArg iI (by omega), ⟨mset_self, ((mset_ne (am_ne minj (i := 1) (j := 0) (by decide) (by decide) (by decide))).trans m1), ((mset_ne (am_ne minj (i := 2) (j := 0) (by decide) (by decide) (by decide))).trans m2), ((mset_ne (am_ne minj (i := 3) (j := 0) (by decide) (by decide) (by decide))).trans m3), ((mset_ne (am_ne minj (i := 4) (j := 0) (by decide) (by decide) (by decide))).trans m4), ((mset_ne (am_ne minj (i := 5) (j := 0) (by decide) (by decide) (by decide))).trans m5), ((mset_ne (am_ne minj (i := 6) (j := 0) (by decide) (by decide) (by decide))).trans m6), ((mset_ne (am_ne minj (i := 7) (j := 0) (by decide) (by decide) (by decide))).trans m7), ((mset_ne (am_ne minj (i := 8) (j := 0) (by decide) (by decide) (by decide))).trans m8), ((mset_ne (am_ne minj (i := 9) (j := 0) (by decide) (by decide) (by decide))).trans m9), ((mset_ne (am_ne minj (i := 10) (j := 0) (by decide) (by decide) (by decide))).trans m10), minj, ⟨by omega, by omega, by omega, by omega⟩⟩, (fun a h9 => (mset_ne (h9 0 (by decide))))⟩)
  · refine lv_iconst (v := iI (-1)) hx hb dX5_ground_8 rfl ?_
    exact m_iret hx hb hr hlk hQ hG hS (Nat.le_of_ble_eq_true rfl) (Nat.le_of_ble_eq_true rfl) dX5_ground_9 (Or.inl ⟨by omega, rfl, rfl⟩)

set_option maxHeartbeats 4000000 in
set_option maxRecDepth 100000 in
theorem c_X5_thing (l : Launch) (D : va_G) (b : Nat) (M : mM) (am : Nat → Nat) (nt ng : Int) (sp nn jj sa sx sy ra : Nat → Int) (gz : Nat → Bool) (va ac : Nat → Int) (hO : MoOk M am nt ng sp nn jj sa sx sy ra gz va ac) (t : Int) (hrt : rg t) : Met l yX5_thing wsX5_thing ({ frames := 1, cells := 0, slots := 0, locals := 22 } : Room) (mPc [.ref (am 0), .int (iI t)] D b M) (mQi D b (fun r M1 => (¬ ((0 ≤ t ∧ t ≤ 7) ∧ nt < 6) ∧ r = iI (-1) ∧ M1 = M) ∨ (((0 ≤ t ∧ t ≤ 7) ∧ nt < 6) ∧ r = iI nt ∧ MoOk M1 am (nt + 1) ng (va_up sp nt.toNat t) nn jj sa sx sy ra gz va ac ∧ (∀ a, (∀ i, i ≤ 10 → a ≠ am i) → M1 a = M a)))) 0 0 (mF b) := by
  refine m_met (cc := cX5_thing) (maxL := 2) (ret := (some .int)) (by decide) rfl (Nat.le_of_ble_eq_true rfl) ?_
  intro p e s m args below meth c Q ls hx hb hml hr hts hown hlk hnm hQ K hG hS hl
  have hown : s.vm.findClass RX5 = some m.cls := hown
  have hl : lv_has ls 2 [(0, .ref (am 0)), (1, .int (iI t))] := hl
  obtain ⟨m0, m1, m2, m3, m4, m5, m6, m7, m8, m9, m10, minj, ⟨b1, b2, b3, b4⟩⟩ := id hO
  refine lv_iload_n hx hb dX5_thing_0 rfl (lv_at hl 1 rfl) ?_
  refine lv_iconst (v := iI 0) hx hb dX5_thing_1 rfl ?_
  refine lv_bipush (v := iI 7) hx hb dX5_thing_2 (by decide) ?_
  refine m_callfi (m_runS (As := [.int (iI t), .int (iI 0), .int (iI 7)]) (rest := []) ⟨hx, hb, hml, hown, hts⟩ (c_X5_in l D b _ t 0 7 hrt ⟨by omega, by omega⟩ ⟨by omega, by omega⟩) (va_cwS 3 hts gX5_thing_X5_in rfl rfl rfl (by decide +kernel) ⟨Nat.le_of_ble_eq_true rfl, Nat.le_of_ble_eq_true rfl⟩) K hG rfl hl.1 rfl (Nat.le_of_ble_eq_true rfl) dX5_thing_4 ⟨Nat.le_of_ble_eq_true rfl, Nat.le_of_ble_eq_true rfl⟩) hS (fun H locs hG hS => ?_)
  have hG : mG D b M s H := hG
  refine m_ifb_eq (tgt := 19) hx hb dX5_thing_7 (by decide) (fun c7 => ?_) (fun c7 => ?_)
  · refine lv_iconst (v := iI (-1)) hx hb dX5_thing_19 rfl ?_
    exact m_iret hx hb hr hlk hQ hG hS (Nat.le_of_ble_eq_true rfl) (Nat.le_of_ble_eq_true rfl) dX5_thing_20 (Or.inl ⟨by omega, rfl, rfl⟩)
  · refine lv_aload_n hx hb dX5_thing_10 rfl (lv_at hl 0 rfl) ?_
    refine m_get (ci := 5) (v := .int (iI nt)) (C := RX5) (T := TX5) (N := 12) hx hb hts (by decide +kernel) hown K hG m0 rfl 0 (by decide) (by decide +kernel) rfl dX5_thing_11 ?_
    refine lv_bipush (v := iI 6) hx hb dX5_thing_14 (by decide) ?_
    refine m_icmp_ne (tgt := 21) hx hb dX5_thing_16 (by decide) ⟨by omega, by omega⟩ ⟨by omega, by omega⟩ (fun c16 => ?_) (fun c16 => ?_)
    · refine lv_aload_n hx hb dX5_thing_21 rfl (lv_at hl 0 rfl) ?_
      refine m_get (ci := 5) (v := .ref (am 1)) (C := RX5) (T := TX5) (N := 12) hx hb hts (by decide +kernel) hown K hG m0 rfl 1 (by decide) (by decide +kernel) rfl dX5_thing_22 ?_
      refine lv_aload_n hx hb dX5_thing_25 rfl (lv_at hl 0 rfl) ?_
      refine m_get (ci := 5) (v := .int (iI nt)) (C := RX5) (T := TX5) (N := 12) hx hb hts (by decide +kernel) hown K hG m0 rfl 0 (by decide) (by decide +kernel) rfl dX5_thing_26 ?_
      refine lv_iload_n hx hb dX5_thing_29 rfl (lv_at hl 1 rfl) ?_
      refine m_iast hx hb hG hS m1 nt.toNat (by omega) (by omega) (by decide) dX5_thing_30 (fun H locs hG hS => ?_)
      have hG : mG D b (mset M (am 1) (aI 6 (va_up sp nt.toNat t))) s H := hG
      refine lv_aload_n hx hb dX5_thing_31 rfl (lv_at hl 0 rfl) ?_
      refine lv_dup hx hb dX5_thing_32 rfl ?_
      refine m_get (ci := 5) (v := .int (iI nt)) (C := RX5) (T := TX5) (N := 12) hx hb hts (by decide +kernel) hown K hG ((mset_ne (am_ne minj (i := 0) (j := 1) (by decide) (by decide) (by decide))).trans m0) rfl 0 (by decide) (by decide +kernel) rfl dX5_thing_33 ?_
      refine lv_iconst (v := iI 1) hx hb dX5_thing_36 rfl ?_
      refine m_iadd hx hb dX5_thing_37 ?_
      refine m_put (ci := 5) (v := .int (iI (nt + 1))) (ty := .int) (fs' := [.int (iI (nt + 1)), .ref (am 1), .ref (am 2), .ref (am 3), .ref (am 4), .ref (am 5), .ref (am 6), .ref (am 7), .int (iI ng), .ref (am 8), .ref (am 9), .ref (am 10)]) (C := RX5) (T := TX5) (N := 12) hx hb hts (by decide +kernel) tyX5 tyX5_ok nmX5 hown K hG hS ((mset_ne (am_ne minj (i := 0) (j := 1) (by decide) (by decide) (by decide))).trans m0) rfl 0 (by decide) (by decide +kernel) rfl (by decide +kernel) rfl rfl (Nat.le_of_ble_eq_true rfl) rfl dX5_thing_38 (fun H locs hG hS => ?_)
      have hG : mG D b (mset (mset M (am 1) (aI 6 (va_up sp nt.toNat t))) (am 0) (.inr (5, [.int (iI (nt + 1)), .ref (am 1), .ref (am 2), .ref (am 3), .ref (am 4), .ref (am 5), .ref (am 6), .ref (am 7), .int (iI ng), .ref (am 8), .ref (am 9), .ref (am 10)]))) s H := hG
      refine lv_aload_n hx hb dX5_thing_41 rfl (lv_at hl 0 rfl) ?_
      refine m_get (ci := 5) (v := .int (iI (nt + 1))) (C := RX5) (T := TX5) (N := 12) hx hb hts (by decide +kernel) hown K hG mset_self rfl 0 (by decide) (by decide +kernel) rfl dX5_thing_42 ?_
      refine lv_iconst (v := iI 1) hx hb dX5_thing_45 rfl ?_
      refine m_isub hx hb dX5_thing_46 ?_
      exact m_iret hx hb hr hlk hQ hG hS (Nat.le_of_ble_eq_true rfl) (Nat.le_of_ble_eq_true rfl) dX5_thing_47 (Or.inr ⟨by omega, congrArg iI (by omega), ⟨mset_self, ((mset_ne (am_ne minj (i := 1) (j := 0) (by decide) (by decide) (by decide))).trans mset_self), ((mset_ne (am_ne minj (i := 2) (j := 0) (by decide) (by decide) (by decide))).trans ((mset_ne (am_ne minj (i := 2) (j := 1) (by decide) (by decide) (by decide))).trans m2)), ((mset_ne (am_ne minj (i := 3) (j := 0) (by decide) (by decide) (by decide))).trans ((mset_ne (am_ne minj (i := 3) (j := 1) (by decide) (by decide) (by decide))).trans m3)), ((mset_ne (am_ne minj (i := 4) (j := 0) (by decide) (by decide) (by decide))).trans ((mset_ne (am_ne minj (i := 4) (j := 1) (by decide) (by decide) (by decide))).trans m4)), ((mset_ne (am_ne minj (i := 5) (j := 0) (by decide) (by decide) (by decide))).trans ((mset_ne (am_ne minj (i := 5) (j := 1) (by decide) (by decide) (by decide))).trans m5)), ((mset_ne (am_ne minj (i := 6) (j := 0) (by decide) (by decide) (by decide))).trans ((mset_ne (am_ne minj (i := 6) (j := 1) (by decide) (by decide) (by decide))).trans m6)), ((mset_ne (am_ne minj (i := 7) (j := 0) (by decide) (by decide) (by decide))).trans ((mset_ne (am_ne minj (i := 7) (j := 1) (by decide) (by decide) (by decide))).trans m7)), ((mset_ne (am_ne minj (i := 8) (j := 0) (by decide) (by decide) (by decide))).trans ((mset_ne (am_ne minj (i := 8) (j := 1) (by decide) (by decide) (by decide))).trans m8)), ((mset_ne (am_ne minj (i := 9) (j := 0) (by decide) (by decide) (by decide))).trans ((mset_ne (am_ne minj (i := 9) (j := 1) (by decide) (by decide) (by decide))).trans m9)), ((mset_ne (am_ne minj (i := 10) (j := 0) (by decide) (by decide) (by decide))).trans ((mset_ne (am_ne minj (i := 10) (j := 1) (by decide) (by decide) (by decide))).trans m10)), minj, ⟨by omega, by omega, by omega, by omega⟩⟩, (fun a h9 => ((mset_ne (h9 0 (by decide))).trans (mset_ne (h9 1 (by decide)))))⟩)
    · refine lv_iconst (v := iI (-1)) hx hb dX5_thing_19 rfl ?_
      exact m_iret hx hb hr hlk hQ hG hS (Nat.le_of_ble_eq_true rfl) (Nat.le_of_ble_eq_true rfl) dX5_thing_20 (Or.inl ⟨by omega, rfl, rfl⟩)

set_option maxHeartbeats 4000000 in
set_option maxRecDepth 100000 in
theorem c_X5_back (l : Launch) (D : va_G) (b : Nat) (M : mM) (am : Nat → Nat) (nt ng : Int) (sp nn jj sa sx sy ra : Nat → Int) (gz : Nat → Bool) (va ac : Nat → Int) (hO : MoOk M am nt ng sp nn jj sa sx sy ra gz va ac) (hnn : ∀ i : Nat, 0 ≤ nn i ∧ nn i ≤ 12) (t : Int) (hrt : rg t) : Met l yX5_back wsX5_back ({ frames := 2, cells := 0, slots := 0, locals := 43 } : Room) (mPc [.ref (am 0), .int (iI t)] D b M) (mQi D b (fun r M1 => (¬ ((0 ≤ t ∧ t < nt) ∧ 0 < nn t.toNat) ∧ r = iI 0 ∧ M1 = M) ∨ (((0 ≤ t ∧ t < nt) ∧ 0 < nn t.toNat) ∧ r = iI 1 ∧ MoOk M1 am nt ng sp (va_up nn t.toNat (nn t.toNat - 1)) jj sa sx sy ra gz va ac ∧ (∀ a, (∀ i, i ≤ 10 → a ≠ am i) → M1 a = M a)))) 0 0 (mF b) := by
  refine m_met (cc := cX5_back) (maxL := 2) (ret := (some .boolean)) (by decide) rfl (Nat.le_of_ble_eq_true rfl) ?_
  intro p e s m args below meth c Q ls hx hb hml hr hts hown hlk hnm hQ K hG hS hl
  have hown : s.vm.findClass RX5 = some m.cls := hown
  have hl : lv_has ls 2 [(0, .ref (am 0)), (1, .int (iI t))] := hl
  obtain ⟨m0, m1, m2, m3, m4, m5, m6, m7, m8, m9, m10, minj, ⟨b1, b2, b3, b4⟩⟩ := id hO
  have hn9 := hnn t.toNat
  refine lv_aload_n hx hb dX5_back_0 rfl (lv_at hl 0 rfl) ?_
  refine lv_iload_n hx hb dX5_back_1 rfl (lv_at hl 1 rfl) ?_
  refine m_callfi (m_runV (a := am 0) (As := [.int (iI t)]) (rest := []) ⟨hx, hb, hml, hown, hts⟩ (c_X5_isThing l D b _ am nt ng sp nn jj sa sx sy ra gz va ac hO t hrt) (cwV 1 hts gX5_back_X5_isThing rfl rfl rfl (by decide +kernel) ⟨Nat.le_of_ble_eq_true rfl, Nat.le_of_ble_eq_true rfl⟩) K hG m0 rfl rfl rfl hl.1 rfl (Nat.le_of_ble_eq_true rfl) dX5_back_2 ⟨Nat.le_of_ble_eq_true rfl, Nat.le_of_ble_eq_true rfl⟩) hS (fun H locs hG hS => ?_)
  have hG : mG D b M s H := hG
  refine m_ifb_eq (tgt := 17) hx hb dX5_back_5 (by decide) (fun c5 => ?_) (fun c5 => ?_)
  · refine lv_iconst (v := iI 0) hx hb dX5_back_17 rfl ?_
    exact m_zret hx hb hr hlk hQ hG hS (Nat.le_of_ble_eq_true rfl) (Nat.le_of_ble_eq_true rfl) dX5_back_18 (Or.inl rfl) (Or.inl ⟨by omega, rfl, rfl⟩)
  · refine lv_aload_n hx hb dX5_back_8 rfl (lv_at hl 0 rfl) ?_
    refine m_get (ci := 5) (v := .ref (am 2)) (C := RX5) (T := TX5) (N := 12) hx hb hts (by decide +kernel) hown K hG m0 rfl 2 (by decide) (by decide +kernel) rfl dX5_back_9 ?_
    refine lv_iload_n hx hb dX5_back_12 rfl (lv_at hl 1 rfl) ?_
    refine m_iald hx hb hG m2 t.toNat (by omega) (by omega) (by decide) dX5_back_13 ?_
    refine m_if_ne (tgt := 19) hx hb dX5_back_14 (by decide) ⟨by omega, by omega⟩ (fun c14 => ?_) (fun c14 => ?_)
    · refine lv_aload_n hx hb dX5_back_19 rfl (lv_at hl 0 rfl) ?_
      refine m_get (ci := 5) (v := .ref (am 2)) (C := RX5) (T := TX5) (N := 12) hx hb hts (by decide +kernel) hown K hG m0 rfl 2 (by decide) (by decide +kernel) rfl dX5_back_20 ?_
      refine lv_iload_n hx hb dX5_back_23 rfl (lv_at hl 1 rfl) ?_
      refine lv_dup2_11 hx hb dX5_back_24 rfl rfl ?_
      refine m_iald hx hb hG m2 t.toNat (by omega) (by omega) (by decide) dX5_back_25 ?_
      refine lv_iconst (v := iI 1) hx hb dX5_back_26 rfl ?_
      refine m_isub hx hb dX5_back_27 ?_
      refine m_iast hx hb hG hS m2 t.toNat (by omega) (by omega) (by decide) dX5_back_28 (fun H locs hG hS => ?_)
      have hG : mG D b (mset M (am 2) (aI 6 (va_up nn t.toNat ((nn t.toNat) - 1)))) s H := hG
      refine lv_iconst (v := iI 1) hx hb dX5_back_29 rfl ?_
      exact m_zret hx hb hr hlk hQ hG hS (Nat.le_of_ble_eq_true rfl) (Nat.le_of_ble_eq_true rfl) dX5_back_30 (Or.inr rfl) (Or.inr ⟨by omega, rfl, ⟨((mset_ne (am_ne minj (i := 0) (j := 2) (by decide) (by decide) (by decide))).trans m0), ((mset_ne (am_ne minj (i := 1) (j := 2) (by decide) (by decide) (by decide))).trans m1), mset_self, ((mset_ne (am_ne minj (i := 3) (j := 2) (by decide) (by decide) (by decide))).trans m3), ((mset_ne (am_ne minj (i := 4) (j := 2) (by decide) (by decide) (by decide))).trans m4), ((mset_ne (am_ne minj (i := 5) (j := 2) (by decide) (by decide) (by decide))).trans m5), ((mset_ne (am_ne minj (i := 6) (j := 2) (by decide) (by decide) (by decide))).trans m6), ((mset_ne (am_ne minj (i := 7) (j := 2) (by decide) (by decide) (by decide))).trans m7), ((mset_ne (am_ne minj (i := 8) (j := 2) (by decide) (by decide) (by decide))).trans m8), ((mset_ne (am_ne minj (i := 9) (j := 2) (by decide) (by decide) (by decide))).trans m9), ((mset_ne (am_ne minj (i := 10) (j := 2) (by decide) (by decide) (by decide))).trans m10), minj, ⟨by omega, by omega, by omega, by omega⟩⟩, (fun a h9 => (mset_ne (h9 2 (by decide))))⟩)
    · refine lv_iconst (v := iI 0) hx hb dX5_back_17 rfl ?_
      exact m_zret hx hb hr hlk hQ hG hS (Nat.le_of_ble_eq_true rfl) (Nat.le_of_ble_eq_true rfl) dX5_back_18 (Or.inl rfl) (Or.inl ⟨by omega, rfl, rfl⟩)

