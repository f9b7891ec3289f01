abbrev Pl (r : Nat) : mE := .inr (1, [.ref r])
set_option maxHeartbeats 4000000 in
set_option maxRecDepth 100000 in
theorem c_X1_init (l : Launch) (D : va_G) (b : Nat) (M : mM) (h : Nat) (h1 : M h = some (.inr (1, [.null]))) : Met l yX1_init wsX1_init ({ frames := 1, cells := 1, slots := 64, locals := 12 } : Room) (mPc [.ref h] D b M) (mQv D b (fun M1 => ∃ r, M r = none ∧ M1 = mset (mset M r (aL 64 (fun _ _ => false))) h (Pl r))) 1 64 (mF b) := by
  refine m_met (cc := cX1_init) (maxL := 1) (ret := none) (by decide) rfl (Nat.le_of_ble_eq_true rfl) ?_
  intro p e s m args below meth c Q ls hx hb hml hr hts hown hlk hnm hQ K hG hS hl
  have hown : s.vm.findClass RX1 = some m.cls := hown
  have hl : lv_has ls 1 [(0, .ref h)] := hl
  refine lv_aload_n hx hb dX1_init_0 rfl (lv_at hl 0 rfl) ?_
  refine W.objInit hx hb hown (hts (.methodLink RX1 3 objectInit) (by decide +kernel)) (hts (.instanceMethod objectInit) (by decide +kernel)) (hts (.code objectInit ⟨#[0xb1]⟩ 1 none) (by decide +kernel)) rfl (by rw [hml]; exact hl.1) rfl dX1_init_1 (Nat.le_of_ble_eq_true rfl) (Nat.le_of_ble_eq_true rfl) ?_
  refine W.eq (g2 := F0 m 4 ls []) rfl ?_
  refine lv_aload_n hx hb dX1_init_4 rfl (lv_at hl 0 rfl) ?_
  refine lv_bipush (v := iI 64) hx hb dX1_init_5 (by decide) ?_
  refine m_newa_l (N' := 64) hx hb hts (by decide +kernel) hG hS rfl (by decide) (Nat.le_of_ble_eq_true rfl) (Nat.le_of_ble_eq_true rfl) dX1_init_7 (fun q1 H hq1 hG hS => ?_)
  have ne2 : h ≠ q1 := mfresh hq1 h1
  have hG : mG D b (mset M q1 (aL 64 (fun _ _ => false))) s H := hG
  refine m_putF (ci := 1) (v := .ref q1) (ty := .array .long) (fs' := [.ref q1]) (C := RX1) (T := TX1) (N := 1) hx hb hts (by decide +kernel) tyX1 tyX1_ok nmX1 hown K hG hS ((mset_ne ne2).trans h1) rfl 0 (by decide) (by decide +kernel) rfl hnm rfl (by decide +kernel) rfl rfl (Nat.le_of_ble_eq_true rfl) rfl dX1_init_9 (fun H locs hG hS => ?_)
  have hG : mG D b (mset (mset M q1 (aL 64 (fun _ _ => false))) h (.inr (1, [.ref q1]))) s H := hG
  exact m_vret hx hb hr hlk hQ hG hS (Nat.le_of_ble_eq_true rfl) (Nat.le_of_ble_eq_true rfl) dX1_init_12 ⟨_, hq1, rfl⟩

set_option maxHeartbeats 4000000 in
set_option maxRecDepth 100000 in
theorem c_X1_holds (l : Launch) (D : va_G) (b : Nat) (M : mM) (h r : Nat) (S : Nat → Nat → Bool) (h1 : M h = some (Pl r)) (h2 : M r = some (aL 64 S)) (x y : Int) (hx0 : 0 ≤ x) (hx1 : x ≤ 63) (hy0 : 0 ≤ y) (hy1 : y ≤ 63) : Met l yX1_holds wsX1_holds ({ frames := 0, cells := 0, slots := 0, locals := 0 } : Room) (mPc [.ref h, .int (iI x), .int (iI y)] D b M) (mQi D b (fI (if S x.toNat y.toNat = true then 1 else 0) M)) 0 0 (mF b) := by
  refine m_met (cc := cX1_holds) (maxL := 3) (ret := (some .boolean)) (by decide) rfl (Nat.le_of_ble_eq_true rfl) ?_
  intro p e s m args below meth c Q ls hx hb hml hr hts hown hlk hnm hQ K hG hS hl
  have hown : s.vm.findClass RX1 = some m.cls := hown
  have hl : lv_has ls 3 [(0, .ref h), (1, .int (iI x)), (2, .int (iI y))] := hl
  refine lv_aload_n hx hb dX1_holds_0 rfl (lv_at hl 0 rfl) ?_
  refine m_get (ci := 1) (v := .ref r) (C := RX1) (T := TX1) (N := 1) hx hb hts (by decide +kernel) hown K hG h1 rfl 0 (by decide) (by decide +kernel) rfl dX1_holds_1 ?_
  refine lv_iload_n hx hb dX1_holds_4 rfl (lv_at hl 1 rfl) ?_
  refine m_lald hx hb hG h2 x.toNat (by omega) (by omega) (by decide) dX1_holds_5 ?_
  refine lv_iload_n hx hb dX1_holds_6 rfl (lv_at hl 2 rfl) ?_
  refine m_lushr hx hb y.toNat (by omega) (by omega) dX1_holds_7 ?_
  refine lv_lconst (v := 1) hx hb dX1_holds_8 rfl ?_
  refine m_topl bO_1 ?_
  refine m_land hx hb dX1_holds_9 ?_
  refine lv_lconst (v := 0) hx hb dX1_holds_10 rfl ?_
  refine m_topl bO_0 ?_
  refine m_lcmp_eq (tgt := 19) (q := fun tt => (decide (tt + y.toNat < 64) && (S x.toNat) (tt + y.toNat)) && (decide (tt = 0))) (r := fun _ => false) hx hb dX1_holds_11 dX1_holds_12 (by decide) (fun c11 => ?_) (fun c11 => ?_)
  · refine lv_iconst (v := iI 0) hx hb dX1_holds_19 rfl ?_
    exact m_zret hx hb hr hlk hQ hG hS (Nat.le_of_ble_eq_true rfl) (Nat.le_of_ble_eq_true rfl) dX1_holds_20 (Or.inl rfl) ⟨congrArg iI (by have h9 := c11 0 (by omega); simp at h9; rw [if_neg (by rw [h9 (by omega)]; decide)]), rfl⟩
  · refine lv_iconst (v := iI 1) hx hb dX1_holds_15 rfl ?_
    refine lv_goto (tgt := 20) hx hb dX1_holds_16 (by decide) ?_
    exact m_zret hx hb hr hlk hQ hG hS (Nat.le_of_ble_eq_true rfl) (Nat.le_of_ble_eq_true rfl) dX1_holds_20 (Or.inr rfl) ⟨congrArg iI (by rw [if_pos]; rcases hS9 : S x.toNat y.toNat with _ | _; exact absurd (fun i _ => by by_cases hi : i = 0 <;> simp [hi, hS9]) c11; rfl), rfl⟩

set_option maxHeartbeats 4000000 in
set_option maxRecDepth 100000 in
theorem c_X1_isEmpty (l : Launch) (D : va_G) (b : Nat) (M : mM) (h r : Nat) (S : Nat → Nat → Bool) (h1 : M h = some (Pl r)) (h2 : M r = some (aL 64 S)) : Met l yX1_isEmpty wsX1_isEmpty ({ frames := 0, cells := 0, slots := 0, locals := 0 } : Room) (mPc [.ref h] D b M) (mQi D b (fI (tf (∀ a c : Nat, a < 64 → c < 64 → S a c = false)) M)) 0 0 (mF b) := by
  refine m_met (cc := cX1_isEmpty) (maxL := 2) (ret := (some .boolean)) (by decide) rfl (Nat.le_of_ble_eq_true rfl) ?_
  intro p e s m args below meth c Q ls hx hb hml hr hts hown hlk hnm hQ K hG hS hl
  have hown : s.vm.findClass RX1 = some m.cls := hown
  have hl : lv_has ls 2 [(0, .ref h)] := hl
  refine lv_iconst (v := iI 0) hx hb dX1_isEmpty_0 rfl ?_
  refine lv_istore_n (lv' := [(1, .int (iI 0)), (0, .ref h)]) hx hb dX1_isEmpty_1 rfl hl (by decide) rfl (fun ls hl => ?_)
  have loop2 : ∀ (fuel : Nat) (i : Int) (H : Heap) (locs : List Loc) (ls : Array Slot), (0 ≤ i) → (i ≤ 64) → (∀ a c : Nat, (a : Int) < i → c < 64 → S a c = false) → (64 - i).toNat < fuel → mG D b M s H → va_S (mF b) s.heap H locs → lv_has ls 2 [(0, .ref h), (1, .int (iI i))] → W p l e ({ frames := 0, cells := 0, slots := 0, locals := 0 } : Room) s m args below meth c H locs 0 0 Q (F0 m 2 ls []) := by
    intro fuel
    induction fuel with
    | zero => intro i H locs ls hi0 hi1 hA hm; exact absurd hm (Nat.not_lt_zero _)
    | succ fuel ih2 =>
      intro i H locs ls hi0 hi1 hA hm hG hS hl
      refine lv_iload_n hx hb dX1_isEmpty_2 rfl (lv_at hl 1 rfl) ?_
      refine lv_bipush (v := iI 64) hx hb dX1_isEmpty_3 (by decide) ?_
      refine m_icmp_ge (tgt := 27) hx hb dX1_isEmpty_5 (by decide) ⟨by omega, by omega⟩ ⟨by omega, by omega⟩ (fun c5 => ?_) (fun c5 => ?_)
      · refine lv_iconst (v := iI 1) hx hb dX1_isEmpty_27 rfl ?_
        exact m_zret hx hb hr hlk hQ hG hS (Nat.le_of_ble_eq_true rfl) (Nat.le_of_ble_eq_true rfl) dX1_isEmpty_28 (Or.inr rfl) ⟨congrArg iI (tf_t (fun a c h h9 => hA a c (by omega) h9)).symm, rfl⟩
      · refine lv_aload_n hx hb dX1_isEmpty_8 rfl (lv_at hl 0 rfl) ?_
        refine m_get (ci := 1) (v := .ref r) (C := RX1) (T := TX1) (N := 1) hx hb hts (by decide +kernel) hown K hG h1 rfl 0 (by decide) (by decide +kernel) rfl dX1_isEmpty_9 ?_
        refine lv_iload_n hx hb dX1_isEmpty_12 rfl (lv_at hl 1 rfl) ?_
        refine m_lald hx hb hG h2 i.toNat (by omega) (by omega) (by decide) dX1_isEmpty_13 ?_
        refine lv_lconst (v := 0) hx hb dX1_isEmpty_14 rfl ?_
        refine m_topl bO_0 ?_
        refine m_lcmp_eq (tgt := 21) (q := S i.toNat) (r := fun _ => false) hx hb dX1_isEmpty_15 dX1_isEmpty_16 (by decide) (fun c15 => ?_) (fun c15 => ?_)
        · refine m_iinc (lv' := [(1, .int (iI (i + 1))), (0, .ref h)]) (k := 1) hx hb dX1_isEmpty_21 hl rfl (by decide) rfl (fun ls hl => ?_)
          refine lv_goto (tgt := 2) hx hb dX1_isEmpty_24 (by decide) ?_
          exact ih2 (i + 1) _ _ _ (by omega) (by omega) (fun a c h h9 => by rcases Int.lt_or_le (a : Int) i with q | q; exact hA a c q h9; rw [show a = i.toNat by omega]; exact c15 c h9) (by omega) hG hS (lv_sub hl [1, 0] rfl)
        · refine lv_iconst (v := iI 0) hx hb dX1_isEmpty_19 rfl ?_
          exact m_zret hx hb hr hlk hQ hG hS (Nat.le_of_ble_eq_true rfl) (Nat.le_of_ble_eq_true rfl) dX1_isEmpty_20 (Or.inl rfl) ⟨congrArg iI (tf_f (fun q => c15 (fun a ha => q i.toNat a (by omega) ha))).symm, rfl⟩
  exact loop2 _ 0 _ _ _ (by omega) (by omega) (fun a c h _ => absurd h (by omega)) (Nat.lt_succ_self _) hG hS (lv_sub hl [1, 0] rfl)

set_option maxHeartbeats 4000000 in
set_option maxRecDepth 100000 in
theorem c_X1_meets (l : Launch) (D : va_G) (b : Nat) (M : mM) (h r : Nat) (S : Nat → Nat → Bool) (h1 : M h = some (Pl r)) (h2 : M r = some (aL 64 S)) (o : Nat) (w x y z : Int) (h3 : M o = some (Bx w x y z)) (hw : 0 ≤ w) (hwx : w ≤ x) (hx0 : x ≤ 63) (hy : 0 ≤ y) (hyz : y ≤ z) (hz : z ≤ 63) : Met l yX1_meets wsX1_meets ({ frames := 1, cells := 0, slots := 0, locals := 20 } : Room) (mPc [.ref h, .ref o] D b M) (mQi D b (fI (tf (∃ a c : Nat, w ≤ a ∧ (a : Int) ≤ x ∧ y ≤ c ∧ (c : Int) ≤ z ∧ S a c = true)) M)) 0 0 (mF b) := by
  refine m_met (cc := cX1_meets) (maxL := 5) (ret := (some .boolean)) (by decide) rfl (Nat.le_of_ble_eq_true rfl) ?_
  intro p e s m args below meth c Q ls hx hb hml hr hts hown hlk hnm hQ K hG hS hl
  have hown : s.vm.findClass RX1 = some m.cls := hown
  have hl : lv_has ls 5 [(0, .ref h), (1, .ref o)] := hl
  refine lv_aload_n hx hb dX1_meets_0 rfl (lv_at hl 1 rfl) ?_
  refine m_callfl (m_runV (a := o) (As := []) (rest := []) ⟨hx, hb, hml, hown, hts⟩ (c_X0_rowBits l D b _ o w x y z h3 (by omega) (by omega) (by omega)) (cwV 0 hts gX1_meets_X0_rowBits rfl rfl rfl (by decide +kernel) ⟨Nat.le_of_ble_eq_true rfl, Nat.le_of_ble_eq_true rfl⟩) K hG h3 rfl rfl rfl hl.1 rfl (Nat.le_of_ble_eq_true rfl) dX1_meets_1 ⟨Nat.le_of_ble_eq_true rfl, Nat.le_of_ble_eq_true rfl⟩) hS (fun H locs hG hS => ?_)
  have hG : mG D b M s H := hG
  refine lv_lstore_n (lv' := [(2, .long (bO (fun tt => decide (y ≤ (tt : Int) ∧ (tt : Int) ≤ z)))), (0, .ref h), (1, .ref o)]) hx hb dX1_meets_4 rfl hl (by decide) rfl (fun ls hl => ?_)
  refine lv_aload_n hx hb dX1_meets_5 rfl (lv_at hl 2 rfl) ?_
  refine m_getN (ci := 0) (v := .int (iI w)) (C := RX0) (T := TX0) (N := 4) hx hb hts (by decide +kernel) hown K hG h3 rfl 0 (by decide) K.2.1.1 rfl dX1_meets_6 ?_
  refine lv_istore (lv' := [(4, .int (iI w)), (2, .long (bO (fun tt => decide (y ≤ (tt : Int) ∧ (tt : Int) ≤ z)))), (0, .ref h), (1, .ref o)]) hx hb dX1_meets_9 hl (by decide) rfl (fun ls hl => ?_)
  have loop11 : ∀ (fuel : Nat) (i : Int) (H : Heap) (locs : List Loc) (ls : Array Slot), (w ≤ i) → (i ≤ x + 1) → (∀ a c : Nat, w ≤ a → (a : Int) < i → y ≤ c → (c : Int) ≤ z → S a c = false) → (64 - i).toNat < fuel → mG D b M s H → va_S (mF b) s.heap H locs → lv_has ls 5 [(4, .int (iI i)), (2, .long (bO (fun tt => decide (y ≤ (tt : Int) ∧ (tt : Int) ≤ z)))), (0, .ref h), (1, .ref o)] → W p l e ({ frames := 1, cells := 0, slots := 0, locals := 20 } : Room) s m args below meth c H locs 0 0 Q (F0 m 11 ls []) := by
    intro fuel
    induction fuel with
    | zero => intro i H locs ls hi0 hi1 hA hm; exact absurd hm (Nat.not_lt_zero _)
    | succ fuel ih11 =>
      intro i H locs ls hi0 hi1 hA hm hG hS hl
      refine lv_iload hx hb dX1_meets_11 (lv_at hl 0 rfl) ?_
      refine lv_aload_n hx hb dX1_meets_13 rfl (lv_at hl 3 rfl) ?_
      refine m_getN (ci := 0) (v := .int (iI x)) (C := RX0) (T := TX0) (N := 4) hx hb hts (by decide +kernel) hown K hG h3 rfl 1 (by decide) K.2.1.2 rfl dX1_meets_14 ?_
      refine m_icmp_gt (tgt := 42) hx hb dX1_meets_17 (by decide) ⟨by omega, by omega⟩ ⟨by omega, by omega⟩ (fun c17 => ?_) (fun c17 => ?_)
      · refine lv_iconst (v := iI 0) hx hb dX1_meets_42 rfl ?_
        exact m_zret hx hb hr hlk hQ hG hS (Nat.le_of_ble_eq_true rfl) (Nat.le_of_ble_eq_true rfl) dX1_meets_43 (Or.inl rfl) ⟨congrArg iI (by rw [tf_f]; rintro ⟨a, c, g1, g2, g3, g4, g5⟩; rw [hA a c g1 (by omega) g3 g4] at g5; cases g5), rfl⟩
      · refine lv_aload_n hx hb dX1_meets_20 rfl (lv_at hl 2 rfl) ?_
        refine m_get (ci := 1) (v := .ref r) (C := RX1) (T := TX1) (N := 1) hx hb hts (by decide +kernel) hown K hG h1 rfl 0 (by decide) (by decide +kernel) rfl dX1_meets_21 ?_
        refine lv_iload hx hb dX1_meets_24 (lv_at hl 0 rfl) ?_
        refine m_lald hx hb hG h2 i.toNat (by omega) (by omega) (by decide) dX1_meets_26 ?_
        refine lv_lload_n hx hb dX1_meets_27 rfl (lv_at hl 1 rfl) ?_
        refine m_land hx hb dX1_meets_28 ?_
        refine lv_lconst (v := 0) hx hb dX1_meets_29 rfl ?_
        refine m_topl bO_0 ?_
        refine m_lcmp_eq (tgt := 36) (q := fun tt => (S i.toNat) tt && (decide (y ≤ (tt : Int) ∧ (tt : Int) ≤ z))) (r := fun _ => false) hx hb dX1_meets_30 dX1_meets_31 (by decide) (fun c30 => ?_) (fun c30 => ?_)
        · refine m_iinc (lv' := [(4, .int (iI (i + 1))), (2, .long (bO (fun tt => decide (y ≤ (tt : Int) ∧ (tt : Int) ≤ z)))), (0, .ref h), (1, .ref o)]) (k := 0) hx hb dX1_meets_36 hl rfl (by decide) rfl (fun ls hl => ?_)
          refine lv_goto (tgt := 11) hx hb dX1_meets_39 (by decide) ?_
          exact ih11 (i + 1) _ _ _ (by omega) (by omega) (fun a c g1 g2 g3 g4 => by rcases Int.lt_or_le (a : Int) i with q | q; exact hA a c g1 q g3 g4; have h9 := c30 c (by omega); rw [show a = i.toNat by omega]; simpa [g3, g4] using h9) (by omega) hG hS (lv_sub hl [0, 1, 2, 3] rfl)
        · refine lv_iconst (v := iI 1) hx hb dX1_meets_34 rfl ?_
          exact m_zret hx hb hr hlk hQ hG hS (Nat.le_of_ble_eq_true rfl) (Nat.le_of_ble_eq_true rfl) dX1_meets_35 (Or.inr rfl) ⟨congrArg iI (by rw [tf_t]; rcases Classical.em (∃ a c : Nat, w ≤ a ∧ (a : Int) ≤ x ∧ y ≤ c ∧ (c : Int) ≤ z ∧ S a c = true) with q | q; exact q; exact absurd (fun t ht => by rcases hS9 : S i.toNat t with _ | _; simp; have : ¬ (y ≤ (t : Int) ∧ (t : Int) ≤ z) := fun h => q ⟨i.toNat, t, by omega, by omega, h.1, h.2, hS9⟩; simp [this]) c30), rfl⟩
  exact loop11 _ w _ _ _ (by omega) (by omega) (fun a c h9 h => absurd h (by omega)) (Nat.lt_succ_self _) hG hS (lv_sub hl [0, 1, 2, 3] rfl)

set_option maxHeartbeats 4000000 in
set_option maxRecDepth 100000 in
theorem c_X1_covers (l : Launch) (D : va_G) (b : Nat) (M : mM) (h r : Nat) (S : Nat → Nat → Bool) (h1 : M h = some (Pl r)) (h2 : M r = some (aL 64 S)) (o : Nat) (w x y z : Int) (h3 : M o = some (Bx w x y z)) (hw : 0 ≤ w) (hwx : w ≤ x) (hx0 : x ≤ 63) (hy : 0 ≤ y) (hyz : y ≤ z) (hz : z ≤ 63) : Met l yX1_covers wsX1_covers ({ frames := 1, cells := 0, slots := 0, locals := 20 } : Room) (mPc [.ref h, .ref o] D b M) (mQi D b (fI (tf (∀ a c : Nat, w ≤ a → (a : Int) ≤ x → y ≤ c → (c : Int) ≤ z → S a c = true)) M)) 0 0 (mF b) := by
  refine m_met (cc := cX1_covers) (maxL := 5) (ret := (some .boolean)) (by decide) rfl (Nat.le_of_ble_eq_true rfl) ?_
  intro p e s m args below meth c Q ls hx hb hml hr hts hown hlk hnm hQ K hG hS hl
  have hown : s.vm.findClass RX1 = some m.cls := hown
  have hl : lv_has ls 5 [(0, .ref h), (1, .ref o)] := hl
  refine lv_aload_n hx hb dX1_covers_0 rfl (lv_at hl 1 rfl) ?_
  refine m_callfl (m_runV (a := o) (As := []) (rest := []) ⟨hx, hb, hml, hown, hts⟩ (c_X0_rowBits l D b _ o w x y z h3 (by omega) (by omega) (by omega)) (cwV 0 hts gX1_covers_X0_rowBits rfl rfl rfl (by decide +kernel) ⟨Nat.le_of_ble_eq_true rfl, Nat.le_of_ble_eq_true rfl⟩) K hG h3 rfl rfl rfl hl.1 rfl (Nat.le_of_ble_eq_true rfl) dX1_covers_1 ⟨Nat.le_of_ble_eq_true rfl, Nat.le_of_ble_eq_true rfl⟩) hS (fun H locs hG hS => ?_)
  have hG : mG D b M s H := hG
  refine lv_lstore_n (lv' := [(2, .long (bO (fun tt => decide (y ≤ (tt : Int) ∧ (tt : Int) ≤ z)))), (0, .ref h), (1, .ref o)]) hx hb dX1_covers_4 rfl hl (by decide) rfl (fun ls hl => ?_)
  refine lv_aload_n hx hb dX1_covers_5 rfl (lv_at hl 2 rfl) ?_
  refine m_getN (ci := 0) (v := .int (iI w)) (C := RX0) (T := TX0) (N := 4) hx hb hts (by decide +kernel) hown K hG h3 rfl 0 (by decide) K.2.1.1 rfl dX1_covers_6 ?_
  refine lv_istore (lv' := [(4, .int (iI w)), (2, .long (bO (fun tt => decide (y ≤ (tt : Int) ∧ (tt : Int) ≤ z)))), (0, .ref h), (1, .ref o)]) hx hb dX1_covers_9 hl (by decide) rfl (fun ls hl => ?_)
  have loop11 : ∀ (fuel : Nat) (i : Int) (H : Heap) (locs : List Loc) (ls : Array Slot), (w ≤ i) → (i ≤ x + 1) → (∀ a c : Nat, w ≤ a → (a : Int) < i → y ≤ c → (c : Int) ≤ z → S a c = true) → (64 - i).toNat < fuel → mG D b M s H → va_S (mF b) s.heap H locs → lv_has ls 5 [(4, .int (iI i)), (2, .long (bO (fun tt => decide (y ≤ (tt : Int) ∧ (tt : Int) ≤ z)))), (0, .ref h), (1, .ref o)] → W p l e ({ frames := 1, cells := 0, slots := 0, locals := 20 } : Room) s m args below meth c H locs 0 0 Q (F0 m 11 ls []) := by
    intro fuel
    induction fuel with
    | zero => intro i H locs ls hi0 hi1 hA hm; exact absurd hm (Nat.not_lt_zero _)
    | succ fuel ih11 =>
      intro i H locs ls hi0 hi1 hA hm hG hS hl
      refine lv_iload hx hb dX1_covers_11 (lv_at hl 0 rfl) ?_
      refine lv_aload_n hx hb dX1_covers_13 rfl (lv_at hl 3 rfl) ?_
      refine m_getN (ci := 0) (v := .int (iI x)) (C := RX0) (T := TX0) (N := 4) hx hb hts (by decide +kernel) hown K hG h3 rfl 1 (by decide) K.2.1.2 rfl dX1_covers_14 ?_
      refine m_icmp_gt (tgt := 42) hx hb dX1_covers_17 (by decide) ⟨by omega, by omega⟩ ⟨by omega, by omega⟩ (fun c17 => ?_) (fun c17 => ?_)
      · refine lv_iconst (v := iI 1) hx hb dX1_covers_42 rfl ?_
        exact m_zret hx hb hr hlk hQ hG hS (Nat.le_of_ble_eq_true rfl) (Nat.le_of_ble_eq_true rfl) dX1_covers_43 (Or.inr rfl) ⟨congrArg iI (tf_t (fun a c g1 g2 g3 g4 => hA a c g1 (by omega) g3 g4)).symm, rfl⟩
      · refine lv_aload_n hx hb dX1_covers_20 rfl (lv_at hl 2 rfl) ?_
        refine m_get (ci := 1) (v := .ref r) (C := RX1) (T := TX1) (N := 1) hx hb hts (by decide +kernel) hown K hG h1 rfl 0 (by decide) (by decide +kernel) rfl dX1_covers_21 ?_
        refine lv_iload hx hb dX1_covers_24 (lv_at hl 0 rfl) ?_
        refine m_lald hx hb hG h2 i.toNat (by omega) (by omega) (by decide) dX1_covers_26 ?_
        refine lv_lload_n hx hb dX1_covers_27 rfl (lv_at hl 1 rfl) ?_
        refine m_land hx hb dX1_covers_28 ?_
        refine lv_lload_n hx hb dX1_covers_29 rfl (lv_at hl 1 rfl) ?_
        refine m_lcmp_eq (tgt := 36) (q := fun tt => (S i.toNat) tt && (decide (y ≤ (tt : Int) ∧ (tt : Int) ≤ z))) (r := fun tt => decide (y ≤ (tt : Int) ∧ (tt : Int) ≤ z)) hx hb dX1_covers_30 dX1_covers_31 (by decide) (fun c30 => ?_) (fun c30 => ?_)
        · refine m_iinc (lv' := [(4, .int (iI (i + 1))), (2, .long (bO (fun tt => decide (y ≤ (tt : Int) ∧ (tt : Int) ≤ z)))), (0, .ref h), (1, .ref o)]) (k := 0) hx hb dX1_covers_36 hl rfl (by decide) rfl (fun ls hl => ?_)
          refine lv_goto (tgt := 11) hx hb dX1_covers_39 (by decide) ?_
          exact ih11 (i + 1) _ _ _ (by omega) (by omega) (fun a c g1 g2 g3 g4 => by rcases Int.lt_or_le (a : Int) i with q | q; exact hA a c g1 q g3 g4; have h9 := c30 c (by omega); rw [show a = i.toNat by omega]; simpa [g3, g4] using h9) (by omega) hG hS (lv_sub hl [0, 1, 2, 3] rfl)
        · refine lv_iconst (v := iI 0) hx hb dX1_covers_34 rfl ?_
          exact m_zret hx hb hr hlk hQ hG hS (Nat.le_of_ble_eq_true rfl) (Nat.le_of_ble_eq_true rfl) dX1_covers_35 (Or.inl rfl) ⟨congrArg iI (by rw [tf_f]; intro q; refine c30 (fun t ht => ?_); by_cases h9 : y ≤ (t : Int) ∧ (t : Int) ≤ z; rw [q i.toNat t (by omega) (by omega) h9.1 h9.2, Bool.true_and]; simp [h9]), rfl⟩
  exact loop11 _ w _ _ _ (by omega) (by omega) (fun a c h9 h => absurd h (by omega)) (Nat.lt_succ_self _) hG hS (lv_sub hl [0, 1, 2, 3] rfl)

set_option maxHeartbeats 4000000 in
set_option maxRecDepth 100000 in
theorem c_X1_add (l : Launch) (D : va_G) (b : Nat) (M : mM) (h r : Nat) (S : Nat → Nat → Bool) (h1 : M h = some (Pl r)) (h2 : M r = some (aL 64 S)) (o : Nat) (w x y z : Int) (h3 : M o = some (Bx w x y z)) (hw : 0 ≤ w) (hwx : w ≤ x) (hx0 : x ≤ 63) (hy : 0 ≤ y) (hyz : y ≤ z) (hz : z ≤ 63) : Met l yX1_add wsX1_add ({ frames := 1, cells := 0, slots := 0, locals := 20 } : Room) (mPc [.ref h, .ref o] D b M) (mQv D b (fV (mset M r (aL 64 (fun a c => if w ≤ (a : Int) ∧ (a : Int) ≤ x then (S a c || decide (y ≤ (c : Int) ∧ (c : Int) ≤ z)) else S a c))))) 0 0 (mF b) := by
  refine m_met (cc := cX1_add) (maxL := 5) (ret := none) (by decide) rfl (Nat.le_of_ble_eq_true rfl) ?_
  intro p e s m args below meth c Q ls hx hb hml hr hts hown hlk hnm hQ K hG hS hl
  have hown : s.vm.findClass RX1 = some m.cls := hown
  have hl : lv_has ls 5 [(0, .ref h), (1, .ref o)] := hl
  refine lv_aload_n hx hb dX1_add_0 rfl (lv_at hl 1 rfl) ?_
  refine m_callfl (m_runV (a := o) (As := []) (rest := []) ⟨hx, hb, hml, hown, hts⟩ (c_X0_rowBits l D b _ o w x y z h3 (by omega) (by omega) (by omega)) (cwV 0 hts gX1_add_X0_rowBits rfl rfl rfl (by decide +kernel) ⟨Nat.le_of_ble_eq_true rfl, Nat.le_of_ble_eq_true rfl⟩) K hG h3 rfl rfl rfl hl.1 rfl (Nat.le_of_ble_eq_true rfl) dX1_add_1 ⟨Nat.le_of_ble_eq_true rfl, Nat.le_of_ble_eq_true rfl⟩) hS (fun H locs hG hS => ?_)
  have hG : mG D b M s H := hG
  refine lv_lstore_n (lv' := [(2, .long (bO (fun tt => decide (y ≤ (tt : Int) ∧ (tt : Int) ≤ z)))), (0, .ref h), (1, .ref o)]) hx hb dX1_add_4 rfl hl (by decide) rfl (fun ls hl => ?_)
  refine lv_aload_n hx hb dX1_add_5 rfl (lv_at hl 2 rfl) ?_
  refine m_getN (ci := 0) (v := .int (iI w)) (C := RX0) (T := TX0) (N := 4) hx hb hts (by decide +kernel) hown K hG h3 rfl 0 (by decide) K.2.1.1 rfl dX1_add_6 ?_
  refine lv_istore (lv' := [(4, .int (iI w)), (2, .long (bO (fun tt => decide (y ≤ (tt : Int) ∧ (tt : Int) ≤ z)))), (0, .ref h), (1, .ref o)]) hx hb dX1_add_9 hl (by decide) rfl (fun ls hl => ?_)
  have loop11 : ∀ (fuel : Nat) (i : Int) (T : Nat → Nat → Bool) (H : Heap) (locs : List Loc) (ls : Array Slot), (w ≤ i) → (i ≤ x + 1) → (∀ a c : Nat, T a c = if w ≤ (a : Int) ∧ (a : Int) < i then (S a c || decide (y ≤ (c : Int) ∧ (c : Int) ≤ z)) else S a c) → (64 - i).toNat < fuel → mG D b (mset M r (aL 64 T)) s H → va_S (mF b) s.heap H locs → lv_has ls 5 [(4, .int (iI i)), (2, .long (bO (fun tt => decide (y ≤ (tt : Int) ∧ (tt : Int) ≤ z)))), (0, .ref h), (1, .ref o)] → W p l e ({ frames := 1, cells := 0, slots := 0, locals := 20 } : Room) s m args below meth c H locs 0 0 Q (F0 m 11 ls []) := by
    intro fuel
    induction fuel with
    | zero => intro i T H locs ls hi0 hi1 hA hm; exact absurd hm (Nat.not_lt_zero _)
    | succ fuel ih11 =>
      intro i T H locs ls hi0 hi1 hA hm hG hS hl
      refine lv_iload hx hb dX1_add_11 (lv_at hl 0 rfl) ?_
      refine lv_aload_n hx hb dX1_add_13 rfl (lv_at hl 3 rfl) ?_
      refine m_getN (ci := 0) (v := .int (iI x)) (C := RX0) (T := TX0) (N := 4) hx hb hts (by decide +kernel) hown K hG ((mset_ne (mne h3 h2 (by intro h; cases h))).trans h3) rfl 1 (by decide) K.2.1.2 rfl dX1_add_14 ?_
      refine m_icmp_gt (tgt := 37) hx hb dX1_add_17 (by decide) ⟨by omega, by omega⟩ ⟨by omega, by omega⟩ (fun c17 => ?_) (fun c17 => ?_)
      · exact m_vret hx hb hr hlk hQ hG hS (Nat.le_of_ble_eq_true rfl) (Nat.le_of_ble_eq_true rfl) dX1_add_37 (by show mset M r (aL 64 T) = mset M r _; refine congrArg (fun q => mset M r (aL 64 q)) (funext fun a => funext fun c => ?_); rw [hA]; by_cases g : w ≤ (a : Int) ∧ (a : Int) ≤ x; rw [if_pos g, if_pos (by omega)]; rw [if_neg g, if_neg (by omega)])
      · refine lv_aload_n hx hb dX1_add_20 rfl (lv_at hl 2 rfl) ?_
        refine m_get (ci := 1) (v := .ref r) (C := RX1) (T := TX1) (N := 1) hx hb hts (by decide +kernel) hown K hG ((mset_ne (mne h1 h2 (by intro h; cases h))).trans h1) rfl 0 (by decide) (by decide +kernel) rfl dX1_add_21 ?_
        refine lv_iload hx hb dX1_add_24 (lv_at hl 0 rfl) ?_
        refine lv_dup2_11 hx hb dX1_add_26 rfl rfl ?_
        refine m_lald hx hb hG mset_self i.toNat (by omega) (by omega) (by decide) dX1_add_27 ?_
        refine lv_lload_n hx hb dX1_add_28 rfl (lv_at hl 1 rfl) ?_
        refine m_lor hx hb dX1_add_29 ?_
        refine m_last hx hb hG hS mset_self i.toNat (by omega) (by omega) (by decide) dX1_add_30 (fun H locs hG hS => ?_)
        rw [mset_mset] at hG
        have hG : mG D b (mset M r (aL 64 (va_up T i.toNat (fun tt => (T i.toNat) tt || (decide (y ≤ (tt : Int) ∧ (tt : Int) ≤ z)))))) s H := hG
        refine m_iinc (lv' := [(4, .int (iI (i + 1))), (2, .long (bO (fun tt => decide (y ≤ (tt : Int) ∧ (tt : Int) ≤ z)))), (0, .ref h), (1, .ref o)]) (k := 0) hx hb dX1_add_31 hl rfl (by decide) rfl (fun ls hl => ?_)
        refine lv_goto (tgt := 11) hx hb dX1_add_34 (by decide) ?_
        exact ih11 (i + 1) (va_up T i.toNat (fun tt => (T i.toNat) tt || (decide (y ≤ (tt : Int) ∧ (tt : Int) ≤ z)))) _ _ _ (by omega) (by omega) (fun a c => by by_cases g : a = i.toNat; rw [g, va_up_self, if_pos (by omega)]; simp only [hA]; (try rw [if_neg (by omega)]); rw [va_up_ne _ _ g, hA]; by_cases g2 : w ≤ (a : Int) ∧ (a : Int) < i; rw [if_pos g2, if_pos (by omega)]; rw [if_neg g2, if_neg (by omega)]) (by omega) hG hS (lv_sub hl [0, 1, 2, 3] rfl)
  exact loop11 _ w S _ _ _ (by omega) (by omega) (fun a c => by rw [if_neg (by omega)]) (Nat.lt_succ_self _) (by rw [mset_id h2]; exact hG) hS (lv_sub hl [0, 1, 2, 3] rfl)

set_option maxHeartbeats 4000000 in
set_option maxRecDepth 100000 in
theorem c_X1_remove (l : Launch) (D : va_G) (b : Nat) (M : mM) (h r : Nat) (S : Nat → Nat → Bool) (h1 : M h = some (Pl r)) (h2 : M r = some (aL 64 S)) (o : Nat) (w x y z : Int) (h3 : M o = some (Bx w x y z)) (hw : 0 ≤ w) (hwx : w ≤ x) (hx0 : x ≤ 63) (hy : 0 ≤ y) (hyz : y ≤ z) (hz : z ≤ 63) : Met l yX1_remove wsX1_remove ({ frames := 1, cells := 0, slots := 0, locals := 20 } : Room) (mPc [.ref h, .ref o] D b M) (mQv D b (fV (mset M r (aL 64 (fun a c => if w ≤ (a : Int) ∧ (a : Int) ≤ x then (S a c && !decide (y ≤ (c : Int) ∧ (c : Int) ≤ z)) else S a c))))) 0 0 (mF b) := by
  refine m_met (cc := cX1_remove) (maxL := 5) (ret := none) (by decide) rfl (Nat.le_of_ble_eq_true rfl) ?_
  intro p e s m args below meth c Q ls hx hb hml hr hts hown hlk hnm hQ K hG hS hl
  have hown : s.vm.findClass RX1 = some m.cls := hown
  have hl : lv_has ls 5 [(0, .ref h), (1, .ref o)] := hl
  refine lv_aload_n hx hb dX1_remove_0 rfl (lv_at hl 1 rfl) ?_
  refine m_callfl (m_runV (a := o) (As := []) (rest := []) ⟨hx, hb, hml, hown, hts⟩ (c_X0_rowBits l D b _ o w x y z h3 (by omega) (by omega) (by omega)) (cwV 0 hts gX1_remove_X0_rowBits rfl rfl rfl (by decide +kernel) ⟨Nat.le_of_ble_eq_true rfl, Nat.le_of_ble_eq_true rfl⟩) K hG h3 rfl rfl rfl hl.1 rfl (Nat.le_of_ble_eq_true rfl) dX1_remove_1 ⟨Nat.le_of_ble_eq_true rfl, Nat.le_of_ble_eq_true rfl⟩) hS (fun H locs hG hS => ?_)
  have hG : mG D b M s H := hG
  refine lv_lstore_n (lv' := [(2, .long (bO (fun tt => decide (y ≤ (tt : Int) ∧ (tt : Int) ≤ z)))), (0, .ref h), (1, .ref o)]) hx hb dX1_remove_4 rfl hl (by decide) rfl (fun ls hl => ?_)
  refine lv_aload_n hx hb dX1_remove_5 rfl (lv_at hl 2 rfl) ?_
  refine m_getN (ci := 0) (v := .int (iI w)) (C := RX0) (T := TX0) (N := 4) hx hb hts (by decide +kernel) hown K hG h3 rfl 0 (by decide) K.2.1.1 rfl dX1_remove_6 ?_
  refine lv_istore (lv' := [(4, .int (iI w)), (2, .long (bO (fun tt => decide (y ≤ (tt : Int) ∧ (tt : Int) ≤ z)))), (0, .ref h), (1, .ref o)]) hx hb dX1_remove_9 hl (by decide) rfl (fun ls hl => ?_)
  have loop11 : ∀ (fuel : Nat) (i : Int) (T : Nat → Nat → Bool) (H : Heap) (locs : List Loc) (ls : Array Slot), (w ≤ i) → (i ≤ x + 1) → (∀ a c : Nat, T a c = if w ≤ (a : Int) ∧ (a : Int) < i then (S a c && !decide (y ≤ (c : Int) ∧ (c : Int) ≤ z)) else S a c) → (64 - i).toNat < fuel → mG D b (mset M r (aL 64 T)) s H → va_S (mF b) s.heap H locs → lv_has ls 5 [(4, .int (iI i)), (2, .long (bO (fun tt => decide (y ≤ (tt : Int) ∧ (tt : Int) ≤ z)))), (0, .ref h), (1, .ref o)] → W p l e ({ frames := 1, cells := 0, slots := 0, locals := 20 } : Room) s m args below meth c H locs 0 0 Q (F0 m 11 ls []) := by
    intro fuel
    induction fuel with
    | zero => intro i T H locs ls hi0 hi1 hA hm; exact absurd hm (Nat.not_lt_zero _)
    | succ fuel ih11 =>
      intro i T H locs ls hi0 hi1 hA hm hG hS hl
      refine lv_iload hx hb dX1_remove_11 (lv_at hl 0 rfl) ?_
      refine lv_aload_n hx hb dX1_remove_13 rfl (lv_at hl 3 rfl) ?_
      refine m_getN (ci := 0) (v := .int (iI x)) (C := RX0) (T := TX0) (N := 4) hx hb hts (by decide +kernel) hown K hG ((mset_ne (mne h3 h2 (by intro h; cases h))).trans h3) rfl 1 (by decide) K.2.1.2 rfl dX1_remove_14 ?_
      refine m_icmp_gt (tgt := 41) hx hb dX1_remove_17 (by decide) ⟨by omega, by omega⟩ ⟨by omega, by omega⟩ (fun c17 => ?_) (fun c17 => ?_)
      · exact m_vret hx hb hr hlk hQ hG hS (Nat.le_of_ble_eq_true rfl) (Nat.le_of_ble_eq_true rfl) dX1_remove_41 (by show mset M r (aL 64 T) = mset M r _; refine congrArg (fun q => mset M r (aL 64 q)) (funext fun a => funext fun c => ?_); rw [hA]; by_cases g : w ≤ (a : Int) ∧ (a : Int) ≤ x; rw [if_pos g, if_pos (by omega)]; rw [if_neg g, if_neg (by omega)])
      · refine lv_aload_n hx hb dX1_remove_20 rfl (lv_at hl 2 rfl) ?_
        refine m_get (ci := 1) (v := .ref r) (C := RX1) (T := TX1) (N := 1) hx hb hts (by decide +kernel) hown K hG ((mset_ne (mne h1 h2 (by intro h; cases h))).trans h1) rfl 0 (by decide) (by decide +kernel) rfl dX1_remove_21 ?_
        refine lv_iload hx hb dX1_remove_24 (lv_at hl 0 rfl) ?_
        refine lv_dup2_11 hx hb dX1_remove_26 rfl rfl ?_
        refine m_lald hx hb hG mset_self i.toNat (by omega) (by omega) (by decide) dX1_remove_27 ?_
        refine lv_lload_n hx hb dX1_remove_28 rfl (lv_at hl 1 rfl) ?_
        refine lv_ldc2 (v := -1) hx hb hown (hts _ (by decide +kernel : Cond.constantLong RX1 34 (-1) ∈ wsX1_remove)) dX1_remove_29 ?_
        refine m_topl bO_m1 ?_
        refine m_lnot hx hb dX1_remove_32 ?_
        refine m_land hx hb dX1_remove_33 ?_
        refine m_last hx hb hG hS mset_self i.toNat (by omega) (by omega) (by decide) dX1_remove_34 (fun H locs hG hS => ?_)
        rw [mset_mset] at hG
        have hG : mG D b (mset M r (aL 64 (va_up T i.toNat (fun tt => (T i.toNat) tt && (!(decide (y ≤ (tt : Int) ∧ (tt : Int) ≤ z))))))) s H := hG
        refine m_iinc (lv' := [(4, .int (iI (i + 1))), (2, .long (bO (fun tt => decide (y ≤ (tt : Int) ∧ (tt : Int) ≤ z)))), (0, .ref h), (1, .ref o)]) (k := 0) hx hb dX1_remove_35 hl rfl (by decide) rfl (fun ls hl => ?_)
        refine lv_goto (tgt := 11) hx hb dX1_remove_38 (by decide) ?_
        exact ih11 (i + 1) (va_up T i.toNat (fun tt => (T i.toNat) tt && (!(decide (y ≤ (tt : Int) ∧ (tt : Int) ≤ z))))) _ _ _ (by omega) (by omega) (fun a c => by by_cases g : a = i.toNat; rw [g, va_up_self, if_pos (by omega)]; simp only [hA]; (try rw [if_neg (by omega)]); rw [va_up_ne _ _ g, hA]; by_cases g2 : w ≤ (a : Int) ∧ (a : Int) < i; rw [if_pos g2, if_pos (by omega)]; rw [if_neg g2, if_neg (by omega)]) (by omega) hG hS (lv_sub hl [0, 1, 2, 3] rfl)
  exact loop11 _ w S _ _ _ (by omega) (by omega) (fun a c => by rw [if_neg (by omega)]) (Nat.lt_succ_self _) (by rw [mset_id h2]; exact hG) hS (lv_sub hl [0, 1, 2, 3] rfl)

