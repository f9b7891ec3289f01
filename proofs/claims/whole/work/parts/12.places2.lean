def spA (k : Nat) (S : Nat → Nat → Bool) (a c : Nat) : Bool := S a c || ((decide (k ≤ c) && S a (c - k)) || (decide (c + k < 64) && S a (c + k)))
def sp1 (k : Nat) (S : Nat → Nat → Bool) : Nat → Nat → Bool := fun a c => if a < 64 then spA k S a c else S a c
def sp2 (k : Nat) (U : Nat → Nat → Bool) : Nat → Nat → Bool := fun a c => if k ≤ a ∧ a < 64 then (U a c || U (a - k) c) else U a c
def sp3 (k : Nat) (U : Nat → Nat → Bool) : Nat → Nat → Bool := fun a c => if a + k < 64 then (U a c || U (a + k) c) else U a c
/-- places within reach d of a place of S -/
def wide (d : Nat) (S : Nat → Nat → Bool) (a c : Nat) : Prop := ∃ a2 c2 : Nat, (a2 < 64 ∧ c2 < 64) ∧ (a ≤ a2 + d ∧ a2 ≤ a + d) ∧ (c ≤ c2 + d ∧ c2 ≤ c + d) ∧ S a2 c2 = true
theorem spA_iff {k : Nat} {S : Nat → Nat → Bool} {a c : Nat} : spA k S a c = true ↔ S a c = true ∨ (k ≤ c ∧ S a (c - k) = true) ∨ (c + k < 64 ∧ S a (c + k) = true) := by
  unfold spA
  simp only [Bool.or_eq_true, Bool.and_eq_true, decide_eq_true_eq]
theorem sp_iff {k : Nat} {S : Nat → Nat → Bool} {a c : Nat} (ha : a < 64) (hk : 0 < k) : sp3 k (sp2 k (sp1 k S)) a c = true ↔ spA k S a c = true ∨ (k ≤ a ∧ spA k S (a - k) c = true) ∨ (a + k < 64 ∧ spA k S (a + k) c = true) := by
  have e1 : ∀ q, q < 64 → sp1 k S q c = spA k S q c := fun q hq => by unfold sp1; rw [if_pos hq]
  have e2 : ∀ q, q < 64 → (sp2 k (sp1 k S) q c = true ↔ spA k S q c = true ∨ (k ≤ q ∧ spA k S (q - k) c = true)) := by
    intro q hq
    unfold sp2
    by_cases h : k ≤ q
    · rw [if_pos ⟨h, hq⟩, Bool.or_eq_true, e1 q hq, e1 (q - k) (by omega)]
      simp [h]
    · rw [if_neg (fun z => h z.1), e1 q hq]
      simp [h]
  unfold sp3
  by_cases h : a + k < 64
  · rw [if_pos h, Bool.or_eq_true, e2 a ha, e2 (a + k) h, Nat.add_sub_cancel]
    constructor
    · rintro ((h1 | h1) | (h1 | h1))
      · exact Or.inl h1
      · exact Or.inr (Or.inl h1)
      · exact Or.inr (Or.inr ⟨h, h1⟩)
      · exact Or.inl h1.2
    · rintro (h1 | h1 | h1)
      · exact Or.inl (Or.inl h1)
      · exact Or.inl (Or.inr h1)
      · exact Or.inr (Or.inl h1.2)
  · rw [if_neg h, e2 a ha]
    constructor
    · rintro (h1 | h1)
      · exact Or.inl h1
      · exact Or.inr (Or.inl h1)
    · rintro (h1 | h1 | h1)
      · exact Or.inl h1
      · exact Or.inr h1
      · exact absurd h1.1 h
theorem wide_0 {S : Nat → Nat → Bool} {a c : Nat} (ha : a < 64) (hc : c < 64) : wide 0 S a c ↔ S a c = true := by
  constructor
  · rintro ⟨a2, c2, -, h1, h2, h3⟩
    rw [show a = a2 by omega, show c = c2 by omega]
    exact h3
  · intro h
    exact ⟨a, c, ⟨ha, hc⟩, by omega, by omega, h⟩
/-- one axis: a step k on top of a reach d, k at most d + 1 -/
theorem near_step {d k x x2 : Nat} (hk : k ≤ d + 1) (h2 : x2 < 64) (hx : x < 64) (h : x ≤ x2 + (d + k) ∧ x2 ≤ x + (d + k)) : (x ≤ x2 + d ∧ x2 ≤ x + d) ∨ (k ≤ x ∧ (x - k ≤ x2 + d ∧ x2 ≤ (x - k) + d)) ∨ (x + k < 64 ∧ (x + k ≤ x2 + d ∧ x2 ≤ (x + k) + d)) := by omega
theorem wide_step {d k : Nat} {S T : Nat → Nat → Bool} (hk0 : 0 < k) (hk : k ≤ d + 1) (hT : ∀ a c, a < 64 → c < 64 → (T a c = true ↔ wide d S a c)) {a c : Nat} (ha : a < 64) (hc : c < 64) : sp3 k (sp2 k (sp1 k T)) a c = true ↔ wide (d + k) S a c := by
  have eA : ∀ q, q < 64 → (spA k T q c = true ↔ ∃ a2 c2 : Nat, (a2 < 64 ∧ c2 < 64) ∧ (q ≤ a2 + d ∧ a2 ≤ q + d) ∧ (c ≤ c2 + (d + k) ∧ c2 ≤ c + (d + k)) ∧ S a2 c2 = true) := by
    intro q hq
    rw [spA_iff]
    constructor
    · rintro (h | ⟨g, h⟩ | ⟨g, h⟩)
      · obtain ⟨a2, c2, h1, h2, h3, h4⟩ := (hT q c hq hc).mp h
        exact ⟨a2, c2, h1, h2, by omega, h4⟩
      · obtain ⟨a2, c2, h1, h2, h3, h4⟩ := (hT q (c - k) hq (by omega)).mp h
        exact ⟨a2, c2, h1, h2, by omega, h4⟩
      · obtain ⟨a2, c2, h1, h2, h3, h4⟩ := (hT q (c + k) hq g).mp h
        exact ⟨a2, c2, h1, h2, by omega, h4⟩
    · rintro ⟨a2, c2, h1, h2, h3, h4⟩
      rcases near_step hk h1.2 hc h3 with h | ⟨g, h⟩ | ⟨g, h⟩
      · exact Or.inl ((hT q c hq hc).mpr ⟨a2, c2, h1, h2, h, h4⟩)
      · exact Or.inr (Or.inl ⟨g, (hT q (c - k) hq (by omega)).mpr ⟨a2, c2, h1, h2, h, h4⟩⟩)
      · exact Or.inr (Or.inr ⟨g, (hT q (c + k) hq g).mpr ⟨a2, c2, h1, h2, h, h4⟩⟩)
  rw [sp_iff ha hk0]
  constructor
  · rintro (h | ⟨g, h⟩ | ⟨g, h⟩)
    · obtain ⟨a2, c2, h1, h2, h3, h4⟩ := (eA a ha).mp h
      exact ⟨a2, c2, h1, by omega, h3, h4⟩
    · obtain ⟨a2, c2, h1, h2, h3, h4⟩ := (eA (a - k) (by omega)).mp h
      exact ⟨a2, c2, h1, by omega, h3, h4⟩
    · obtain ⟨a2, c2, h1, h2, h3, h4⟩ := (eA (a + k) g).mp h
      exact ⟨a2, c2, h1, by omega, h3, h4⟩
  · rintro ⟨a2, c2, h1, h2, h3, h4⟩
    rcases near_step hk h1.1 ha h2 with h | ⟨g, h⟩ | ⟨g, h⟩
    · exact Or.inl ((eA a ha).mpr ⟨a2, c2, h1, h, h3, h4⟩)
    · exact Or.inr (Or.inl ⟨g, (eA (a - k) (by omega)).mpr ⟨a2, c2, h1, h, h3, h4⟩⟩)
    · exact Or.inr (Or.inr ⟨g, (eA (a + k) g).mpr ⟨a2, c2, h1, h, h3, h4⟩⟩)
set_option maxHeartbeats 4000000 in
set_option maxRecDepth 100000 in
theorem c_X1_keep (l : Launch) (D : va_G) (b : Nat) (M : mM) (h r : Nat) (S : Nat → Nat → Bool) (h1 : M h = some (Pl r)) (h2 : M r = some (aL 64 S)) (o : Nat) (w x y z : Int) (h3 : M o = some (Bx w x y z)) (hw : 0 ≤ w) (hwx : w ≤ x) (hx0 : x ≤ 63) (hy : 0 ≤ y) (hyz : y ≤ z) (hz : z ≤ 63) : Met l yX1_keep wsX1_keep ({ frames := 1, cells := 0, slots := 0, locals := 20 } : Room) (mPc [.ref h, .ref o] D b M) (mQv D b (fV (mset M r (aL 64 (fun a c => if (a : Int) < 64 then (decide (w ≤ (a : Int) ∧ (a : Int) ≤ x) && (S a c && decide (y ≤ (c : Int) ∧ (c : Int) ≤ z))) else S a c))))) 0 0 (mF b) := by
  refine m_met (cc := cX1_keep) (maxL := 5) (ret := none) (by decide) rfl (Nat.le_of_ble_eq_true rfl) ?_
  intro p e s m args below meth c Q ls hx hb hml hr hts hown hlk hnm hQ K hG hS hl
  have hown : s.vm.findClass RX1 = some m.cls := hown
  have hl : lv_has ls 5 [(0, .ref h), (1, .ref o)] := hl
  refine lv_aload_n hx hb dX1_keep_0 rfl (lv_at hl 1 rfl) ?_
  refine m_callfl (m_runV (a := o) (As := []) (rest := []) ⟨hx, hb, hml, hown, hts⟩ (c_X0_rowBits l D b _ o w x y z h3 (by omega) (by omega) (by omega)) (cwV 0 hts gX1_keep_X0_rowBits rfl rfl rfl (by decide +kernel) ⟨Nat.le_of_ble_eq_true rfl, Nat.le_of_ble_eq_true rfl⟩) K hG h3 rfl rfl rfl hl.1 rfl (Nat.le_of_ble_eq_true rfl) dX1_keep_1 ⟨Nat.le_of_ble_eq_true rfl, Nat.le_of_ble_eq_true rfl⟩) hS (fun H locs hG hS => ?_)
  have hG : mG D b M s H := hG
  refine lv_lstore_n (lv' := [(2, .long (bO (fun tt => decide (y ≤ (tt : Int) ∧ (tt : Int) ≤ z)))), (0, .ref h), (1, .ref o)]) hx hb dX1_keep_4 rfl hl (by decide) rfl (fun ls hl => ?_)
  refine lv_iconst (v := iI 0) hx hb dX1_keep_5 rfl ?_
  refine lv_istore (lv' := [(4, .int (iI 0)), (2, .long (bO (fun tt => decide (y ≤ (tt : Int) ∧ (tt : Int) ≤ z)))), (0, .ref h), (1, .ref o)]) hx hb dX1_keep_6 hl (by decide) rfl (fun ls hl => ?_)
  have loop8 : ∀ (fuel : Nat) (i : Int) (T : Nat → Nat → Bool) (H : Heap) (locs : List Loc) (ls : Array Slot), (0 ≤ i) → (i ≤ 64) → (∀ a c : Nat, T a c = if (a : Int) < i then (decide (w ≤ (a : Int) ∧ (a : Int) ≤ x) && (S a c && decide (y ≤ (c : Int) ∧ (c : Int) ≤ z))) else S a c) → (64 - i).toNat < fuel → mG D b (mset M r (aL 64 T)) s H → va_S (mF b) s.heap H locs → lv_has ls 5 [(4, .int (iI i)), (2, .long (bO (fun tt => decide (y ≤ (tt : Int) ∧ (tt : Int) ≤ z)))), (0, .ref h), (1, .ref o)] → W p l e ({ frames := 1, cells := 0, slots := 0, locals := 20 } : Room) s m args below meth c H locs 0 0 Q (F0 m 8 ls []) := by
    intro fuel
    induction fuel with
    | zero => intro i T H locs ls hi0 hi1 hA hm; exact absurd hm (Nat.not_lt_zero _)
    | succ fuel ih8 =>
      intro i T H locs ls hi0 hi1 hA hm hG hS hl
      refine lv_iload hx hb dX1_keep_8 (lv_at hl 0 rfl) ?_
      refine lv_bipush (v := iI 64) hx hb dX1_keep_10 (by decide) ?_
      refine m_icmp_ge (tgt := 59) hx hb dX1_keep_12 (by decide) ⟨by omega, by omega⟩ ⟨by omega, by omega⟩ (fun c12 => ?_) (fun c12 => ?_)
      · exact m_vret hx hb hr hlk hQ hG hS (Nat.le_of_ble_eq_true rfl) (Nat.le_of_ble_eq_true rfl) dX1_keep_59 (by show mset M r (aL 64 T) = mset M r _; refine congrArg (fun q => mset M r (aL 64 q)) (funext fun a => funext fun c => ?_); rw [hA]; by_cases g : (a : Int) < 64; rw [if_pos g, if_pos (by omega)]; rw [if_neg g, if_neg (by omega)])
      · refine lv_aload_n hx hb dX1_keep_15 rfl (lv_at hl 2 rfl) ?_
        refine m_get (ci := 1) (v := .ref r) (C := RX1) (T := TX1) (N := 1) hx hb hts (by decide +kernel) hown K hG ((mset_ne (mne h1 h2 (by intro h; cases h))).trans h1) rfl 0 (by decide) (by decide +kernel) rfl dX1_keep_16 ?_
        refine lv_iload hx hb dX1_keep_19 (lv_at hl 0 rfl) ?_
        refine lv_iload hx hb dX1_keep_21 (lv_at hl 0 rfl) ?_
        refine lv_aload_n hx hb dX1_keep_23 rfl (lv_at hl 3 rfl) ?_
        refine m_getN (ci := 0) (v := .int (iI w)) (C := RX0) (T := TX0) (N := 4) hx hb hts (by decide +kernel) hown K hG ((mset_ne (mne h3 h2 (by intro h; cases h))).trans h3) rfl 0 (by decide) K.2.1.1 rfl dX1_keep_24 ?_
        refine m_icmp_lt (tgt := 39) hx hb dX1_keep_27 (by decide) ⟨by omega, by omega⟩ ⟨by omega, by omega⟩ (fun c27 => ?_) (fun c27 => ?_)
        · refine lv_lconst (v := 0) hx hb dX1_keep_39 rfl ?_
          refine m_topl bO_0 ?_
          refine lv_goto (tgt := 52) hx hb dX1_keep_40 (by decide) ?_
          refine m_last hx hb hG hS mset_self i.toNat (by omega) (by omega) (by decide) dX1_keep_52 (fun H locs hG hS => ?_)
          rw [mset_mset] at hG
          have hG : mG D b (mset M r (aL 64 (va_up T i.toNat (fun _ => false)))) s H := hG
          refine m_iinc (lv' := [(4, .int (iI (i + 1))), (2, .long (bO (fun tt => decide (y ≤ (tt : Int) ∧ (tt : Int) ≤ z)))), (0, .ref h), (1, .ref o)]) (k := 0) hx hb dX1_keep_53 hl rfl (by decide) rfl (fun ls hl => ?_)
          refine lv_goto (tgt := 8) hx hb dX1_keep_56 (by decide) ?_
          exact ih8 (i + 1) (va_up T i.toNat (fun _ => false)) _ _ _ (by omega) (by omega) (fun a c => by by_cases g : a = i.toNat; rw [g, va_up_self, if_pos (by omega), decide_eq_false (by omega), Bool.false_and]; rw [va_up_ne _ _ g, hA]; by_cases g2 : (a : Int) < i; rw [if_pos g2, if_pos (by omega)]; rw [if_neg g2, if_neg (by omega)]) (by omega) hG hS (lv_sub hl [0, 1, 2, 3] rfl)
        · refine lv_iload hx hb dX1_keep_30 (lv_at hl 0 rfl) ?_
          refine lv_aload_n hx hb dX1_keep_32 rfl (lv_at hl 3 rfl) ?_
          refine m_getN (ci := 0) (v := .int (iI x)) (C := RX0) (T := TX0) (N := 4) hx hb hts (by decide +kernel) hown K hG ((mset_ne (mne h3 h2 (by intro h; cases h))).trans h3) rfl 1 (by decide) K.2.1.2 rfl dX1_keep_33 ?_
          refine m_icmp_le (tgt := 43) hx hb dX1_keep_36 (by decide) ⟨by omega, by omega⟩ ⟨by omega, by omega⟩ (fun c36 => ?_) (fun c36 => ?_)
          · refine lv_aload_n hx hb dX1_keep_43 rfl (lv_at hl 2 rfl) ?_
            refine m_get (ci := 1) (v := .ref r) (C := RX1) (T := TX1) (N := 1) hx hb hts (by decide +kernel) hown K hG ((mset_ne (mne h1 h2 (by intro h; cases h))).trans h1) rfl 0 (by decide) (by decide +kernel) rfl dX1_keep_44 ?_
            refine lv_iload hx hb dX1_keep_47 (lv_at hl 0 rfl) ?_
            refine m_lald hx hb hG mset_self i.toNat (by omega) (by omega) (by decide) dX1_keep_49 ?_
            refine lv_lload_n hx hb dX1_keep_50 rfl (lv_at hl 1 rfl) ?_
            refine m_land hx hb dX1_keep_51 ?_
            refine m_last hx hb hG hS mset_self i.toNat (by omega) (by omega) (by decide) dX1_keep_52 (fun H locs hG hS => ?_)
            rw [mset_mset] at hG
            have hG : mG D b (mset M r (aL 64 (va_up T i.toNat (fun tt => (T i.toNat) tt && (decide (y ≤ (tt : Int) ∧ (tt : Int) ≤ z)))))) s H := hG
            refine m_iinc (lv' := [(4, .int (iI (i + 1))), (2, .long (bO (fun tt => decide (y ≤ (tt : Int) ∧ (tt : Int) ≤ z)))), (0, .ref h), (1, .ref o)]) (k := 0) hx hb dX1_keep_53 hl rfl (by decide) rfl (fun ls hl => ?_)
            refine lv_goto (tgt := 8) hx hb dX1_keep_56 (by decide) ?_
            exact ih8 (i + 1) (va_up T i.toNat (fun tt => (T i.toNat) tt && (decide (y ≤ (tt : Int) ∧ (tt : Int) ≤ z)))) _ _ _ (by omega) (by omega) (fun a c => by by_cases g : a = i.toNat; rw [g, va_up_self, if_pos (by omega)]; simp only [hA]; rw [if_neg (by omega), decide_eq_true (p := w ≤ _ ∧ _) (by omega), Bool.true_and]; rw [va_up_ne _ _ g, hA]; by_cases g2 : (a : Int) < i; rw [if_pos g2, if_pos (by omega)]; rw [if_neg g2, if_neg (by omega)]) (by omega) hG hS (lv_sub hl [0, 1, 2, 3] rfl)
          · refine lv_lconst (v := 0) hx hb dX1_keep_39 rfl ?_
            refine m_topl bO_0 ?_
            refine lv_goto (tgt := 52) hx hb dX1_keep_40 (by decide) ?_
            refine m_last hx hb hG hS mset_self i.toNat (by omega) (by omega) (by decide) dX1_keep_52 (fun H locs hG hS => ?_)
            rw [mset_mset] at hG
            have hG : mG D b (mset M r (aL 64 (va_up T i.toNat (fun _ => false)))) s H := hG
            refine m_iinc (lv' := [(4, .int (iI (i + 1))), (2, .long (bO (fun tt => decide (y ≤ (tt : Int) ∧ (tt : Int) ≤ z)))), (0, .ref h), (1, .ref o)]) (k := 0) hx hb dX1_keep_53 hl rfl (by decide) rfl (fun ls hl => ?_)
            refine lv_goto (tgt := 8) hx hb dX1_keep_56 (by decide) ?_
            exact ih8 (i + 1) (va_up T i.toNat (fun _ => false)) _ _ _ (by omega) (by omega) (fun a c => by by_cases g : a = i.toNat; rw [g, va_up_self, if_pos (by omega), decide_eq_false (by omega), Bool.false_and]; rw [va_up_ne _ _ g, hA]; by_cases g2 : (a : Int) < i; rw [if_pos g2, if_pos (by omega)]; rw [if_neg g2, if_neg (by omega)]) (by omega) hG hS (lv_sub hl [0, 1, 2, 3] rfl)
  exact loop8 _ 0 S _ _ _ (by omega) (by omega) (fun a c => by rw [if_neg (by omega)]) (Nat.lt_succ_self _) (by rw [mset_id h2]; exact hG) hS (lv_sub hl [0, 1, 2, 3] rfl)

set_option maxHeartbeats 4000000 in
set_option maxRecDepth 100000 in
theorem c_X1_setTo (l : Launch) (D : va_G) (b : Nat) (M : mM) (h r : Nat) (S : Nat → Nat → Bool) (h1 : M h = some (Pl r)) (h2 : M r = some (aL 64 S)) (o : Nat) (w x y z : Int) (h3 : M o = some (Bx w x y z)) (hw : 0 ≤ w) (hwx : w ≤ x) (hx0 : x ≤ 63) (hy : 0 ≤ y) (hyz : y ≤ z) (hz : z ≤ 63) : Met l yX1_setTo wsX1_setTo ({ frames := 1, cells := 0, slots := 0, locals := 20 } : Room) (mPc [.ref h, .ref o] D b M) (mQv D b (fV (mset M r (aL 64 (fun a c => if (a : Int) < 64 then (decide (w ≤ (a : Int) ∧ (a : Int) ≤ x) && decide (y ≤ (c : Int) ∧ (c : Int) ≤ z)) else S a c))))) 0 0 (mF b) := by
  refine m_met (cc := cX1_setTo) (maxL := 5) (ret := none) (by decide) rfl (Nat.le_of_ble_eq_true rfl) ?_
  intro p e s m args below meth c Q ls hx hb hml hr hts hown hlk hnm hQ K hG hS hl
  have hown : s.vm.findClass RX1 = some m.cls := hown
  have hl : lv_has ls 5 [(0, .ref h), (1, .ref o)] := hl
  refine lv_aload_n hx hb dX1_setTo_0 rfl (lv_at hl 1 rfl) ?_
  refine m_callfl (m_runV (a := o) (As := []) (rest := []) ⟨hx, hb, hml, hown, hts⟩ (c_X0_rowBits l D b _ o w x y z h3 (by omega) (by omega) (by omega)) (cwV 0 hts gX1_setTo_X0_rowBits rfl rfl rfl (by decide +kernel) ⟨Nat.le_of_ble_eq_true rfl, Nat.le_of_ble_eq_true rfl⟩) K hG h3 rfl rfl rfl hl.1 rfl (Nat.le_of_ble_eq_true rfl) dX1_setTo_1 ⟨Nat.le_of_ble_eq_true rfl, Nat.le_of_ble_eq_true rfl⟩) hS (fun H locs hG hS => ?_)
  have hG : mG D b M s H := hG
  refine lv_lstore_n (lv' := [(2, .long (bO (fun tt => decide (y ≤ (tt : Int) ∧ (tt : Int) ≤ z)))), (0, .ref h), (1, .ref o)]) hx hb dX1_setTo_4 rfl hl (by decide) rfl (fun ls hl => ?_)
  refine lv_iconst (v := iI 0) hx hb dX1_setTo_5 rfl ?_
  refine lv_istore (lv' := [(4, .int (iI 0)), (2, .long (bO (fun tt => decide (y ≤ (tt : Int) ∧ (tt : Int) ≤ z)))), (0, .ref h), (1, .ref o)]) hx hb dX1_setTo_6 hl (by decide) rfl (fun ls hl => ?_)
  have loop8 : ∀ (fuel : Nat) (i : Int) (T : Nat → Nat → Bool) (H : Heap) (locs : List Loc) (ls : Array Slot), (0 ≤ i) → (i ≤ 64) → (∀ a c : Nat, T a c = if (a : Int) < i then (decide (w ≤ (a : Int) ∧ (a : Int) ≤ x) && decide (y ≤ (c : Int) ∧ (c : Int) ≤ z)) else S a c) → (64 - i).toNat < fuel → mG D b (mset M r (aL 64 T)) s H → va_S (mF b) s.heap H locs → lv_has ls 5 [(4, .int (iI i)), (2, .long (bO (fun tt => decide (y ≤ (tt : Int) ∧ (tt : Int) ≤ z)))), (0, .ref h), (1, .ref o)] → W p l e ({ frames := 1, cells := 0, slots := 0, locals := 20 } : Room) s m args below meth c H locs 0 0 Q (F0 m 8 ls []) := by
    intro fuel
    induction fuel with
    | zero => intro i T H locs ls hi0 hi1 hA hm; exact absurd hm (Nat.not_lt_zero _)
    | succ fuel ih8 =>
      intro i T H locs ls hi0 hi1 hA hm hG hS hl
      refine lv_iload hx hb dX1_setTo_8 (lv_at hl 0 rfl) ?_
      refine lv_bipush (v := iI 64) hx hb dX1_setTo_10 (by decide) ?_
      refine m_icmp_ge (tgt := 51) hx hb dX1_setTo_12 (by decide) ⟨by omega, by omega⟩ ⟨by omega, by omega⟩ (fun c12 => ?_) (fun c12 => ?_)
      · exact m_vret hx hb hr hlk hQ hG hS (Nat.le_of_ble_eq_true rfl) (Nat.le_of_ble_eq_true rfl) dX1_setTo_51 (by show mset M r (aL 64 T) = mset M r _; refine congrArg (fun q => mset M r (aL 64 q)) (funext fun a => funext fun c => ?_); rw [hA]; by_cases g : (a : Int) < 64; rw [if_pos g, if_pos (by omega)]; rw [if_neg g, if_neg (by omega)])
      · refine lv_aload_n hx hb dX1_setTo_15 rfl (lv_at hl 2 rfl) ?_
        refine m_get (ci := 1) (v := .ref r) (C := RX1) (T := TX1) (N := 1) hx hb hts (by decide +kernel) hown K hG ((mset_ne (mne h1 h2 (by intro h; cases h))).trans h1) rfl 0 (by decide) (by decide +kernel) rfl dX1_setTo_16 ?_
        refine lv_iload hx hb dX1_setTo_19 (lv_at hl 0 rfl) ?_
        refine lv_iload hx hb dX1_setTo_21 (lv_at hl 0 rfl) ?_
        refine lv_aload_n hx hb dX1_setTo_23 rfl (lv_at hl 3 rfl) ?_
        refine m_getN (ci := 0) (v := .int (iI w)) (C := RX0) (T := TX0) (N := 4) hx hb hts (by decide +kernel) hown K hG ((mset_ne (mne h3 h2 (by intro h; cases h))).trans h3) rfl 0 (by decide) K.2.1.1 rfl dX1_setTo_24 ?_
        refine m_icmp_lt (tgt := 39) hx hb dX1_setTo_27 (by decide) ⟨by omega, by omega⟩ ⟨by omega, by omega⟩ (fun c27 => ?_) (fun c27 => ?_)
        · refine lv_lconst (v := 0) hx hb dX1_setTo_39 rfl ?_
          refine m_topl bO_0 ?_
          refine lv_goto (tgt := 44) hx hb dX1_setTo_40 (by decide) ?_
          refine m_last hx hb hG hS mset_self i.toNat (by omega) (by omega) (by decide) dX1_setTo_44 (fun H locs hG hS => ?_)
          rw [mset_mset] at hG
          have hG : mG D b (mset M r (aL 64 (va_up T i.toNat (fun _ => false)))) s H := hG
          refine m_iinc (lv' := [(4, .int (iI (i + 1))), (2, .long (bO (fun tt => decide (y ≤ (tt : Int) ∧ (tt : Int) ≤ z)))), (0, .ref h), (1, .ref o)]) (k := 0) hx hb dX1_setTo_45 hl rfl (by decide) rfl (fun ls hl => ?_)
          refine lv_goto (tgt := 8) hx hb dX1_setTo_48 (by decide) ?_
          exact ih8 (i + 1) (va_up T i.toNat (fun _ => false)) _ _ _ (by omega) (by omega) (fun a c => by by_cases g : a = i.toNat; rw [g, va_up_self, if_pos (by omega), decide_eq_false (by omega), Bool.false_and]; rw [va_up_ne _ _ g, hA]; by_cases g2 : (a : Int) < i; rw [if_pos g2, if_pos (by omega)]; rw [if_neg g2, if_neg (by omega)]) (by omega) hG hS (lv_sub hl [0, 1, 2, 3] rfl)
        · refine lv_iload hx hb dX1_setTo_30 (lv_at hl 0 rfl) ?_
          refine lv_aload_n hx hb dX1_setTo_32 rfl (lv_at hl 3 rfl) ?_
          refine m_getN (ci := 0) (v := .int (iI x)) (C := RX0) (T := TX0) (N := 4) hx hb hts (by decide +kernel) hown K hG ((mset_ne (mne h3 h2 (by intro h; cases h))).trans h3) rfl 1 (by decide) K.2.1.2 rfl dX1_setTo_33 ?_
          refine m_icmp_le (tgt := 43) hx hb dX1_setTo_36 (by decide) ⟨by omega, by omega⟩ ⟨by omega, by omega⟩ (fun c36 => ?_) (fun c36 => ?_)
          · refine lv_lload_n hx hb dX1_setTo_43 rfl (lv_at hl 1 rfl) ?_
            refine m_last hx hb hG hS mset_self i.toNat (by omega) (by omega) (by decide) dX1_setTo_44 (fun H locs hG hS => ?_)
            rw [mset_mset] at hG
            have hG : mG D b (mset M r (aL 64 (va_up T i.toNat (fun tt => decide (y ≤ (tt : Int) ∧ (tt : Int) ≤ z))))) s H := hG
            refine m_iinc (lv' := [(4, .int (iI (i + 1))), (2, .long (bO (fun tt => decide (y ≤ (tt : Int) ∧ (tt : Int) ≤ z)))), (0, .ref h), (1, .ref o)]) (k := 0) hx hb dX1_setTo_45 hl rfl (by decide) rfl (fun ls hl => ?_)
            refine lv_goto (tgt := 8) hx hb dX1_setTo_48 (by decide) ?_
            exact ih8 (i + 1) (va_up T i.toNat (fun tt => decide (y ≤ (tt : Int) ∧ (tt : Int) ≤ z))) _ _ _ (by omega) (by omega) (fun a c => by by_cases g : a = i.toNat; rw [g, va_up_self, if_pos (by omega), decide_eq_true (p := w ≤ _ ∧ _) (by omega), Bool.true_and]; rw [va_up_ne _ _ g, hA]; by_cases g2 : (a : Int) < i; rw [if_pos g2, if_pos (by omega)]; rw [if_neg g2, if_neg (by omega)]) (by omega) hG hS (lv_sub hl [0, 1, 2, 3] rfl)
          · refine lv_lconst (v := 0) hx hb dX1_setTo_39 rfl ?_
            refine m_topl bO_0 ?_
            refine lv_goto (tgt := 44) hx hb dX1_setTo_40 (by decide) ?_
            refine m_last hx hb hG hS mset_self i.toNat (by omega) (by omega) (by decide) dX1_setTo_44 (fun H locs hG hS => ?_)
            rw [mset_mset] at hG
            have hG : mG D b (mset M r (aL 64 (va_up T i.toNat (fun _ => false)))) s H := hG
            refine m_iinc (lv' := [(4, .int (iI (i + 1))), (2, .long (bO (fun tt => decide (y ≤ (tt : Int) ∧ (tt : Int) ≤ z)))), (0, .ref h), (1, .ref o)]) (k := 0) hx hb dX1_setTo_45 hl rfl (by decide) rfl (fun ls hl => ?_)
            refine lv_goto (tgt := 8) hx hb dX1_setTo_48 (by decide) ?_
            exact ih8 (i + 1) (va_up T i.toNat (fun _ => false)) _ _ _ (by omega) (by omega) (fun a c => by by_cases g : a = i.toNat; rw [g, va_up_self, if_pos (by omega), decide_eq_false (by omega), Bool.false_and]; rw [va_up_ne _ _ g, hA]; by_cases g2 : (a : Int) < i; rw [if_pos g2, if_pos (by omega)]; rw [if_neg g2, if_neg (by omega)]) (by omega) hG hS (lv_sub hl [0, 1, 2, 3] rfl)
  exact loop8 _ 0 S _ _ _ (by omega) (by omega) (fun a c => by rw [if_neg (by omega)]) (Nat.lt_succ_self _) (by rw [mset_id h2]; exact hG) hS (lv_sub hl [0, 1, 2, 3] rfl)

set_option maxHeartbeats 4000000 in
set_option maxRecDepth 100000 in
theorem c_X1_setToAllBut (l : Launch) (D : va_G) (b : Nat) (M : mM) (h r : Nat) (S : Nat → Nat → Bool) (h1 : M h = some (Pl r)) (h2 : M r = some (aL 64 S)) (p2 r2 : Nat) (S2 : Nat → Nat → Bool) (g1 : M p2 = some (Pl r2)) (g2 : M r2 = some (aL 64 S2)) (hrr : r2 ≠ r) : Met l yX1_setToAllBut wsX1_setToAllBut ({ frames := 0, cells := 0, slots := 0, locals := 0 } : Room) (mPc [.ref h, .ref p2] D b M) (mQv D b (fV (mset M r (aL 64 (fun a c => if (a : Int) < 64 then (!S2 a c) else S a c))))) 0 0 (mF b) := by
  refine m_met (cc := cX1_setToAllBut) (maxL := 3) (ret := none) (by decide) rfl (Nat.le_of_ble_eq_true rfl) ?_
  intro p e s m args below meth c Q ls hx hb hml hr hts hown hlk hnm hQ K hG hS hl
  have hown : s.vm.findClass RX1 = some m.cls := hown
  have hl : lv_has ls 3 [(0, .ref h), (1, .ref p2)] := hl
  refine lv_iconst (v := iI 0) hx hb dX1_setToAllBut_0 rfl ?_
  refine lv_istore_n (lv' := [(2, .int (iI 0)), (0, .ref h), (1, .ref p2)]) hx hb dX1_setToAllBut_1 rfl hl (by decide) rfl (fun ls hl => ?_)
  have loop2 : ∀ (fuel : Nat) (i : Int) (T : Nat → Nat → Bool) (H : Heap) (locs : List Loc) (ls : Array Slot), (0 ≤ i) → (i ≤ 64) → (∀ a c : Nat, T a c = if (a : Int) < i then (!S2 a c) else S a c) → (64 - i).toNat < fuel → mG D b (mset M r (aL 64 T)) s H → va_S (mF b) s.heap H locs → lv_has ls 3 [(2, .int (iI i)), (0, .ref h), (1, .ref p2)] → W p l e ({ frames := 0, cells := 0, slots := 0, locals := 0 } : Room) s m args below meth c H locs 0 0 Q (F0 m 2 ls []) := by
    intro fuel
    induction fuel with
    | zero => intro i T H locs ls hi0 hi1 hA hm; exact absurd hm (Nat.not_lt_zero _)
    | succ fuel ih2 =>
      intro i T H locs ls hi0 hi1 hA hm hG hS hl
      refine lv_iload_n hx hb dX1_setToAllBut_2 rfl (lv_at hl 0 rfl) ?_
      refine lv_bipush (v := iI 64) hx hb dX1_setToAllBut_3 (by decide) ?_
      refine m_icmp_ge (tgt := 30) hx hb dX1_setToAllBut_5 (by decide) ⟨by omega, by omega⟩ ⟨by omega, by omega⟩ (fun c5 => ?_) (fun c5 => ?_)
      · exact m_vret hx hb hr hlk hQ hG hS (Nat.le_of_ble_eq_true rfl) (Nat.le_of_ble_eq_true rfl) dX1_setToAllBut_30 (by show mset M r (aL 64 T) = mset M r _; refine congrArg (fun q => mset M r (aL 64 q)) (funext fun a => funext fun c => ?_); rw [hA]; by_cases g : (a : Int) < 64; rw [if_pos g, if_pos (by omega)]; rw [if_neg g, if_neg (by omega)])
      · refine lv_aload_n hx hb dX1_setToAllBut_8 rfl (lv_at hl 1 rfl) ?_
        refine m_get (ci := 1) (v := .ref r) (C := RX1) (T := TX1) (N := 1) hx hb hts (by decide +kernel) hown K hG ((mset_ne (mne h1 h2 (by intro h; cases h))).trans h1) rfl 0 (by decide) (by decide +kernel) rfl dX1_setToAllBut_9 ?_
        refine lv_iload_n hx hb dX1_setToAllBut_12 rfl (lv_at hl 0 rfl) ?_
        refine lv_aload_n hx hb dX1_setToAllBut_13 rfl (lv_at hl 2 rfl) ?_
        refine m_get (ci := 1) (v := .ref r2) (C := RX1) (T := TX1) (N := 1) hx hb hts (by decide +kernel) hown K hG ((mset_ne (mne g1 h2 (by intro h; cases h))).trans g1) rfl 0 (by decide) (by decide +kernel) rfl dX1_setToAllBut_14 ?_
        refine lv_iload_n hx hb dX1_setToAllBut_17 rfl (lv_at hl 0 rfl) ?_
        refine m_lald hx hb hG ((mset_ne hrr).trans g2) i.toNat (by omega) (by omega) (by decide) dX1_setToAllBut_18 ?_
        refine lv_ldc2 (v := -1) hx hb hown (hts _ (by decide +kernel : Cond.constantLong RX1 34 (-1) ∈ wsX1_setToAllBut)) dX1_setToAllBut_19 ?_
        refine m_topl bO_m1 ?_
        refine m_lnot hx hb dX1_setToAllBut_22 ?_
        refine m_last hx hb hG hS mset_self i.toNat (by omega) (by omega) (by decide) dX1_setToAllBut_23 (fun H locs hG hS => ?_)
        rw [mset_mset] at hG
        have hG : mG D b (mset M r (aL 64 (va_up T i.toNat (fun tt => !((S2 i.toNat) tt))))) s H := hG
        refine m_iinc (lv' := [(2, .int (iI (i + 1))), (0, .ref h), (1, .ref p2)]) (k := 0) hx hb dX1_setToAllBut_24 hl rfl (by decide) rfl (fun ls hl => ?_)
        refine lv_goto (tgt := 2) hx hb dX1_setToAllBut_27 (by decide) ?_
        exact ih2 (i + 1) (va_up T i.toNat (fun tt => !((S2 i.toNat) tt))) _ _ _ (by omega) (by omega) (fun a c => by by_cases g : a = i.toNat; rw [g, va_up_self, if_pos (by omega)]; rw [va_up_ne _ _ g, hA]; by_cases g2 : (a : Int) < i; rw [if_pos g2, if_pos (by omega)]; rw [if_neg g2, if_neg (by omega)]) (by omega) hG hS (lv_sub hl [0, 1, 2] rfl)
  exact loop2 _ 0 S _ _ _ (by omega) (by omega) (fun a c => by rw [if_neg (by omega)]) (Nat.lt_succ_self _) (by rw [mset_id h2]; exact hG) hS (lv_sub hl [0, 1, 2] rfl)

set_option maxHeartbeats 4000000 in
set_option maxRecDepth 100000 in
theorem c_X1_drop (l : Launch) (D : va_G) (b : Nat) (M : mM) (h r : Nat) (S : Nat → Nat → Bool) (h1 : M h = some (Pl r)) (h2 : M r = some (aL 64 S)) (p2 r2 : Nat) (S2 : Nat → Nat → Bool) (g1 : M p2 = some (Pl r2)) (g2 : M r2 = some (aL 64 S2)) (hrr : r2 ≠ r) : Met l yX1_drop wsX1_drop ({ frames := 0, cells := 0, slots := 0, locals := 0 } : Room) (mPc [.ref h, .ref p2] D b M) (mQv D b (fV (mset M r (aL 64 (fun a c => if (a : Int) < 64 then (S a c && !S2 a c) else S a c))))) 0 0 (mF b) := by
  refine m_met (cc := cX1_drop) (maxL := 3) (ret := none) (by decide) rfl (Nat.le_of_ble_eq_true rfl) ?_
  intro p e s m args below meth c Q ls hx hb hml hr hts hown hlk hnm hQ K hG hS hl
  have hown : s.vm.findClass RX1 = some m.cls := hown
  have hl : lv_has ls 3 [(0, .ref h), (1, .ref p2)] := hl
  refine lv_iconst (v := iI 0) hx hb dX1_drop_0 rfl ?_
  refine lv_istore_n (lv' := [(2, .int (iI 0)), (0, .ref h), (1, .ref p2)]) hx hb dX1_drop_1 rfl hl (by decide) rfl (fun ls hl => ?_)
  have loop2 : ∀ (fuel : Nat) (i : Int) (T : Nat → Nat → Bool) (H : Heap) (locs : List Loc) (ls : Array Slot), (0 ≤ i) → (i ≤ 64) → (∀ a c : Nat, T a c = if (a : Int) < i then (S a c && !S2 a c) else S a c) → (64 - i).toNat < fuel → mG D b (mset M r (aL 64 T)) s H → va_S (mF b) s.heap H locs → lv_has ls 3 [(2, .int (iI i)), (0, .ref h), (1, .ref p2)] → W p l e ({ frames := 0, cells := 0, slots := 0, locals := 0 } : Room) s m args below meth c H locs 0 0 Q (F0 m 2 ls []) := by
    intro fuel
    induction fuel with
    | zero => intro i T H locs ls hi0 hi1 hA hm; exact absurd hm (Nat.not_lt_zero _)
    | succ fuel ih2 =>
      intro i T H locs ls hi0 hi1 hA hm hG hS hl
      refine lv_iload_n hx hb dX1_drop_2 rfl (lv_at hl 0 rfl) ?_
      refine lv_bipush (v := iI 64) hx hb dX1_drop_3 (by decide) ?_
      refine m_icmp_ge (tgt := 33) hx hb dX1_drop_5 (by decide) ⟨by omega, by omega⟩ ⟨by omega, by omega⟩ (fun c5 => ?_) (fun c5 => ?_)
      · exact m_vret hx hb hr hlk hQ hG hS (Nat.le_of_ble_eq_true rfl) (Nat.le_of_ble_eq_true rfl) dX1_drop_33 (by show mset M r (aL 64 T) = mset M r _; refine congrArg (fun q => mset M r (aL 64 q)) (funext fun a => funext fun c => ?_); rw [hA]; by_cases g : (a : Int) < 64; rw [if_pos g, if_pos (by omega)]; rw [if_neg g, if_neg (by omega)])
      · refine lv_aload_n hx hb dX1_drop_8 rfl (lv_at hl 1 rfl) ?_
        refine m_get (ci := 1) (v := .ref r) (C := RX1) (T := TX1) (N := 1) hx hb hts (by decide +kernel) hown K hG ((mset_ne (mne h1 h2 (by intro h; cases h))).trans h1) rfl 0 (by decide) (by decide +kernel) rfl dX1_drop_9 ?_
        refine lv_iload_n hx hb dX1_drop_12 rfl (lv_at hl 0 rfl) ?_
        refine lv_dup2_11 hx hb dX1_drop_13 rfl rfl ?_
        refine m_lald hx hb hG mset_self i.toNat (by omega) (by omega) (by decide) dX1_drop_14 ?_
        refine lv_aload_n hx hb dX1_drop_15 rfl (lv_at hl 2 rfl) ?_
        refine m_get (ci := 1) (v := .ref r2) (C := RX1) (T := TX1) (N := 1) hx hb hts (by decide +kernel) hown K hG ((mset_ne (mne g1 h2 (by intro h; cases h))).trans g1) rfl 0 (by decide) (by decide +kernel) rfl dX1_drop_16 ?_
        refine lv_iload_n hx hb dX1_drop_19 rfl (lv_at hl 0 rfl) ?_
        refine m_lald hx hb hG ((mset_ne hrr).trans g2) i.toNat (by omega) (by omega) (by decide) dX1_drop_20 ?_
        refine lv_ldc2 (v := -1) hx hb hown (hts _ (by decide +kernel : Cond.constantLong RX1 34 (-1) ∈ wsX1_drop)) dX1_drop_21 ?_
        refine m_topl bO_m1 ?_
        refine m_lnot hx hb dX1_drop_24 ?_
        refine m_land hx hb dX1_drop_25 ?_
        refine m_last hx hb hG hS mset_self i.toNat (by omega) (by omega) (by decide) dX1_drop_26 (fun H locs hG hS => ?_)
        rw [mset_mset] at hG
        have hG : mG D b (mset M r (aL 64 (va_up T i.toNat (fun tt => (T i.toNat) tt && (!((S2 i.toNat) tt)))))) s H := hG
        refine m_iinc (lv' := [(2, .int (iI (i + 1))), (0, .ref h), (1, .ref p2)]) (k := 0) hx hb dX1_drop_27 hl rfl (by decide) rfl (fun ls hl => ?_)
        refine lv_goto (tgt := 2) hx hb dX1_drop_30 (by decide) ?_
        exact ih2 (i + 1) (va_up T i.toNat (fun tt => (T i.toNat) tt && (!((S2 i.toNat) tt)))) _ _ _ (by omega) (by omega) (fun a c => by by_cases g : a = i.toNat; rw [g, va_up_self, if_pos (by omega)]; simp only [hA]; rw [if_neg (by omega)]; rw [va_up_ne _ _ g, hA]; by_cases g2 : (a : Int) < i; rw [if_pos g2, if_pos (by omega)]; rw [if_neg g2, if_neg (by omega)]) (by omega) hG hS (lv_sub hl [0, 1, 2] rfl)
  exact loop2 _ 0 S _ _ _ (by omega) (by omega) (fun a c => by rw [if_neg (by omega)]) (Nat.lt_succ_self _) (by rw [mset_id h2]; exact hG) hS (lv_sub hl [0, 1, 2] rfl)

set_option maxHeartbeats 4000000 in
set_option maxRecDepth 100000 in
theorem c_X1_takeWithin (l : Launch) (D : va_G) (b : Nat) (M : mM) (h r : Nat) (S : Nat → Nat → Bool) (h1 : M h = some (Pl r)) (h2 : M r = some (aL 64 S)) (p2 r2 : Nat) (S2 : Nat → Nat → Bool) (g1 : M p2 = some (Pl r2)) (g2 : M r2 = some (aL 64 S2)) (hrr : r2 ≠ r) (p3 r3 : Nat) (S3 : Nat → Nat → Bool) (g3 : M p3 = some (Pl r3)) (g4 : M r3 = some (aL 64 S3)) (hrr3 : r3 ≠ r) : Met l yX1_takeWithin wsX1_takeWithin ({ frames := 0, cells := 0, slots := 0, locals := 0 } : Room) (mPc [.ref h, .ref p2, .ref p3] D b M) (mQv D b (fV (mset M r (aL 64 (fun a c => if (a : Int) < 64 then ((S a c && !S2 a c) || (S3 a c && S2 a c)) else S a c))))) 0 0 (mF b) := by
  refine m_met (cc := cX1_takeWithin) (maxL := 6) (ret := none) (by decide) rfl (Nat.le_of_ble_eq_true rfl) ?_
  intro p e s m args below meth c Q ls hx hb hml hr hts hown hlk hnm hQ K hG hS hl
  have hown : s.vm.findClass RX1 = some m.cls := hown
  have hl : lv_has ls 6 [(0, .ref h), (1, .ref p2), (2, .ref p3)] := hl
  refine lv_iconst (v := iI 0) hx hb dX1_takeWithin_0 rfl ?_
  refine lv_istore_n (lv' := [(3, .int (iI 0)), (0, .ref h), (1, .ref p2), (2, .ref p3)]) hx hb dX1_takeWithin_1 rfl hl (by decide) rfl (fun ls hl => ?_)
  have loop2 : ∀ (fuel : Nat) (i : Int) (T : Nat → Nat → Bool) (H : Heap) (locs : List Loc) (ls : Array Slot), (0 ≤ i) → (i ≤ 64) → (∀ a c : Nat, T a c = if (a : Int) < i then ((S a c && !S2 a c) || (S3 a c && S2 a c)) else S a c) → (64 - i).toNat < fuel → mG D b (mset M r (aL 64 T)) s H → va_S (mF b) s.heap H locs → lv_has ls 6 [(3, .int (iI i)), (0, .ref h), (1, .ref p2), (2, .ref p3)] → W p l e ({ frames := 0, cells := 0, slots := 0, locals := 0 } : Room) s m args below meth c H locs 0 0 Q (F0 m 2 ls []) := by
    intro fuel
    induction fuel with
    | zero => intro i T H locs ls hi0 hi1 hA hm; exact absurd hm (Nat.not_lt_zero _)
    | succ fuel ih2 =>
      intro i T H locs ls hi0 hi1 hA hm hG hS hl
      refine lv_iload_n hx hb dX1_takeWithin_2 rfl (lv_at hl 0 rfl) ?_
      refine lv_bipush (v := iI 64) hx hb dX1_takeWithin_3 (by decide) ?_
      refine m_icmp_ge (tgt := 51) hx hb dX1_takeWithin_5 (by decide) ⟨by omega, by omega⟩ ⟨by omega, by omega⟩ (fun c5 => ?_) (fun c5 => ?_)
      · exact m_vret hx hb hr hlk hQ hG hS (Nat.le_of_ble_eq_true rfl) (Nat.le_of_ble_eq_true rfl) dX1_takeWithin_51 (by show mset M r (aL 64 T) = mset M r _; refine congrArg (fun q => mset M r (aL 64 q)) (funext fun a => funext fun c => ?_); rw [hA]; by_cases g : (a : Int) < 64; rw [if_pos g, if_pos (by omega)]; rw [if_neg g, if_neg (by omega)])
      · refine lv_aload_n hx hb dX1_takeWithin_8 rfl (lv_at hl 2 rfl) ?_
        refine m_get (ci := 1) (v := .ref r2) (C := RX1) (T := TX1) (N := 1) hx hb hts (by decide +kernel) hown K hG ((mset_ne (mne g1 h2 (by intro h; cases h))).trans g1) rfl 0 (by decide) (by decide +kernel) rfl dX1_takeWithin_9 ?_
        refine lv_iload_n hx hb dX1_takeWithin_12 rfl (lv_at hl 0 rfl) ?_
        refine m_lald hx hb hG ((mset_ne hrr).trans g2) i.toNat (by omega) (by omega) (by decide) dX1_takeWithin_13 ?_
        refine lv_lstore (lv' := [(4, .long (bO (S2 i.toNat))), (3, .int (iI i)), (0, .ref h), (1, .ref p2), (2, .ref p3)]) hx hb dX1_takeWithin_14 hl (by decide) rfl (fun ls hl => ?_)
        refine lv_aload_n hx hb dX1_takeWithin_16 rfl (lv_at hl 2 rfl) ?_
        refine m_get (ci := 1) (v := .ref r) (C := RX1) (T := TX1) (N := 1) hx hb hts (by decide +kernel) hown K hG ((mset_ne (mne h1 h2 (by intro h; cases h))).trans h1) rfl 0 (by decide) (by decide +kernel) rfl dX1_takeWithin_17 ?_
        refine lv_iload_n hx hb dX1_takeWithin_20 rfl (lv_at hl 1 rfl) ?_
        refine lv_aload_n hx hb dX1_takeWithin_21 rfl (lv_at hl 2 rfl) ?_
        refine m_get (ci := 1) (v := .ref r) (C := RX1) (T := TX1) (N := 1) hx hb hts (by decide +kernel) hown K hG ((mset_ne (mne h1 h2 (by intro h; cases h))).trans h1) rfl 0 (by decide) (by decide +kernel) rfl dX1_takeWithin_22 ?_
        refine lv_iload_n hx hb dX1_takeWithin_25 rfl (lv_at hl 1 rfl) ?_
        refine m_lald hx hb hG mset_self i.toNat (by omega) (by omega) (by decide) dX1_takeWithin_26 ?_
        refine lv_lload hx hb dX1_takeWithin_27 (lv_at hl 0 rfl) ?_
        refine lv_ldc2 (v := -1) hx hb hown (hts _ (by decide +kernel : Cond.constantLong RX1 34 (-1) ∈ wsX1_takeWithin)) dX1_takeWithin_29 ?_
        refine m_topl bO_m1 ?_
        refine m_lnot hx hb dX1_takeWithin_32 ?_
        refine m_land hx hb dX1_takeWithin_33 ?_
        refine lv_aload_n hx hb dX1_takeWithin_34 rfl (lv_at hl 4 rfl) ?_
        refine m_get (ci := 1) (v := .ref r3) (C := RX1) (T := TX1) (N := 1) hx hb hts (by decide +kernel) hown K hG ((mset_ne (mne g3 h2 (by intro h; cases h))).trans g3) rfl 0 (by decide) (by decide +kernel) rfl dX1_takeWithin_35 ?_
        refine lv_iload_n hx hb dX1_takeWithin_38 rfl (lv_at hl 1 rfl) ?_
        refine m_lald hx hb hG ((mset_ne hrr3).trans g4) i.toNat (by omega) (by omega) (by decide) dX1_takeWithin_39 ?_
        refine lv_lload hx hb dX1_takeWithin_40 (lv_at hl 0 rfl) ?_
        refine m_land hx hb dX1_takeWithin_42 ?_
        refine m_lor hx hb dX1_takeWithin_43 ?_
        refine m_last hx hb hG hS mset_self i.toNat (by omega) (by omega) (by decide) dX1_takeWithin_44 (fun H locs hG hS => ?_)
        rw [mset_mset] at hG
        have hG : mG D b (mset M r (aL 64 (va_up T i.toNat (fun tt => ((T i.toNat) tt && (!((S2 i.toNat) tt))) || ((S3 i.toNat) tt && (S2 i.toNat) tt))))) s H := hG
        refine m_iinc (lv' := [(3, .int (iI (i + 1))), (4, .long (bO (S2 i.toNat))), (0, .ref h), (1, .ref p2), (2, .ref p3)]) (k := 1) hx hb dX1_takeWithin_45 hl rfl (by decide) rfl (fun ls hl => ?_)
        refine lv_goto (tgt := 2) hx hb dX1_takeWithin_48 (by decide) ?_
        exact ih2 (i + 1) (va_up T i.toNat (fun tt => ((T i.toNat) tt && (!((S2 i.toNat) tt))) || ((S3 i.toNat) tt && (S2 i.toNat) tt))) _ _ _ (by omega) (by omega) (fun a c => by by_cases g : a = i.toNat; rw [g, va_up_self, if_pos (by omega)]; simp only [hA]; rw [if_neg (by omega)]; rw [va_up_ne _ _ g, hA]; by_cases g2 : (a : Int) < i; rw [if_pos g2, if_pos (by omega)]; rw [if_neg g2, if_neg (by omega)]) (by omega) hG hS (lv_sub hl [0, 2, 3, 4] rfl)
  exact loop2 _ 0 S _ _ _ (by omega) (by omega) (fun a c => by rw [if_neg (by omega)]) (Nat.lt_succ_self _) (by rw [mset_id h2]; exact hG) hS (lv_sub hl [0, 1, 2, 3] rfl)

set_option maxHeartbeats 4000000 in
set_option maxRecDepth 100000 in
theorem c_X1_spread (l : Launch) (D : va_G) (b : Nat) (M : mM) (h r : Nat) (S : Nat → Nat → Bool) (h1 : M h = some (Pl r)) (h2 : M r = some (aL 64 S)) (k : Int) (hk1 : 1 ≤ k) (hk2 : k ≤ 63) : Met l yX1_spread wsX1_spread ({ frames := 0, cells := 0, slots := 0, locals := 0 } : Room) (mPc [.ref h, .int (iI k)] D b M) (mQv D b (fV (mset M r (aL 64 (sp3 k.toNat (sp2 k.toNat (sp1 k.toNat S))))))) 0 0 (mF b) := by
  refine m_met (cc := cX1_spread) (maxL := 3) (ret := none) (by decide) rfl (Nat.le_of_ble_eq_true rfl) ?_
  intro p e s m args below meth c Q ls hx hb hml hr hts hown hlk hnm hQ K hG hS hl
  have hown : s.vm.findClass RX1 = some m.cls := hown
  have hl : lv_has ls 3 [(0, .ref h), (1, .int (iI k))] := hl
  refine lv_iconst (v := iI 0) hx hb dX1_spread_0 rfl ?_
  refine lv_istore_n (lv' := [(2, .int (iI 0)), (0, .ref h), (1, .int (iI k))]) hx hb dX1_spread_1 rfl hl (by decide) rfl (fun ls hl => ?_)
  have loop2 : ∀ (fuel : Nat) (i : Int) (T : Nat → Nat → Bool) (H : Heap) (locs : List Loc) (ls : Array Slot), (0 ≤ i) → (i ≤ 64) → (∀ a c : Nat, T a c = if (a : Int) < i then spA k.toNat S a c else S a c) → (64 - i).toNat < fuel → mG D b (mset M r (aL 64 T)) s H → va_S (mF b) s.heap H locs → lv_has ls 3 [(2, .int (iI i)), (0, .ref h), (1, .int (iI k))] → W p l e ({ frames := 0, cells := 0, slots := 0, locals := 0 } : Room) s m args below meth c H locs 0 0 Q (F0 m 2 ls []) := by
    intro fuel
    induction fuel with
    | zero => intro i T H locs ls hi0 hi1 hA hm; exact absurd hm (Nat.not_lt_zero _)
    | succ fuel ih2 =>
      intro i T H locs ls hi0 hi1 hA hm hG hS hl
      refine lv_iload_n hx hb dX1_spread_2 rfl (lv_at hl 0 rfl) ?_
      refine lv_bipush (v := iI 64) hx hb dX1_spread_3 (by decide) ?_
      refine m_icmp_ge (tgt := 40) hx hb dX1_spread_5 (by decide) ⟨by omega, by omega⟩ ⟨by omega, by omega⟩ (fun c5 => ?_) (fun c5 => ?_)
      · refine lv_bipush (v := iI 63) hx hb dX1_spread_40 (by decide) ?_
        refine lv_istore_n (lv' := [(2, .int (iI 63)), (0, .ref h), (1, .int (iI k))]) hx hb dX1_spread_42 rfl hl (by decide) rfl (fun ls hl => ?_)
        have loop43 : ∀ (fuel : Nat) (i : Int) (T2 : Nat → Nat → Bool) (H : Heap) (locs : List Loc) (ls : Array Slot), (k - 1 ≤ i) → (i ≤ 63) → (∀ a c : Nat, T2 a c = if i < (a : Int) ∧ k.toNat ≤ a ∧ a < 64 then (sp1 k.toNat S a c || sp1 k.toNat S (a - k.toNat) c) else sp1 k.toNat S a c) → (i + 1).toNat < fuel → mG D b (mset M r (aL 64 T2)) s H → va_S (mF b) s.heap H locs → lv_has ls 3 [(2, .int (iI i)), (0, .ref h), (1, .int (iI k))] → W p l e ({ frames := 0, cells := 0, slots := 0, locals := 0 } : Room) s m args below meth c H locs 0 0 Q (F0 m 43 ls []) := by
          intro fuel
          induction fuel with
          | zero => intro i T2 H locs ls hj0 hj1 hB hm; exact absurd hm (Nat.not_lt_zero _)
          | succ fuel ih43 =>
            intro i T2 H locs ls hj0 hj1 hB hm hG hS hl
            refine lv_iload_n hx hb dX1_spread_43 rfl (lv_at hl 0 rfl) ?_
            refine lv_iload_n hx hb dX1_spread_44 rfl (lv_at hl 2 rfl) ?_
            refine m_icmp_lt (tgt := 71) hx hb dX1_spread_45 (by decide) ⟨by omega, by omega⟩ ⟨by omega, by omega⟩ (fun c45 => ?_) (fun c45 => ?_)
            · refine lv_iconst (v := iI 0) hx hb dX1_spread_71 rfl ?_
              refine lv_istore_n (lv' := [(2, .int (iI 0)), (0, .ref h), (1, .int (iI k))]) hx hb dX1_spread_72 rfl hl (by decide) rfl (fun ls hl => ?_)
              have loop73 : ∀ (fuel : Nat) (i : Int) (T3 : Nat → Nat → Bool) (H : Heap) (locs : List Loc) (ls : Array Slot), (0 ≤ i) → (i ≤ 64 - k) → (∀ a c : Nat, T3 a c = if (a : Int) < i then (sp2 k.toNat (sp1 k.toNat S) a c || sp2 k.toNat (sp1 k.toNat S) (a + k.toNat) c) else sp2 k.toNat (sp1 k.toNat S) a c) → (64 - i).toNat < fuel → mG D b (mset M r (aL 64 T3)) s H → va_S (mF b) s.heap H locs → lv_has ls 3 [(2, .int (iI i)), (0, .ref h), (1, .int (iI k))] → W p l e ({ frames := 0, cells := 0, slots := 0, locals := 0 } : Room) s m args below meth c H locs 0 0 Q (F0 m 73 ls []) := by
                intro fuel
                induction fuel with
                | zero => intro i T3 H locs ls hk0 hk1 hC hm; exact absurd hm (Nat.not_lt_zero _)
                | succ fuel ih73 =>
                  intro i T3 H locs ls hk0 hk1 hC hm hG hS hl
                  refine lv_iload_n hx hb dX1_spread_73 rfl (lv_at hl 0 rfl) ?_
                  refine lv_bipush (v := iI 64) hx hb dX1_spread_74 (by decide) ?_
                  refine lv_iload_n hx hb dX1_spread_76 rfl (lv_at hl 2 rfl) ?_
                  refine m_isub hx hb dX1_spread_77 ?_
                  refine m_icmp_ge (tgt := 104) hx hb dX1_spread_78 (by decide) ⟨by omega, by omega⟩ ⟨by omega, by omega⟩ (fun c78 => ?_) (fun c78 => ?_)
                  · exact m_vret hx hb hr hlk hQ hG hS (Nat.le_of_ble_eq_true rfl) (Nat.le_of_ble_eq_true rfl) dX1_spread_104 (by show mset M r (aL 64 T3) = mset M r _; refine congrArg (fun q => mset M r (aL 64 q)) (funext fun a => funext fun c => ?_); rw [hC]; unfold sp3; by_cases g : a + k.toNat < 64; rw [if_pos g, if_pos (by omega)]; rw [if_neg g, if_neg (by omega)])
                  · refine lv_aload_n hx hb dX1_spread_81 rfl (lv_at hl 1 rfl) ?_
                    refine m_get (ci := 1) (v := .ref r) (C := RX1) (T := TX1) (N := 1) hx hb hts (by decide +kernel) hown K hG ((mset_ne (mne h1 h2 (by intro h; cases h))).trans h1) rfl 0 (by decide) (by decide +kernel) rfl dX1_spread_82 ?_
                    refine lv_iload_n hx hb dX1_spread_85 rfl (lv_at hl 0 rfl) ?_
                    refine lv_dup2_11 hx hb dX1_spread_86 rfl rfl ?_
                    refine m_lald hx hb hG mset_self i.toNat (by omega) (by omega) (by decide) dX1_spread_87 ?_
                    refine lv_aload_n hx hb dX1_spread_88 rfl (lv_at hl 1 rfl) ?_
                    refine m_get (ci := 1) (v := .ref r) (C := RX1) (T := TX1) (N := 1) hx hb hts (by decide +kernel) hown K hG ((mset_ne (mne h1 h2 (by intro h; cases h))).trans h1) rfl 0 (by decide) (by decide +kernel) rfl dX1_spread_89 ?_
                    refine lv_iload_n hx hb dX1_spread_92 rfl (lv_at hl 0 rfl) ?_
                    refine lv_iload_n hx hb dX1_spread_93 rfl (lv_at hl 2 rfl) ?_
                    refine m_iadd hx hb dX1_spread_94 ?_
                    refine m_lald hx hb hG mset_self ((i + k).toNat) (by omega) (by omega) (by decide) dX1_spread_95 ?_
                    refine m_lor hx hb dX1_spread_96 ?_
                    refine m_last hx hb hG hS mset_self i.toNat (by omega) (by omega) (by decide) dX1_spread_97 (fun H locs hG hS => ?_)
                    rw [mset_mset] at hG
                    have hG : mG D b (mset M r (aL 64 (va_up T3 i.toNat (fun tt => (T3 i.toNat) tt || (T3 ((i + k).toNat)) tt)))) s H := hG
                    refine m_iinc (lv' := [(2, .int (iI (i + 1))), (0, .ref h), (1, .int (iI k))]) (k := 0) hx hb dX1_spread_98 hl rfl (by decide) rfl (fun ls hl => ?_)
                    refine lv_goto (tgt := 73) hx hb dX1_spread_101 (by decide) ?_
                    exact ih73 (i + 1) (va_up T3 i.toNat (fun tt => (T3 i.toNat) tt || (T3 ((i + k).toNat)) tt)) _ _ _ (by omega) (by omega) (fun a c => by by_cases g : a = i.toNat; rw [g, va_up_self, if_pos (by omega)]; simp only [hC]; rw [if_neg (by omega), if_neg (by omega), show (i + k).toNat = i.toNat + k.toNat by omega]; rw [va_up_ne _ _ g, hC]; by_cases g2 : (a : Int) < i; rw [if_pos g2, if_pos (by omega)]; rw [if_neg g2, if_neg (by omega)]) (by omega) hG hS (lv_sub hl [0, 1, 2] rfl)
              exact loop73 _ 0 T2 _ _ _ (by omega) (by omega) (fun a c => by rw [if_neg (by omega), hB]; unfold sp2; by_cases g : k.toNat ≤ a ∧ a < 64; rw [if_pos g, if_pos (by omega)]; rw [if_neg g, if_neg (by omega)]) (Nat.lt_succ_self _) hG hS (lv_sub hl [0, 1, 2] rfl)
            · refine lv_aload_n hx hb dX1_spread_48 rfl (lv_at hl 1 rfl) ?_
              refine m_get (ci := 1) (v := .ref r) (C := RX1) (T := TX1) (N := 1) hx hb hts (by decide +kernel) hown K hG ((mset_ne (mne h1 h2 (by intro h; cases h))).trans h1) rfl 0 (by decide) (by decide +kernel) rfl dX1_spread_49 ?_
              refine lv_iload_n hx hb dX1_spread_52 rfl (lv_at hl 0 rfl) ?_
              refine lv_dup2_11 hx hb dX1_spread_53 rfl rfl ?_
              refine m_lald hx hb hG mset_self i.toNat (by omega) (by omega) (by decide) dX1_spread_54 ?_
              refine lv_aload_n hx hb dX1_spread_55 rfl (lv_at hl 1 rfl) ?_
              refine m_get (ci := 1) (v := .ref r) (C := RX1) (T := TX1) (N := 1) hx hb hts (by decide +kernel) hown K hG ((mset_ne (mne h1 h2 (by intro h; cases h))).trans h1) rfl 0 (by decide) (by decide +kernel) rfl dX1_spread_56 ?_
              refine lv_iload_n hx hb dX1_spread_59 rfl (lv_at hl 0 rfl) ?_
              refine lv_iload_n hx hb dX1_spread_60 rfl (lv_at hl 2 rfl) ?_
              refine m_isub hx hb dX1_spread_61 ?_
              refine m_lald hx hb hG mset_self ((i - k).toNat) (by omega) (by omega) (by decide) dX1_spread_62 ?_
              refine m_lor hx hb dX1_spread_63 ?_
              refine m_last hx hb hG hS mset_self i.toNat (by omega) (by omega) (by decide) dX1_spread_64 (fun H locs hG hS => ?_)
              rw [mset_mset] at hG
              have hG : mG D b (mset M r (aL 64 (va_up T2 i.toNat (fun tt => (T2 i.toNat) tt || (T2 ((i - k).toNat)) tt)))) s H := hG
              refine m_iinc (lv' := [(2, .int (iI (i + (-1)))), (0, .ref h), (1, .int (iI k))]) (k := 0) hx hb dX1_spread_65 hl rfl (by decide) rfl (fun ls hl => ?_)
              refine lv_goto (tgt := 43) hx hb dX1_spread_68 (by decide) ?_
              exact ih43 (i + (-1)) (va_up T2 i.toNat (fun tt => (T2 i.toNat) tt || (T2 ((i - k).toNat)) tt)) _ _ _ (by omega) (by omega) (fun a c => by by_cases g : a = i.toNat; rw [g, va_up_self, if_pos (by omega)]; simp only [hB]; rw [if_neg (by omega), if_neg (by omega), show (i - k).toNat = i.toNat - k.toNat by omega]; rw [va_up_ne _ _ g, hB]; by_cases g2 : i < (a : Int) ∧ k.toNat ≤ a ∧ a < 64; rw [if_pos g2, if_pos (by omega)]; rw [if_neg g2, if_neg (by omega)]) (by omega) hG hS (lv_sub hl [0, 1, 2] rfl)
        exact loop43 _ 63 T _ _ _ (by omega) (by omega) (fun a c => by rw [if_neg (by omega), hA]; unfold sp1; by_cases g : a < 64; rw [if_pos g, if_pos (by omega)]; rw [if_neg g, if_neg (by omega)]) (Nat.lt_succ_self _) hG hS (lv_sub hl [0, 1, 2] rfl)
      · refine lv_aload_n hx hb dX1_spread_8 rfl (lv_at hl 1 rfl) ?_
        refine m_get (ci := 1) (v := .ref r) (C := RX1) (T := TX1) (N := 1) hx hb hts (by decide +kernel) hown K hG ((mset_ne (mne h1 h2 (by intro h; cases h))).trans h1) rfl 0 (by decide) (by decide +kernel) rfl dX1_spread_9 ?_
        refine lv_iload_n hx hb dX1_spread_12 rfl (lv_at hl 0 rfl) ?_
        refine lv_dup2_11 hx hb dX1_spread_13 rfl rfl ?_
        refine m_lald hx hb hG mset_self i.toNat (by omega) (by omega) (by decide) dX1_spread_14 ?_
        refine lv_aload_n hx hb dX1_spread_15 rfl (lv_at hl 1 rfl) ?_
        refine m_get (ci := 1) (v := .ref r) (C := RX1) (T := TX1) (N := 1) hx hb hts (by decide +kernel) hown K hG ((mset_ne (mne h1 h2 (by intro h; cases h))).trans h1) rfl 0 (by decide) (by decide +kernel) rfl dX1_spread_16 ?_
        refine lv_iload_n hx hb dX1_spread_19 rfl (lv_at hl 0 rfl) ?_
        refine m_lald hx hb hG mset_self i.toNat (by omega) (by omega) (by decide) dX1_spread_20 ?_
        refine lv_iload_n hx hb dX1_spread_21 rfl (lv_at hl 2 rfl) ?_
        refine m_lshl hx hb k.toNat (by omega) (by omega) dX1_spread_22 ?_
        refine lv_aload_n hx hb dX1_spread_23 rfl (lv_at hl 1 rfl) ?_
        refine m_get (ci := 1) (v := .ref r) (C := RX1) (T := TX1) (N := 1) hx hb hts (by decide +kernel) hown K hG ((mset_ne (mne h1 h2 (by intro h; cases h))).trans h1) rfl 0 (by decide) (by decide +kernel) rfl dX1_spread_24 ?_
        refine lv_iload_n hx hb dX1_spread_27 rfl (lv_at hl 0 rfl) ?_
        refine m_lald hx hb hG mset_self i.toNat (by omega) (by omega) (by decide) dX1_spread_28 ?_
        refine lv_iload_n hx hb dX1_spread_29 rfl (lv_at hl 2 rfl) ?_
        refine m_lushr hx hb k.toNat (by omega) (by omega) dX1_spread_30 ?_
        refine m_lor hx hb dX1_spread_31 ?_
        refine m_lor hx hb dX1_spread_32 ?_
        refine m_last hx hb hG hS mset_self i.toNat (by omega) (by omega) (by decide) dX1_spread_33 (fun H locs hG hS => ?_)
        rw [mset_mset] at hG
        have hG : mG D b (mset M r (aL 64 (va_up T i.toNat (fun tt => (T i.toNat) tt || ((decide (k.toNat ≤ tt) && (T i.toNat) (tt - k.toNat)) || (decide (tt + k.toNat < 64) && (T i.toNat) (tt + k.toNat))))))) s H := hG
        refine m_iinc (lv' := [(2, .int (iI (i + 1))), (0, .ref h), (1, .int (iI k))]) (k := 0) hx hb dX1_spread_34 hl rfl (by decide) rfl (fun ls hl => ?_)
        refine lv_goto (tgt := 2) hx hb dX1_spread_37 (by decide) ?_
        exact ih2 (i + 1) (va_up T i.toNat (fun tt => (T i.toNat) tt || ((decide (k.toNat ≤ tt) && (T i.toNat) (tt - k.toNat)) || (decide (tt + k.toNat < 64) && (T i.toNat) (tt + k.toNat))))) _ _ _ (by omega) (by omega) (fun a c => by by_cases g : a = i.toNat; rw [g, va_up_self, if_pos (by omega)]; simp only [hA]; rw [if_neg (by omega), if_neg (by omega), if_neg (by omega)]; rfl; rw [va_up_ne _ _ g, hA]; by_cases g2 : (a : Int) < i; rw [if_pos g2, if_pos (by omega)]; rw [if_neg g2, if_neg (by omega)]) (by omega) hG hS (lv_sub hl [0, 1, 2] rfl)
  exact loop2 _ 0 S _ _ _ (by omega) (by omega) (fun a c => by rw [if_neg (by omega)]) (Nat.lt_succ_self _) (by rw [mset_id h2]; exact hG) hS (lv_sub hl [0, 1, 2] rfl)

set_option maxHeartbeats 4000000 in
set_option maxRecDepth 100000 in
theorem c_X1_widen (l : Launch) (D : va_G) (b : Nat) (M : mM) (h r : Nat) (S : Nat → Nat → Bool) (h1 : M h = some (Pl r)) (h2 : M r = some (aL 64 S)) (d : Int) (hd0 : 0 ≤ d) (hd1 : d ≤ 7) : Met l yX1_widen wsX1_widen ({ frames := 1, cells := 0, slots := 0, locals := 22 } : Room) (mPc [.ref h, .int (iI d)] D b M) (mQv D b (fun M1 => ∃ T : Nat → Nat → Bool, M1 = mset M r (aL 64 T) ∧ ∀ a c : Nat, a < 64 → c < 64 → (T a c = true ↔ wide d.toNat S a c))) 0 0 (mF b) := by
  refine m_met (cc := cX1_widen) (maxL := 4) (ret := none) (by decide) rfl (Nat.le_of_ble_eq_true rfl) ?_
  intro p e s m args below meth c Q ls hx hb hml hr hts hown hlk hnm hQ K hG hS hl
  have hown : s.vm.findClass RX1 = some m.cls := hown
  have hl : lv_has ls 4 [(0, .ref h), (1, .int (iI d))] := hl
  refine lv_iconst (v := iI 0) hx hb dX1_widen_0 rfl ?_
  refine lv_istore_n (lv' := [(2, .int (iI 0)), (0, .ref h), (1, .int (iI d))]) hx hb dX1_widen_1 rfl hl (by decide) rfl (fun ls hl => ?_)
  have loop2 : ∀ (fuel : Nat) (q : Int) (T : Nat → Nat → Bool) (H : Heap) (locs : List Loc) (ls : Array Slot), (0 ≤ q) → (q ≤ d) → (∀ a c : Nat, a < 64 → c < 64 → (T a c = true ↔ wide q.toNat S a c)) → (d - q).toNat < fuel → mG D b (mset M r (aL 64 T)) s H → va_S (mF b) s.heap H locs → lv_has ls 4 [(2, .int (iI q)), (0, .ref h), (1, .int (iI d))] → W p l e ({ frames := 1, cells := 0, slots := 0, locals := 22 } : Room) s m args below meth c H locs 0 0 Q (F0 m 2 ls []) := by
    intro fuel
    induction fuel with
    | zero => intro q T H locs ls hq0 hq1 hA hm; exact absurd hm (Nat.not_lt_zero _)
    | succ fuel ih2 =>
      intro q T H locs ls hq0 hq1 hA hm hG hS hl
      refine lv_iload_n hx hb dX1_widen_2 rfl (lv_at hl 0 rfl) ?_
      refine lv_iload_n hx hb dX1_widen_3 rfl (lv_at hl 2 rfl) ?_
      refine m_icmp_ge (tgt := 29) hx hb dX1_widen_4 (by decide) ⟨by omega, by omega⟩ ⟨by omega, by omega⟩ (fun c4 => ?_) (fun c4 => ?_)
      · exact m_vret hx hb hr hlk hQ hG hS (Nat.le_of_ble_eq_true rfl) (Nat.le_of_ble_eq_true rfl) dX1_widen_29 ⟨T, rfl, by rw [show d = q by omega]; exact hA⟩
      · refine lv_iload_n hx hb dX1_widen_7 rfl (lv_at hl 0 rfl) ?_
        refine lv_iconst (v := iI 1) hx hb dX1_widen_8 rfl ?_
        refine m_iadd hx hb dX1_widen_9 ?_
        refine lv_iload_n hx hb dX1_widen_10 rfl (lv_at hl 2 rfl) ?_
        refine lv_iload_n hx hb dX1_widen_11 rfl (lv_at hl 0 rfl) ?_
        refine m_isub hx hb dX1_widen_12 ?_
        refine m_mmin hx hb (hml.trans hl.1.symm) hts hown (by decide +kernel) (by decide +kernel) (by decide +kernel) (by decide +kernel) (Nat.le_of_ble_eq_true rfl) (Nat.le_of_ble_eq_true rfl) (Nat.zero_le _) (Nat.zero_le _) ⟨by omega, by omega⟩ ⟨by omega, by omega⟩ dX1_widen_13 ?_
        refine lv_istore_n (lv' := [(3, .int (iI (min (q + 1) (d - q)))), (2, .int (iI q)), (0, .ref h), (1, .int (iI d))]) hx hb dX1_widen_16 rfl hl (by decide) rfl (fun ls hl => ?_)
        refine lv_aload_n hx hb dX1_widen_17 rfl (lv_at hl 2 rfl) ?_
        refine lv_iload_n hx hb dX1_widen_18 rfl (lv_at hl 0 rfl) ?_
        refine m_callfv (m_runV (a := h) (As := [.int (iI (min (q + 1) (d - q)))]) (rest := []) ⟨hx, hb, hml, hown, hts⟩ (c_X1_spread l D b _ h r T ((mset_ne (mne h1 h2 (by intro h; cases h))).trans h1) mset_self (min (q + 1) (d - q)) (by omega) (by omega)) (cwV 1 hts gX1_widen_X1_spread rfl rfl rfl (by decide +kernel) ⟨Nat.le_of_ble_eq_true rfl, Nat.le_of_ble_eq_true rfl⟩) K hG ((mset_ne (mne h1 h2 (by intro h; cases h))).trans h1) rfl rfl rfl hl.1 rfl (Nat.le_of_ble_eq_true rfl) dX1_widen_19 ⟨Nat.le_of_ble_eq_true rfl, Nat.le_of_ble_eq_true rfl⟩) hS (fun H locs hG hS => ?_)
        rw [mset_mset] at hG
        have hG : mG D b (mset M r (aL 64 (sp3 (min (q + 1) (d - q)).toNat (sp2 (min (q + 1) (d - q)).toNat (sp1 (min (q + 1) (d - q)).toNat T))))) s H := hG
        refine lv_iload_n hx hb dX1_widen_22 rfl (lv_at hl 1 rfl) ?_
        refine lv_iload_n hx hb dX1_widen_23 rfl (lv_at hl 0 rfl) ?_
        refine m_iadd hx hb dX1_widen_24 ?_
        refine lv_istore_n (lv' := [(2, .int (iI (q + (min (q + 1) (d - q))))), (3, .int (iI (min (q + 1) (d - q)))), (0, .ref h), (1, .int (iI d))]) hx hb dX1_widen_25 rfl hl (by decide) rfl (fun ls hl => ?_)
        refine lv_goto (tgt := 2) hx hb dX1_widen_26 (by decide) ?_
        exact ih2 (q + (min (q + 1) (d - q))) (sp3 (min (q + 1) (d - q)).toNat (sp2 (min (q + 1) (d - q)).toNat (sp1 (min (q + 1) (d - q)).toNat T))) _ _ _ (by omega) (by omega) (fun a c h9 h8 => by rw [show (q + min (q + 1) (d - q)).toNat = q.toNat + (min (q + 1) (d - q)).toNat by omega]; exact wide_step (by omega) (by omega) hA h9 h8) (by omega) hG hS (lv_sub hl [0, 2, 3] rfl)
  exact loop2 _ 0 S _ _ _ (by omega) (by omega) (fun a c h9 h8 => (wide_0 h9 h8).symm) (Nat.lt_succ_self _) (by rw [mset_id h2]; exact hG) hS (lv_sub hl [0, 1, 2] rfl)

