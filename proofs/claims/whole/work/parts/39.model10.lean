/-- the better of two: the more (w = 0) or the less -/
def bst (w x y : Int) : Int := if w = 0 then max x y else min x y
def gd (w v y : Int) : Prop := if w = 0 then y ≤ v else v ≤ y
theorem bst_gd (w x y z : Int) : gd w (bst w x y) z ↔ gd w x z ∨ gd w y z := by
  unfold gd bst
  by_cases h : w = 0
  · rw [if_pos h, if_pos h, if_pos h, if_pos h]; omega
  · rw [if_neg h, if_neg h, if_neg h, if_neg h]; omega
theorem bst_rg {w x y : Int} (h1 : rg x) (h2 : rg y) : rg (bst w x y) := by
  have := h1.1
  have := h1.2
  have := h2.1
  have := h2.2
  unfold bst
  split
  · exact ⟨by omega, by omega⟩
  · exact ⟨by omega, by omega⟩
/-- the best within reach d along a row, and along a column -/
def hzF (w : Int) (f : Nat → Int) (j : Nat) : Nat → Int
  | 0 => f j
  | d + 1 => if j % 64 + (d + 1) < 64 then bst w (if d + 1 ≤ j % 64 then bst w (hzF w f j d) (f (j - (d + 1))) else hzF w f j d) (f (j + (d + 1))) else (if d + 1 ≤ j % 64 then bst w (hzF w f j d) (f (j - (d + 1))) else hzF w f j d)
def vtF (w : Int) (f : Nat → Int) (j : Nat) : Nat → Int
  | 0 => f j
  | d + 1 => if j / 64 + (d + 1) < 64 then bst w (if d + 1 ≤ j / 64 then bst w (vtF w f j d) (f (j - (d + 1) * 64)) else vtF w f j d) (f (j + (d + 1) * 64)) else (if d + 1 ≤ j / 64 then bst w (vtF w f j d) (f (j - (d + 1) * 64)) else vtF w f j d)
def spF (w : Int) (f : Nat → Int) (d j : Nat) : Int := vtF w (fun j2 => hzF w f j2 d) j d
theorem hzF_rg {w : Int} {f : Nat → Int} (h : ∀ k, k < 4096 → rg (f k)) {j : Nat} (hj : j < 4096) : ∀ d, rg (hzF w f j d)
  | 0 => h j hj
  | d + 1 => by
    have ih := hzF_rg (w := w) h hj d
    rw [hzF]
    split
    · refine bst_rg ?_ (h _ (by omega))
      split
      · exact bst_rg ih (h _ (by omega))
      · exact ih
    · split
      · exact bst_rg ih (h _ (by omega))
      · exact ih
theorem hzF_cong {w : Int} {f g : Nat → Int} (h : ∀ k, k < 4096 → f k = g k) {j : Nat} (hj : j < 4096) : ∀ d, hzF w f j d = hzF w g j d
  | 0 => h j hj
  | d + 1 => by
    rw [hzF, hzF, hzF_cong h hj d, h (j - (d + 1)) (by omega)]
    by_cases g1 : j % 64 + (d + 1) < 64
    · rw [if_pos g1, if_pos g1, h (j + (d + 1)) (by omega)]
    · rw [if_neg g1, if_neg g1]
theorem vtF_cong {w : Int} {f g : Nat → Int} (h : ∀ k, k < 4096 → f k = g k) {j : Nat} (hj : j < 4096) : ∀ d, vtF w f j d = vtF w g j d
  | 0 => h j hj
  | d + 1 => by
    rw [vtF, vtF, vtF_cong h hj d, h (j - (d + 1) * 64) (by omega)]
    by_cases g1 : j / 64 + (d + 1) < 64
    · rw [if_pos g1, if_pos g1, h (j + (d + 1) * 64) (by omega)]
    · rw [if_neg g1, if_neg g1]
theorem spF_cong {w : Int} {f g : Nat → Int} (h : ∀ k, k < 4096 → f k = g k) {j : Nat} (hj : j < 4096) (d : Nat) : spF w f d j = spF w g d j := vtF_cong (fun _ hk => hzF_cong h hk d) hj d
theorem hzF_gd {w z : Int} {f : Nat → Int} {j : Nat} (hj : j < 4096) : ∀ d, gd w (hzF w f j d) z ↔ ∃ j2, j2 < 4096 ∧ j2 / 64 = j / 64 ∧ (j2 % 64 ≤ j % 64 + d ∧ j % 64 ≤ j2 % 64 + d) ∧ gd w (f j2) z
  | 0 => by
    constructor
    · intro h; exact ⟨j, hj, rfl, ⟨by omega, by omega⟩, h⟩
    · rintro ⟨j2, h1, h2, h3, h4⟩
      rw [show j2 = j by omega] at h4
      exact h4
  | d + 1 => by
    have ih := hzF_gd (w := w) (z := z) (f := f) hj d
    have e1 : gd w (if d + 1 ≤ j % 64 then bst w (hzF w f j d) (f (j - (d + 1))) else hzF w f j d) z ↔ gd w (hzF w f j d) z ∨ (d + 1 ≤ j % 64 ∧ gd w (f (j - (d + 1))) z) := by
      by_cases g1 : d + 1 ≤ j % 64
      · rw [if_pos g1, bst_gd]; exact ⟨fun h => h.imp id (fun q => ⟨g1, q⟩), fun h => h.imp id (fun q => q.2)⟩
      · rw [if_neg g1]; exact ⟨Or.inl, fun h => h.elim id (fun q => absurd q.1 g1)⟩
    have e2 : gd w (hzF w f j (d + 1)) z ↔ (gd w (hzF w f j d) z ∨ (d + 1 ≤ j % 64 ∧ gd w (f (j - (d + 1))) z)) ∨ (j % 64 + (d + 1) < 64 ∧ gd w (f (j + (d + 1))) z) := by
      rw [hzF, ← e1]
      by_cases g1 : j % 64 + (d + 1) < 64
      · rw [if_pos g1, bst_gd]; exact ⟨fun h => h.imp id (fun q => ⟨g1, q⟩), fun h => h.imp id (fun q => q.2)⟩
      · rw [if_neg g1]; exact ⟨Or.inl, fun h => h.elim id (fun q => absurd q.1 g1)⟩
    rw [e2, ih]
    constructor
    · rintro ((⟨j2, h1, h2, h3, h4⟩ | ⟨h1, h2⟩) | ⟨h1, h2⟩)
      · exact ⟨j2, h1, h2, ⟨by omega, by omega⟩, h4⟩
      · exact ⟨j - (d + 1), by omega, by omega, ⟨by omega, by omega⟩, h2⟩
      · exact ⟨j + (d + 1), by omega, by omega, ⟨by omega, by omega⟩, h2⟩
    · rintro ⟨j2, h1, h2, ⟨h3, h4⟩, h5⟩
      by_cases g1 : j2 % 64 ≤ j % 64 + d ∧ j % 64 ≤ j2 % 64 + d
      · exact Or.inl (Or.inl ⟨j2, h1, h2, g1, h5⟩)
      · by_cases g2 : j2 < j
        · rw [show j2 = j - (d + 1) by omega] at h5
          exact Or.inl (Or.inr ⟨by omega, h5⟩)
        · rw [show j2 = j + (d + 1) by omega] at h5
          exact Or.inr ⟨by omega, h5⟩
theorem vtF_gd {w z : Int} {f : Nat → Int} {j : Nat} (hj : j < 4096) : ∀ d, gd w (vtF w f j d) z ↔ ∃ j2, j2 < 4096 ∧ j2 % 64 = j % 64 ∧ (j2 / 64 ≤ j / 64 + d ∧ j / 64 ≤ j2 / 64 + d) ∧ gd w (f j2) z
  | 0 => by
    constructor
    · intro h; exact ⟨j, hj, rfl, ⟨by omega, by omega⟩, h⟩
    · rintro ⟨j2, h1, h2, h3, h4⟩
      rw [show j2 = j by omega] at h4
      exact h4
  | d + 1 => by
    have ih := vtF_gd (w := w) (z := z) (f := f) hj d
    have e1 : gd w (if d + 1 ≤ j / 64 then bst w (vtF w f j d) (f (j - (d + 1) * 64)) else vtF w f j d) z ↔ gd w (vtF w f j d) z ∨ (d + 1 ≤ j / 64 ∧ gd w (f (j - (d + 1) * 64)) z) := by
      by_cases g1 : d + 1 ≤ j / 64
      · rw [if_pos g1, bst_gd]; exact ⟨fun h => h.imp id (fun q => ⟨g1, q⟩), fun h => h.imp id (fun q => q.2)⟩
      · rw [if_neg g1]; exact ⟨Or.inl, fun h => h.elim id (fun q => absurd q.1 g1)⟩
    have e2 : gd w (vtF w f j (d + 1)) z ↔ (gd w (vtF w f j d) z ∨ (d + 1 ≤ j / 64 ∧ gd w (f (j - (d + 1) * 64)) z)) ∨ (j / 64 + (d + 1) < 64 ∧ gd w (f (j + (d + 1) * 64)) z) := by
      rw [vtF, ← e1]
      by_cases g1 : j / 64 + (d + 1) < 64
      · rw [if_pos g1, bst_gd]; exact ⟨fun h => h.imp id (fun q => ⟨g1, q⟩), fun h => h.imp id (fun q => q.2)⟩
      · rw [if_neg g1]; exact ⟨Or.inl, fun h => h.elim id (fun q => absurd q.1 g1)⟩
    rw [e2, ih]
    constructor
    · rintro ((⟨j2, h1, h2, h3, h4⟩ | ⟨h1, h2⟩) | ⟨h1, h2⟩)
      · exact ⟨j2, h1, h2, ⟨by omega, by omega⟩, h4⟩
      · exact ⟨j - (d + 1) * 64, by omega, by omega, ⟨by omega, by omega⟩, h2⟩
      · exact ⟨j + (d + 1) * 64, by omega, by omega, ⟨by omega, by omega⟩, h2⟩
    · rintro ⟨j2, h1, h2, ⟨h3, h4⟩, h5⟩
      by_cases g1 : j2 / 64 ≤ j / 64 + d ∧ j / 64 ≤ j2 / 64 + d
      · exact Or.inl (Or.inl ⟨j2, h1, h2, g1, h5⟩)
      · by_cases g2 : j2 < j
        · rw [show j2 = j - (d + 1) * 64 by omega] at h5
          exact Or.inl (Or.inr ⟨by omega, h5⟩)
        · rw [show j2 = j + (d + 1) * 64 by omega] at h5
          exact Or.inr ⟨by omega, h5⟩
theorem spF_gd {w z : Int} {f : Nat → Int} {d j : Nat} (hj : j < 4096) : gd w (spF w f d j) z ↔ ∃ j2, j2 < 4096 ∧ (j2 / 64 ≤ j / 64 + d ∧ j / 64 ≤ j2 / 64 + d) ∧ (j2 % 64 ≤ j % 64 + d ∧ j % 64 ≤ j2 % 64 + d) ∧ gd w (f j2) z := by
  unfold spF
  rw [vtF_gd hj]
  constructor
  · rintro ⟨j2, h1, h2, h3, h4⟩
    obtain ⟨j3, g1, g2, g3, g4⟩ := (hzF_gd h1 d).mp h4
    exact ⟨j3, g1, by rw [g2]; exact h3, by rw [← h2]; exact g3, g4⟩
  · rintro ⟨j3, g1, g2, g3, g4⟩
    refine ⟨64 * (j3 / 64) + j % 64, by omega, by omega, ⟨by omega, by omega⟩, ?_⟩
    exact (hzF_gd (by omega) d).mpr ⟨j3, g1, by omega, ⟨by omega, by omega⟩, g4⟩
theorem spF_bd {w : Int} (hw : w = 0 ∨ w = 1) {f : Nat → Int} {d : Nat} {x y : Int} (h : ∀ k, k < 4096 → x ≤ f k ∧ f k ≤ y) {j : Nat} (hj : j < 4096) : x ≤ spF w f d j ∧ spF w f d j ≤ y := by
  rcases hw with rfl | rfl
  · have e := fun z => spF_gd (w := 0) (z := z) (f := f) (d := d) hj
    simp only [gd, if_true] at e
    refine ⟨(e x).mpr ⟨j, hj, ⟨by omega, by omega⟩, ⟨by omega, by omega⟩, (h j hj).1⟩, ?_⟩
    rcases Int.lt_or_le y (spF 0 f d j) with q | q
    · obtain ⟨j2, g1, g2, g3, g4⟩ := (e (y + 1)).mp (by omega)
      have := (h j2 g1).2
      omega
    · exact q
  · have e := fun z => spF_gd (w := 1) (z := z) (f := f) (d := d) hj
    simp only [gd, show ¬ ((1 : Int) = 0) by decide, if_false] at e
    refine ⟨?_, (e y).mpr ⟨j, hj, ⟨by omega, by omega⟩, ⟨by omega, by omega⟩, (h j hj).2⟩⟩
    rcases Int.lt_or_le (spF 1 f d j) x with q | q
    · obtain ⟨j2, g1, g2, g3, g4⟩ := (e (x - 1)).mp (by omega)
      have := (h j2 g1).1
      omega
    · exact q

set_option maxHeartbeats 4000000 in
set_option maxRecDepth 100000 in
theorem c_X5_spreads (l : Launch) (D : va_G) (b : Nat) (M : mM) (am : Nat → Nat) (nt ng : Int) (sp nn jj sa sx sy ra : Nat → Int) (gz : Nat → Bool) (va ac : Nat → Int) (hO : MoOk M am nt ng sp nn jj sa sx sy ra gz va ac) (dd w : Int) (hd0 : 0 ≤ dd) (hd1 : dd ≤ 7) (hw : w = 0 ∨ w = 1) (hva : ∀ k, k < 4096 → rg (va k)) : Met l yX5_spreads wsX5_spreads ({ frames := 1, cells := 0, slots := 0, locals := 22 } : Room) (mPc [.ref (am 0), .int (iI dd), .int (iI w)] D b M) (mQv D b (fun M1 => ∃ V A : Nat → Int, MoOk M1 am nt ng sp nn jj sa sx sy ra gz V A ∧ (∀ a, a ≠ am 9 → a ≠ am 10 → M1 a = M a) ∧ ∀ j, j < 4096 → V j = spF w va dd.toNat j)) 0 0 (mF b) := by
  refine m_met (cc := cX5_spreads) (maxL := 6) (ret := none) (by decide) rfl (Nat.le_of_ble_eq_true rfl) ?_
  intro p e s m args below meth c Q ls hx hb hml hr hts hown hlk hnm hQ K hG hS hl
  have hown : s.vm.findClass RX5 = some m.cls := hown
  have hl : lv_has ls 6 [(0, .ref (am 0)), (1, .int (iI dd)), (2, .int (iI w))] := hl
  obtain ⟨m0, m1, m2, m3, m4, m5, m6, m7, m8, m9, m10, minj, ⟨b1, b2, b3, b4⟩⟩ := id hO
  refine lv_iconst (v := iI 0) hx hb dX5_spreads_0 rfl ?_
  refine lv_istore_n (lv' := [(3, .int (iI 0)), (0, .ref (am 0)), (1, .int (iI dd)), (2, .int (iI w))]) hx hb dX5_spreads_1 rfl hl (by decide) rfl (fun ls hl => ?_)
  have loop2 : ∀ (fuel : Nat) (i : Int) (A : Nat → Int) (H : Heap) (locs : List Loc) (ls : Array Slot), (0 ≤ i) → (i ≤ 4096) → (∀ j : Nat, A j = if (j : Int) < i then hzF w va j dd.toNat else ac j) → (4096 - i).toNat < fuel → mG D b (mset M (am 10) (aI 4096 A)) s H → va_S (mF b) s.heap H locs → lv_has ls 6 [(3, .int (iI i)), (0, .ref (am 0)), (1, .int (iI dd)), (2, .int (iI w))] → W p l e ({ frames := 1, cells := 0, slots := 0, locals := 22 } : Room) s m args below meth c H locs 0 0 Q (F0 m 2 ls []) := by
    intro fuel
    induction fuel with
    | zero => intro i A H locs ls hi0 hi1 hA hm; exact absurd hm (Nat.not_lt_zero _)
    | succ fuel ih2 =>
      intro i A H locs ls hi0 hi1 hA hm hG hS hl
      refine lv_iload_n hx hb dX5_spreads_2 rfl (lv_at hl 0 rfl) ?_
      refine lv_sipush (v := iI 4096) hx hb dX5_spreads_3 (by decide) ?_
      refine m_icmp_ge (tgt := 101) hx hb dX5_spreads_6 (by decide) ⟨by omega, by omega⟩ ⟨by omega, by omega⟩ (fun c6 => ?_) (fun c6 => ?_)
      · have hA4 : ∀ j : Nat, j < 4096 → A j = hzF w va j dd.toNat := fun j h9 => by rw [hA, if_pos (by omega)]
        have hac : ∀ j : Nat, j < 4096 → rg (A j) := fun j h9 => by rw [hA4 j h9]; exact hzF_rg hva h9 _
        refine lv_iconst (v := iI 0) hx hb dX5_spreads_101 rfl ?_
        refine lv_istore_n (lv' := [(3, .int (iI 0)), (0, .ref (am 0)), (1, .int (iI dd)), (2, .int (iI w))]) hx hb dX5_spreads_102 rfl hl (by decide) rfl (fun ls hl => ?_)
        have loop103 : ∀ (fuel : Nat) (i : Int) (V : Nat → Int) (H : Heap) (locs : List Loc) (ls : Array Slot), (0 ≤ i) → (i ≤ 4096) → (∀ j : Nat, V j = if (j : Int) < i then vtF w A j dd.toNat else va j) → (4096 - i).toNat < fuel → mG D b (mset (mset M (am 10) (aI 4096 A)) (am 9) (aI 4096 V)) s H → va_S (mF b) s.heap H locs → lv_has ls 6 [(3, .int (iI i)), (0, .ref (am 0)), (1, .int (iI dd)), (2, .int (iI w))] → W p l e ({ frames := 1, cells := 0, slots := 0, locals := 22 } : Room) s m args below meth c H locs 0 0 Q (F0 m 103 ls []) := by
          intro fuel
          induction fuel with
          | zero => intro i V H locs ls hi0 hi1 hV hm; exact absurd hm (Nat.not_lt_zero _)
          | succ fuel ih103 =>
            intro i V H locs ls hi0 hi1 hV hm hG hS hl
            refine lv_iload_n hx hb dX5_spreads_103 rfl (lv_at hl 0 rfl) ?_
            refine lv_sipush (v := iI 4096) hx hb dX5_spreads_104 (by decide) ?_
            refine m_icmp_ge (tgt := 208) hx hb dX5_spreads_107 (by decide) ⟨by omega, by omega⟩ ⟨by omega, by omega⟩ (fun c107 => ?_) (fun c107 => ?_)
            · exact m_vret hx hb hr hlk hQ hG hS (Nat.le_of_ble_eq_true rfl) (Nat.le_of_ble_eq_true rfl) dX5_spreads_208 ⟨V, A, ⟨((mset_ne (am_ne minj (i := 0) (j := 9) (by decide) (by decide) (by decide))).trans ((mset_ne (am_ne minj (i := 0) (j := 10) (by decide) (by decide) (by decide))).trans m0)), ((mset_ne (am_ne minj (i := 1) (j := 9) (by decide) (by decide) (by decide))).trans ((mset_ne (am_ne minj (i := 1) (j := 10) (by decide) (by decide) (by decide))).trans m1)), ((mset_ne (am_ne minj (i := 2) (j := 9) (by decide) (by decide) (by decide))).trans ((mset_ne (am_ne minj (i := 2) (j := 10) (by decide) (by decide) (by decide))).trans m2)), ((mset_ne (am_ne minj (i := 3) (j := 9) (by decide) (by decide) (by decide))).trans ((mset_ne (am_ne minj (i := 3) (j := 10) (by decide) (by decide) (by decide))).trans m3)), ((mset_ne (am_ne minj (i := 4) (j := 9) (by decide) (by decide) (by decide))).trans ((mset_ne (am_ne minj (i := 4) (j := 10) (by decide) (by decide) (by decide))).trans m4)), ((mset_ne (am_ne minj (i := 5) (j := 9) (by decide) (by decide) (by decide))).trans ((mset_ne (am_ne minj (i := 5) (j := 10) (by decide) (by decide) (by decide))).trans m5)), ((mset_ne (am_ne minj (i := 6) (j := 9) (by decide) (by decide) (by decide))).trans ((mset_ne (am_ne minj (i := 6) (j := 10) (by decide) (by decide) (by decide))).trans m6)), ((mset_ne (am_ne minj (i := 7) (j := 9) (by decide) (by decide) (by decide))).trans ((mset_ne (am_ne minj (i := 7) (j := 10) (by decide) (by decide) (by decide))).trans m7)), ((mset_ne (am_ne minj (i := 8) (j := 9) (by decide) (by decide) (by decide))).trans ((mset_ne (am_ne minj (i := 8) (j := 10) (by decide) (by decide) (by decide))).trans m8)), mset_self, ((mset_ne (am_ne minj (i := 10) (j := 9) (by decide) (by decide) (by decide))).trans mset_self), minj, ⟨b1, b2, b3, b4⟩⟩, (fun a q1 q2 => (mset_ne q1).trans (mset_ne q2)), (fun j h9 => by rw [hV, if_pos (by omega)]; exact vtF_cong hA4 h9 _)⟩
            · refine lv_aload_n hx hb dX5_spreads_110 rfl (lv_at hl 1 rfl) ?_
              refine m_get (ci := 5) (v := .ref (am 10)) (C := RX5) (T := TX5) (N := 12) hx hb hts (by decide +kernel) hown K hG ((mset_ne (am_ne minj (i := 0) (j := 9) (by decide) (by decide) (by decide))).trans ((mset_ne (am_ne minj (i := 0) (j := 10) (by decide) (by decide) (by decide))).trans m0)) rfl 11 (by decide) (by decide +kernel) rfl dX5_spreads_111 ?_
              refine lv_iload_n hx hb dX5_spreads_114 rfl (lv_at hl 0 rfl) ?_
              refine m_iald hx hb hG ((mset_ne (am_ne minj (i := 10) (j := 9) (by decide) (by decide) (by decide))).trans mset_self) i.toNat (by omega) (by omega) (by decide) dX5_spreads_115 ?_
              refine lv_istore (lv' := [(4, .int (iI (A i.toNat))), (3, .int (iI i)), (0, .ref (am 0)), (1, .int (iI dd)), (2, .int (iI w))]) hx hb dX5_spreads_116 hl (by decide) rfl (fun ls hl => ?_)
              refine lv_iconst (v := iI 1) hx hb dX5_spreads_118 rfl ?_
              refine lv_istore (lv' := [(5, .int (iI 1)), (4, .int (iI (A i.toNat))), (3, .int (iI i)), (0, .ref (am 0)), (1, .int (iI dd)), (2, .int (iI w))]) hx hb dX5_spreads_119 hl (by decide) rfl (fun ls hl => ?_)
              have loop121 : ∀ (fuel : Nat) (kk : Int) (x : Int) (H : Heap) (locs : List Loc) (ls : Array Slot), (1 ≤ kk) → (kk ≤ dd + 1) → (x = vtF w A i.toNat (kk - 1).toNat) → (rg x) → (dd + 1 - kk).toNat < fuel → mG D b (mset (mset M (am 10) (aI 4096 A)) (am 9) (aI 4096 V)) s H → va_S (mF b) s.heap H locs → lv_has ls 6 [(5, .int (iI kk)), (4, .int (iI x)), (3, .int (iI i)), (0, .ref (am 0)), (1, .int (iI dd)), (2, .int (iI w))] → W p l e ({ frames := 1, cells := 0, slots := 0, locals := 22 } : Room) s m args below meth c H locs 0 0 Q (F0 m 121 ls []) := by
                intro fuel
                induction fuel with
                | zero => intro kk x H locs ls hk0 hk1 hxe hxr hm; exact absurd hm (Nat.not_lt_zero _)
                | succ fuel ih121 =>
                  intro kk x H locs ls hk0 hk1 hxe hxr hm hG hS hl
                  refine lv_iload hx hb dX5_spreads_121 (lv_at hl 0 rfl) ?_
                  refine lv_iload_n hx hb dX5_spreads_123 rfl (lv_at hl 4 rfl) ?_
                  refine m_icmp_gt (tgt := 194) hx hb dX5_spreads_124 (by decide) ⟨by omega, by omega⟩ ⟨by omega, by omega⟩ (fun c124 => ?_) (fun c124 => ?_)
                  · refine lv_aload_n hx hb dX5_spreads_194 rfl (lv_at hl 3 rfl) ?_
                    refine m_get (ci := 5) (v := .ref (am 9)) (C := RX5) (T := TX5) (N := 12) hx hb hts (by decide +kernel) hown K hG ((mset_ne (am_ne minj (i := 0) (j := 9) (by decide) (by decide) (by decide))).trans ((mset_ne (am_ne minj (i := 0) (j := 10) (by decide) (by decide) (by decide))).trans m0)) rfl 10 (by decide) (by decide +kernel) rfl dX5_spreads_195 ?_
                    refine lv_iload_n hx hb dX5_spreads_198 rfl (lv_at hl 2 rfl) ?_
                    refine lv_iload hx hb dX5_spreads_199 (lv_at hl 1 rfl) ?_
                    refine m_iast hx hb hG hS mset_self i.toNat (by omega) (by omega) (by decide) dX5_spreads_201 (fun H locs hG hS => ?_)
                    rw [mset_mset] at hG
                    have hG : mG D b (mset (mset M (am 10) (aI 4096 A)) (am 9) (aI 4096 (va_up V i.toNat x))) s H := hG
                    refine m_iinc (lv' := [(3, .int (iI (i + 1))), (5, .int (iI kk)), (4, .int (iI x)), (0, .ref (am 0)), (1, .int (iI dd)), (2, .int (iI w))]) (k := 2) hx hb dX5_spreads_202 hl rfl (by decide) rfl (fun ls hl => ?_)
                    refine lv_goto (tgt := 103) hx hb dX5_spreads_205 (by decide) ?_
                    exact ih103 (i + 1) (va_up V i.toNat x) _ _ _ (by omega) (by omega) (fun j => by by_cases e9 : j = i.toNat; rw [e9, va_up_self, if_pos (by omega), hxe, show (kk - 1).toNat = dd.toNat by omega]; rw [va_up_ne _ _ e9, hV]; by_cases g2 : (j : Int) < i; rw [if_pos g2, if_pos (by omega)]; rw [if_neg g2, if_neg (by omega)]) (by omega) hG hS (lv_sub hl [0, 3, 4, 5] rfl)
                  · refine lv_iload_n hx hb dX5_spreads_127 rfl (lv_at hl 2 rfl) ?_
                    refine lv_bipush (v := iI 64) hx hb dX5_spreads_128 (by decide) ?_
                    refine m_idiv hx hb dX5_spreads_130 (by omega) (by omega) ?_
                    refine lv_iload hx hb dX5_spreads_131 (lv_at hl 0 rfl) ?_
                    refine m_icmp_lt (tgt := 156) hx hb dX5_spreads_133 (by decide) ⟨by omega, by omega⟩ ⟨by omega, by omega⟩ (fun c133 => ?_) (fun c133 => ?_)
                    · refine lv_iload_n hx hb dX5_spreads_156 rfl (lv_at hl 2 rfl) ?_
                      refine lv_bipush (v := iI 64) hx hb dX5_spreads_157 (by decide) ?_
                      refine m_idiv hx hb dX5_spreads_159 (by omega) (by omega) ?_
                      refine lv_iload hx hb dX5_spreads_160 (lv_at hl 0 rfl) ?_
                      refine m_iadd hx hb dX5_spreads_162 ?_
                      refine lv_bipush (v := iI 64) hx hb dX5_spreads_163 (by decide) ?_
                      refine m_icmp_ge (tgt := 188) hx hb dX5_spreads_165 (by decide) ⟨by omega, by omega⟩ ⟨by omega, by omega⟩ (fun c165 => ?_) (fun c165 => ?_)
                      · refine m_iinc (lv' := [(5, .int (iI (kk + 1))), (4, .int (iI x)), (3, .int (iI i)), (0, .ref (am 0)), (1, .int (iI dd)), (2, .int (iI w))]) (k := 0) hx hb dX5_spreads_188 hl rfl (by decide) rfl (fun ls hl => ?_)
                        refine lv_goto (tgt := 121) hx hb dX5_spreads_191 (by decide) ?_
                        exact ih121 (kk + 1) x _ _ _ (by omega) (by omega) (by rw [show (kk + 1 - 1).toNat = (kk - 1).toNat + 1 by omega, vtF, show (kk - 1).toNat + 1 = kk.toNat by omega, if_neg (by omega), if_neg (by omega), ← hxe]) hxr (by omega) hG hS (lv_sub hl [0, 1, 2, 3, 4, 5] rfl)
                      · refine lv_iload hx hb dX5_spreads_168 (lv_at hl 1 rfl) ?_
                        refine lv_aload_n hx hb dX5_spreads_170 rfl (lv_at hl 3 rfl) ?_
                        refine m_get (ci := 5) (v := .ref (am 10)) (C := RX5) (T := TX5) (N := 12) hx hb hts (by decide +kernel) hown K hG ((mset_ne (am_ne minj (i := 0) (j := 9) (by decide) (by decide) (by decide))).trans ((mset_ne (am_ne minj (i := 0) (j := 10) (by decide) (by decide) (by decide))).trans m0)) rfl 11 (by decide) (by decide +kernel) rfl dX5_spreads_171 ?_
                        refine lv_iload_n hx hb dX5_spreads_174 rfl (lv_at hl 2 rfl) ?_
                        refine lv_iload hx hb dX5_spreads_175 (lv_at hl 0 rfl) ?_
                        refine lv_bipush (v := iI 64) hx hb dX5_spreads_177 (by decide) ?_
                        refine m_imul hx hb dX5_spreads_179 ?_
                        refine m_iadd hx hb dX5_spreads_180 ?_
                        refine m_iald hx hb hG ((mset_ne (am_ne minj (i := 10) (j := 9) (by decide) (by decide) (by decide))).trans mset_self) ((i + (kk * 64)).toNat) (by omega) (by omega) (by decide) dX5_spreads_181 ?_
                        refine lv_iload_n hx hb dX5_spreads_182 rfl (lv_at hl 5 rfl) ?_
                        refine m_callfi (m_runS (As := [.int (iI x), .int (iI (A ((i + (kk * 64)).toNat))), .int (iI w)]) (rest := []) ⟨hx, hb, hml, hown, hts⟩ (c_X5_better l D b _ x (A ((i + (kk * 64)).toNat)) w (by first | exact hxr | exact hac _ (by omega) | exact bst_rg hxr (hac _ (by omega))) (by first | exact hxr | exact hac _ (by omega) | exact bst_rg hxr (hac _ (by omega))) hw) (va_cwS 3 hts gX5_spreads_X5_better rfl rfl rfl (by decide +kernel) ⟨Nat.le_of_ble_eq_true rfl, Nat.le_of_ble_eq_true rfl⟩) K hG rfl hl.1 rfl (Nat.le_of_ble_eq_true rfl) dX5_spreads_183 ⟨Nat.le_of_ble_eq_true rfl, Nat.le_of_ble_eq_true rfl⟩) hS (fun H locs hG hS => ?_)
                        refine W.eq (g2 := F0 m 186 ls [.int (iI (bst w x (A ((i + (kk * 64)).toNat))))]) rfl ?_
                        have hG : mG D b (mset (mset M (am 10) (aI 4096 A)) (am 9) (aI 4096 V)) s H := hG
                        refine lv_istore (lv' := [(4, .int (iI (bst w x (A ((i + (kk * 64)).toNat))))), (5, .int (iI kk)), (3, .int (iI i)), (0, .ref (am 0)), (1, .int (iI dd)), (2, .int (iI w))]) hx hb dX5_spreads_186 hl (by decide) rfl (fun ls hl => ?_)
                        refine m_iinc (lv' := [(5, .int (iI (kk + 1))), (4, .int (iI (bst w x (A ((i + (kk * 64)).toNat))))), (3, .int (iI i)), (0, .ref (am 0)), (1, .int (iI dd)), (2, .int (iI w))]) (k := 1) hx hb dX5_spreads_188 hl rfl (by decide) rfl (fun ls hl => ?_)
                        refine lv_goto (tgt := 121) hx hb dX5_spreads_191 (by decide) ?_
                        exact ih121 (kk + 1) (bst w x (A ((i + (kk * 64)).toNat))) _ _ _ (by omega) (by omega) (by rw [show (kk + 1 - 1).toNat = (kk - 1).toNat + 1 by omega, vtF, show (kk - 1).toNat + 1 = kk.toNat by omega, if_pos (by omega), if_neg (by omega), ← hxe, show i.toNat + kk.toNat * 64 = (i + kk * 64).toNat by omega]) (bst_rg hxr (hac _ (by omega))) (by omega) hG hS (lv_sub hl [0, 1, 2, 3, 4, 5] rfl)
                    · refine lv_iload hx hb dX5_spreads_136 (lv_at hl 1 rfl) ?_
                      refine lv_aload_n hx hb dX5_spreads_138 rfl (lv_at hl 3 rfl) ?_
                      refine m_get (ci := 5) (v := .ref (am 10)) (C := RX5) (T := TX5) (N := 12) hx hb hts (by decide +kernel) hown K hG ((mset_ne (am_ne minj (i := 0) (j := 9) (by decide) (by decide) (by decide))).trans ((mset_ne (am_ne minj (i := 0) (j := 10) (by decide) (by decide) (by decide))).trans m0)) rfl 11 (by decide) (by decide +kernel) rfl dX5_spreads_139 ?_
                      refine lv_iload_n hx hb dX5_spreads_142 rfl (lv_at hl 2 rfl) ?_
                      refine lv_iload hx hb dX5_spreads_143 (lv_at hl 0 rfl) ?_
                      refine lv_bipush (v := iI 64) hx hb dX5_spreads_145 (by decide) ?_
                      refine m_imul hx hb dX5_spreads_147 ?_
                      refine m_isub hx hb dX5_spreads_148 ?_
                      refine m_iald hx hb hG ((mset_ne (am_ne minj (i := 10) (j := 9) (by decide) (by decide) (by decide))).trans mset_self) ((i - (kk * 64)).toNat) (by omega) (by omega) (by decide) dX5_spreads_149 ?_
                      refine lv_iload_n hx hb dX5_spreads_150 rfl (lv_at hl 5 rfl) ?_
                      refine m_callfi (m_runS (As := [.int (iI x), .int (iI (A ((i - (kk * 64)).toNat))), .int (iI w)]) (rest := []) ⟨hx, hb, hml, hown, hts⟩ (c_X5_better l D b _ x (A ((i - (kk * 64)).toNat)) w (by first | exact hxr | exact hac _ (by omega) | exact bst_rg hxr (hac _ (by omega))) (by first | exact hxr | exact hac _ (by omega) | exact bst_rg hxr (hac _ (by omega))) hw) (va_cwS 3 hts gX5_spreads_X5_better rfl rfl rfl (by decide +kernel) ⟨Nat.le_of_ble_eq_true rfl, Nat.le_of_ble_eq_true rfl⟩) K hG rfl hl.1 rfl (Nat.le_of_ble_eq_true rfl) dX5_spreads_151 ⟨Nat.le_of_ble_eq_true rfl, Nat.le_of_ble_eq_true rfl⟩) hS (fun H locs hG hS => ?_)
                      refine W.eq (g2 := F0 m 154 ls [.int (iI (bst w x (A ((i - (kk * 64)).toNat))))]) rfl ?_
                      have hG : mG D b (mset (mset M (am 10) (aI 4096 A)) (am 9) (aI 4096 V)) s H := hG
                      refine lv_istore (lv' := [(4, .int (iI (bst w x (A ((i - (kk * 64)).toNat))))), (5, .int (iI kk)), (3, .int (iI i)), (0, .ref (am 0)), (1, .int (iI dd)), (2, .int (iI w))]) hx hb dX5_spreads_154 hl (by decide) rfl (fun ls hl => ?_)
                      refine lv_iload_n hx hb dX5_spreads_156 rfl (lv_at hl 2 rfl) ?_
                      refine lv_bipush (v := iI 64) hx hb dX5_spreads_157 (by decide) ?_
                      refine m_idiv hx hb dX5_spreads_159 (by omega) (by omega) ?_
                      refine lv_iload hx hb dX5_spreads_160 (lv_at hl 1 rfl) ?_
                      refine m_iadd hx hb dX5_spreads_162 ?_
                      refine lv_bipush (v := iI 64) hx hb dX5_spreads_163 (by decide) ?_
                      refine m_icmp_ge (tgt := 188) hx hb dX5_spreads_165 (by decide) ⟨by omega, by omega⟩ ⟨by omega, by omega⟩ (fun c165 => ?_) (fun c165 => ?_)
                      · refine m_iinc (lv' := [(5, .int (iI (kk + 1))), (4, .int (iI (bst w x (A ((i - (kk * 64)).toNat))))), (3, .int (iI i)), (0, .ref (am 0)), (1, .int (iI dd)), (2, .int (iI w))]) (k := 1) hx hb dX5_spreads_188 hl rfl (by decide) rfl (fun ls hl => ?_)
                        refine lv_goto (tgt := 121) hx hb dX5_spreads_191 (by decide) ?_
                        exact ih121 (kk + 1) (bst w x (A ((i - (kk * 64)).toNat))) _ _ _ (by omega) (by omega) (by rw [show (kk + 1 - 1).toNat = (kk - 1).toNat + 1 by omega, vtF, show (kk - 1).toNat + 1 = kk.toNat by omega, if_neg (by omega), if_pos (by omega), ← hxe, show i.toNat - kk.toNat * 64 = (i - kk * 64).toNat by omega]) (bst_rg hxr (hac _ (by omega))) (by omega) hG hS (lv_sub hl [0, 1, 2, 3, 4, 5] rfl)
                      · refine lv_iload hx hb dX5_spreads_168 (lv_at hl 0 rfl) ?_
                        refine lv_aload_n hx hb dX5_spreads_170 rfl (lv_at hl 3 rfl) ?_
                        refine m_get (ci := 5) (v := .ref (am 10)) (C := RX5) (T := TX5) (N := 12) hx hb hts (by decide +kernel) hown K hG ((mset_ne (am_ne minj (i := 0) (j := 9) (by decide) (by decide) (by decide))).trans ((mset_ne (am_ne minj (i := 0) (j := 10) (by decide) (by decide) (by decide))).trans m0)) rfl 11 (by decide) (by decide +kernel) rfl dX5_spreads_171 ?_
                        refine lv_iload_n hx hb dX5_spreads_174 rfl (lv_at hl 2 rfl) ?_
                        refine lv_iload hx hb dX5_spreads_175 (lv_at hl 1 rfl) ?_
                        refine lv_bipush (v := iI 64) hx hb dX5_spreads_177 (by decide) ?_
                        refine m_imul hx hb dX5_spreads_179 ?_
                        refine m_iadd hx hb dX5_spreads_180 ?_
                        refine m_iald hx hb hG ((mset_ne (am_ne minj (i := 10) (j := 9) (by decide) (by decide) (by decide))).trans mset_self) ((i + (kk * 64)).toNat) (by omega) (by omega) (by decide) dX5_spreads_181 ?_
                        refine lv_iload_n hx hb dX5_spreads_182 rfl (lv_at hl 5 rfl) ?_
                        refine m_callfi (m_runS (As := [.int (iI (bst w x (A ((i - (kk * 64)).toNat)))), .int (iI (A ((i + (kk * 64)).toNat))), .int (iI w)]) (rest := []) ⟨hx, hb, hml, hown, hts⟩ (c_X5_better l D b _ (bst w x (A ((i - (kk * 64)).toNat))) (A ((i + (kk * 64)).toNat)) w (by first | exact hxr | exact hac _ (by omega) | exact bst_rg hxr (hac _ (by omega))) (by first | exact hxr | exact hac _ (by omega) | exact bst_rg hxr (hac _ (by omega))) hw) (va_cwS 3 hts gX5_spreads_X5_better rfl rfl rfl (by decide +kernel) ⟨Nat.le_of_ble_eq_true rfl, Nat.le_of_ble_eq_true rfl⟩) K hG rfl hl.1 rfl (Nat.le_of_ble_eq_true rfl) dX5_spreads_183 ⟨Nat.le_of_ble_eq_true rfl, Nat.le_of_ble_eq_true rfl⟩) hS (fun H locs hG hS => ?_)
                        refine W.eq (g2 := F0 m 186 ls [.int (iI (bst w (bst w x (A ((i - (kk * 64)).toNat))) (A ((i + (kk * 64)).toNat))))]) rfl ?_
                        have hG : mG D b (mset (mset M (am 10) (aI 4096 A)) (am 9) (aI 4096 V)) s H := hG
                        refine lv_istore (lv' := [(4, .int (iI (bst w (bst w x (A ((i - (kk * 64)).toNat))) (A ((i + (kk * 64)).toNat))))), (5, .int (iI kk)), (3, .int (iI i)), (0, .ref (am 0)), (1, .int (iI dd)), (2, .int (iI w))]) hx hb dX5_spreads_186 hl (by decide) rfl (fun ls hl => ?_)
                        refine m_iinc (lv' := [(5, .int (iI (kk + 1))), (4, .int (iI (bst w (bst w x (A ((i - (kk * 64)).toNat))) (A ((i + (kk * 64)).toNat))))), (3, .int (iI i)), (0, .ref (am 0)), (1, .int (iI dd)), (2, .int (iI w))]) (k := 1) hx hb dX5_spreads_188 hl rfl (by decide) rfl (fun ls hl => ?_)
                        refine lv_goto (tgt := 121) hx hb dX5_spreads_191 (by decide) ?_
                        exact ih121 (kk + 1) (bst w (bst w x (A ((i - (kk * 64)).toNat))) (A ((i + (kk * 64)).toNat))) _ _ _ (by omega) (by omega) (by rw [show (kk + 1 - 1).toNat = (kk - 1).toNat + 1 by omega, vtF, show (kk - 1).toNat + 1 = kk.toNat by omega, if_pos (by omega), if_pos (by omega), ← hxe, show i.toNat - kk.toNat * 64 = (i - kk * 64).toNat by omega, show i.toNat + kk.toNat * 64 = (i + kk * 64).toNat by omega]) (bst_rg (bst_rg hxr (hac _ (by omega))) (hac _ (by omega))) (by omega) hG hS (lv_sub hl [0, 1, 2, 3, 4, 5] rfl)
              exact loop121 _ 1 (A i.toNat) _ _ _ (by omega) (by omega) rfl (hac _ (by omega)) (Nat.lt_succ_self _) hG hS (lv_sub hl [0, 1, 2, 3, 4, 5] rfl)
        exact loop103 _ 0 va _ _ _ (by omega) (by omega) (fun j => by rw [if_neg (by omega)]) (Nat.lt_succ_self _) (by rw [mset_id ((mset_ne (am_ne minj (i := 9) (j := 10) (by decide) (by decide) (by decide))).trans m9)]; exact hG) hS (lv_sub hl [0, 1, 2, 3] rfl)
      · refine lv_aload_n hx hb dX5_spreads_9 rfl (lv_at hl 1 rfl) ?_
        refine m_get (ci := 5) (v := .ref (am 9)) (C := RX5) (T := TX5) (N := 12) hx hb hts (by decide +kernel) hown K hG ((mset_ne (am_ne minj (i := 0) (j := 10) (by decide) (by decide) (by decide))).trans m0) rfl 10 (by decide) (by decide +kernel) rfl dX5_spreads_10 ?_
        refine lv_iload_n hx hb dX5_spreads_13 rfl (lv_at hl 0 rfl) ?_
        refine m_iald hx hb hG ((mset_ne (am_ne minj (i := 9) (j := 10) (by decide) (by decide) (by decide))).trans m9) i.toNat (by omega) (by omega) (by decide) dX5_spreads_14 ?_
        refine lv_istore (lv' := [(4, .int (iI (va i.toNat))), (3, .int (iI i)), (0, .ref (am 0)), (1, .int (iI dd)), (2, .int (iI w))]) hx hb dX5_spreads_15 hl (by decide) rfl (fun ls hl => ?_)
        refine lv_iconst (v := iI 1) hx hb dX5_spreads_17 rfl ?_
        refine lv_istore (lv' := [(5, .int (iI 1)), (4, .int (iI (va i.toNat))), (3, .int (iI i)), (0, .ref (am 0)), (1, .int (iI dd)), (2, .int (iI w))]) hx hb dX5_spreads_18 hl (by decide) rfl (fun ls hl => ?_)
        have loop20 : ∀ (fuel : Nat) (kk : Int) (x : Int) (H : Heap) (locs : List Loc) (ls : Array Slot), (1 ≤ kk) → (kk ≤ dd + 1) → (x = hzF w va i.toNat (kk - 1).toNat) → (rg x) → (dd + 1 - kk).toNat < fuel → mG D b (mset M (am 10) (aI 4096 A)) s H → va_S (mF b) s.heap H locs → lv_has ls 6 [(5, .int (iI kk)), (4, .int (iI x)), (3, .int (iI i)), (0, .ref (am 0)), (1, .int (iI dd)), (2, .int (iI w))] → W p l e ({ frames := 1, cells := 0, slots := 0, locals := 22 } : Room) s m args below meth c H locs 0 0 Q (F0 m 20 ls []) := by
          intro fuel
          induction fuel with
          | zero => intro kk x H locs ls hk0 hk1 hxe hxr hm; exact absurd hm (Nat.not_lt_zero _)
          | succ fuel ih20 =>
            intro kk x H locs ls hk0 hk1 hxe hxr hm hG hS hl
            refine lv_iload hx hb dX5_spreads_20 (lv_at hl 0 rfl) ?_
            refine lv_iload_n hx hb dX5_spreads_22 rfl (lv_at hl 4 rfl) ?_
            refine m_icmp_gt (tgt := 87) hx hb dX5_spreads_23 (by decide) ⟨by omega, by omega⟩ ⟨by omega, by omega⟩ (fun c23 => ?_) (fun c23 => ?_)
            · refine lv_aload_n hx hb dX5_spreads_87 rfl (lv_at hl 3 rfl) ?_
              refine m_get (ci := 5) (v := .ref (am 10)) (C := RX5) (T := TX5) (N := 12) hx hb hts (by decide +kernel) hown K hG ((mset_ne (am_ne minj (i := 0) (j := 10) (by decide) (by decide) (by decide))).trans m0) rfl 11 (by decide) (by decide +kernel) rfl dX5_spreads_88 ?_
              refine lv_iload_n hx hb dX5_spreads_91 rfl (lv_at hl 2 rfl) ?_
              refine lv_iload hx hb dX5_spreads_92 (lv_at hl 1 rfl) ?_
              refine m_iast hx hb hG hS mset_self i.toNat (by omega) (by omega) (by decide) dX5_spreads_94 (fun H locs hG hS => ?_)
              rw [mset_mset] at hG
              have hG : mG D b (mset M (am 10) (aI 4096 (va_up A i.toNat x))) s H := hG
              refine m_iinc (lv' := [(3, .int (iI (i + 1))), (5, .int (iI kk)), (4, .int (iI x)), (0, .ref (am 0)), (1, .int (iI dd)), (2, .int (iI w))]) (k := 2) hx hb dX5_spreads_95 hl rfl (by decide) rfl (fun ls hl => ?_)
              refine lv_goto (tgt := 2) hx hb dX5_spreads_98 (by decide) ?_
              exact ih2 (i + 1) (va_up A i.toNat x) _ _ _ (by omega) (by omega) (fun j => by by_cases e9 : j = i.toNat; rw [e9, va_up_self, if_pos (by omega), hxe, show (kk - 1).toNat = dd.toNat by omega]; rw [va_up_ne _ _ e9, hA]; by_cases g2 : (j : Int) < i; rw [if_pos g2, if_pos (by omega)]; rw [if_neg g2, if_neg (by omega)]) (by omega) hG hS (lv_sub hl [0, 3, 4, 5] rfl)
            · refine lv_iload_n hx hb dX5_spreads_26 rfl (lv_at hl 2 rfl) ?_
              refine lv_bipush (v := iI 64) hx hb dX5_spreads_27 (by decide) ?_
              refine m_irem hx hb dX5_spreads_29 (by omega) (by omega) ?_
              refine lv_iload hx hb dX5_spreads_30 (lv_at hl 0 rfl) ?_
              refine m_icmp_lt (tgt := 52) hx hb dX5_spreads_32 (by decide) ⟨by omega, by omega⟩ ⟨by omega, by omega⟩ (fun c32 => ?_) (fun c32 => ?_)
              · refine lv_iload_n hx hb dX5_spreads_52 rfl (lv_at hl 2 rfl) ?_
                refine lv_bipush (v := iI 64) hx hb dX5_spreads_53 (by decide) ?_
                refine m_irem hx hb dX5_spreads_55 (by omega) (by omega) ?_
                refine lv_iload hx hb dX5_spreads_56 (lv_at hl 0 rfl) ?_
                refine m_iadd hx hb dX5_spreads_58 ?_
                refine lv_bipush (v := iI 64) hx hb dX5_spreads_59 (by decide) ?_
                refine m_icmp_ge (tgt := 81) hx hb dX5_spreads_61 (by decide) ⟨by omega, by omega⟩ ⟨by omega, by omega⟩ (fun c61 => ?_) (fun c61 => ?_)
                · refine m_iinc (lv' := [(5, .int (iI (kk + 1))), (4, .int (iI x)), (3, .int (iI i)), (0, .ref (am 0)), (1, .int (iI dd)), (2, .int (iI w))]) (k := 0) hx hb dX5_spreads_81 hl rfl (by decide) rfl (fun ls hl => ?_)
                  refine lv_goto (tgt := 20) hx hb dX5_spreads_84 (by decide) ?_
                  exact ih20 (kk + 1) x _ _ _ (by omega) (by omega) (by rw [show (kk + 1 - 1).toNat = (kk - 1).toNat + 1 by omega, hzF, show (kk - 1).toNat + 1 = kk.toNat by omega, if_neg (by omega), if_neg (by omega), ← hxe]) hxr (by omega) hG hS (lv_sub hl [0, 1, 2, 3, 4, 5] rfl)
                · refine lv_iload hx hb dX5_spreads_64 (lv_at hl 1 rfl) ?_
                  refine lv_aload_n hx hb dX5_spreads_66 rfl (lv_at hl 3 rfl) ?_
                  refine m_get (ci := 5) (v := .ref (am 9)) (C := RX5) (T := TX5) (N := 12) hx hb hts (by decide +kernel) hown K hG ((mset_ne (am_ne minj (i := 0) (j := 10) (by decide) (by decide) (by decide))).trans m0) rfl 10 (by decide) (by decide +kernel) rfl dX5_spreads_67 ?_
                  refine lv_iload_n hx hb dX5_spreads_70 rfl (lv_at hl 2 rfl) ?_
                  refine lv_iload hx hb dX5_spreads_71 (lv_at hl 0 rfl) ?_
                  refine m_iadd hx hb dX5_spreads_73 ?_
                  refine m_iald hx hb hG ((mset_ne (am_ne minj (i := 9) (j := 10) (by decide) (by decide) (by decide))).trans m9) ((i + kk).toNat) (by omega) (by omega) (by decide) dX5_spreads_74 ?_
                  refine lv_iload_n hx hb dX5_spreads_75 rfl (lv_at hl 5 rfl) ?_
                  refine m_callfi (m_runS (As := [.int (iI x), .int (iI (va ((i + kk).toNat))), .int (iI w)]) (rest := []) ⟨hx, hb, hml, hown, hts⟩ (c_X5_better l D b _ x (va ((i + kk).toNat)) w (by first | exact hxr | exact hva _ (by omega) | exact bst_rg hxr (hva _ (by omega))) (by first | exact hxr | exact hva _ (by omega) | exact bst_rg hxr (hva _ (by omega))) hw) (va_cwS 3 hts gX5_spreads_X5_better rfl rfl rfl (by decide +kernel) ⟨Nat.le_of_ble_eq_true rfl, Nat.le_of_ble_eq_true rfl⟩) K hG rfl hl.1 rfl (Nat.le_of_ble_eq_true rfl) dX5_spreads_76 ⟨Nat.le_of_ble_eq_true rfl, Nat.le_of_ble_eq_true rfl⟩) hS (fun H locs hG hS => ?_)
                  refine W.eq (g2 := F0 m 79 ls [.int (iI (bst w x (va ((i + kk).toNat))))]) rfl ?_
                  have hG : mG D b (mset M (am 10) (aI 4096 A)) s H := hG
                  refine lv_istore (lv' := [(4, .int (iI (bst w x (va ((i + kk).toNat))))), (5, .int (iI kk)), (3, .int (iI i)), (0, .ref (am 0)), (1, .int (iI dd)), (2, .int (iI w))]) hx hb dX5_spreads_79 hl (by decide) rfl (fun ls hl => ?_)
                  refine m_iinc (lv' := [(5, .int (iI (kk + 1))), (4, .int (iI (bst w x (va ((i + kk).toNat))))), (3, .int (iI i)), (0, .ref (am 0)), (1, .int (iI dd)), (2, .int (iI w))]) (k := 1) hx hb dX5_spreads_81 hl rfl (by decide) rfl (fun ls hl => ?_)
                  refine lv_goto (tgt := 20) hx hb dX5_spreads_84 (by decide) ?_
                  exact ih20 (kk + 1) (bst w x (va ((i + kk).toNat))) _ _ _ (by omega) (by omega) (by rw [show (kk + 1 - 1).toNat = (kk - 1).toNat + 1 by omega, hzF, show (kk - 1).toNat + 1 = kk.toNat by omega, if_pos (by omega), if_neg (by omega), ← hxe, show i.toNat + kk.toNat = (i + kk).toNat by omega]) (bst_rg hxr (hva _ (by omega))) (by omega) hG hS (lv_sub hl [0, 1, 2, 3, 4, 5] rfl)
              · refine lv_iload hx hb dX5_spreads_35 (lv_at hl 1 rfl) ?_
                refine lv_aload_n hx hb dX5_spreads_37 rfl (lv_at hl 3 rfl) ?_
                refine m_get (ci := 5) (v := .ref (am 9)) (C := RX5) (T := TX5) (N := 12) hx hb hts (by decide +kernel) hown K hG ((mset_ne (am_ne minj (i := 0) (j := 10) (by decide) (by decide) (by decide))).trans m0) rfl 10 (by decide) (by decide +kernel) rfl dX5_spreads_38 ?_
                refine lv_iload_n hx hb dX5_spreads_41 rfl (lv_at hl 2 rfl) ?_
                refine lv_iload hx hb dX5_spreads_42 (lv_at hl 0 rfl) ?_
                refine m_isub hx hb dX5_spreads_44 ?_
                refine m_iald hx hb hG ((mset_ne (am_ne minj (i := 9) (j := 10) (by decide) (by decide) (by decide))).trans m9) ((i - kk).toNat) (by omega) (by omega) (by decide) dX5_spreads_45 ?_
                refine lv_iload_n hx hb dX5_spreads_46 rfl (lv_at hl 5 rfl) ?_
                refine m_callfi (m_runS (As := [.int (iI x), .int (iI (va ((i - kk).toNat))), .int (iI w)]) (rest := []) ⟨hx, hb, hml, hown, hts⟩ (c_X5_better l D b _ x (va ((i - kk).toNat)) w (by first | exact hxr | exact hva _ (by omega) | exact bst_rg hxr (hva _ (by omega))) (by first | exact hxr | exact hva _ (by omega) | exact bst_rg hxr (hva _ (by omega))) hw) (va_cwS 3 hts gX5_spreads_X5_better rfl rfl rfl (by decide +kernel) ⟨Nat.le_of_ble_eq_true rfl, Nat.le_of_ble_eq_true rfl⟩) K hG rfl hl.1 rfl (Nat.le_of_ble_eq_true rfl) dX5_spreads_47 ⟨Nat.le_of_ble_eq_true rfl, Nat.le_of_ble_eq_true rfl⟩) hS (fun H locs hG hS => ?_)
                refine W.eq (g2 := F0 m 50 ls [.int (iI (bst w x (va ((i - kk).toNat))))]) rfl ?_
                have hG : mG D b (mset M (am 10) (aI 4096 A)) s H := hG
                refine lv_istore (lv' := [(4, .int (iI (bst w x (va ((i - kk).toNat))))), (5, .int (iI kk)), (3, .int (iI i)), (0, .ref (am 0)), (1, .int (iI dd)), (2, .int (iI w))]) hx hb dX5_spreads_50 hl (by decide) rfl (fun ls hl => ?_)
                refine lv_iload_n hx hb dX5_spreads_52 rfl (lv_at hl 2 rfl) ?_
                refine lv_bipush (v := iI 64) hx hb dX5_spreads_53 (by decide) ?_
                refine m_irem hx hb dX5_spreads_55 (by omega) (by omega) ?_
                refine lv_iload hx hb dX5_spreads_56 (lv_at hl 1 rfl) ?_
                refine m_iadd hx hb dX5_spreads_58 ?_
                refine lv_bipush (v := iI 64) hx hb dX5_spreads_59 (by decide) ?_
                refine m_icmp_ge (tgt := 81) hx hb dX5_spreads_61 (by decide) ⟨by omega, by omega⟩ ⟨by omega, by omega⟩ (fun c61 => ?_) (fun c61 => ?_)
                · refine m_iinc (lv' := [(5, .int (iI (kk + 1))), (4, .int (iI (bst w x (va ((i - kk).toNat))))), (3, .int (iI i)), (0, .ref (am 0)), (1, .int (iI dd)), (2, .int (iI w))]) (k := 1) hx hb dX5_spreads_81 hl rfl (by decide) rfl (fun ls hl => ?_)
                  refine lv_goto (tgt := 20) hx hb dX5_spreads_84 (by decide) ?_
                  exact ih20 (kk + 1) (bst w x (va ((i - kk).toNat))) _ _ _ (by omega) (by omega) (by rw [show (kk + 1 - 1).toNat = (kk - 1).toNat + 1 by omega, hzF, show (kk - 1).toNat + 1 = kk.toNat by omega, if_neg (by omega), if_pos (by omega), ← hxe, show i.toNat - kk.toNat = (i - kk).toNat by omega]) (bst_rg hxr (hva _ (by omega))) (by omega) hG hS (lv_sub hl [0, 1, 2, 3, 4, 5] rfl)
                · refine lv_iload hx hb dX5_spreads_64 (lv_at hl 0 rfl) ?_
                  refine lv_aload_n hx hb dX5_spreads_66 rfl (lv_at hl 3 rfl) ?_
                  refine m_get (ci := 5) (v := .ref (am 9)) (C := RX5) (T := TX5) (N := 12) hx hb hts (by decide +kernel) hown K hG ((mset_ne (am_ne minj (i := 0) (j := 10) (by decide) (by decide) (by decide))).trans m0) rfl 10 (by decide) (by decide +kernel) rfl dX5_spreads_67 ?_
                  refine lv_iload_n hx hb dX5_spreads_70 rfl (lv_at hl 2 rfl) ?_
                  refine lv_iload hx hb dX5_spreads_71 (lv_at hl 1 rfl) ?_
                  refine m_iadd hx hb dX5_spreads_73 ?_
                  refine m_iald hx hb hG ((mset_ne (am_ne minj (i := 9) (j := 10) (by decide) (by decide) (by decide))).trans m9) ((i + kk).toNat) (by omega) (by omega) (by decide) dX5_spreads_74 ?_
                  refine lv_iload_n hx hb dX5_spreads_75 rfl (lv_at hl 5 rfl) ?_
                  refine m_callfi (m_runS (As := [.int (iI (bst w x (va ((i - kk).toNat)))), .int (iI (va ((i + kk).toNat))), .int (iI w)]) (rest := []) ⟨hx, hb, hml, hown, hts⟩ (c_X5_better l D b _ (bst w x (va ((i - kk).toNat))) (va ((i + kk).toNat)) w (by first | exact hxr | exact hva _ (by omega) | exact bst_rg hxr (hva _ (by omega))) (by first | exact hxr | exact hva _ (by omega) | exact bst_rg hxr (hva _ (by omega))) hw) (va_cwS 3 hts gX5_spreads_X5_better rfl rfl rfl (by decide +kernel) ⟨Nat.le_of_ble_eq_true rfl, Nat.le_of_ble_eq_true rfl⟩) K hG rfl hl.1 rfl (Nat.le_of_ble_eq_true rfl) dX5_spreads_76 ⟨Nat.le_of_ble_eq_true rfl, Nat.le_of_ble_eq_true rfl⟩) hS (fun H locs hG hS => ?_)
                  refine W.eq (g2 := F0 m 79 ls [.int (iI (bst w (bst w x (va ((i - kk).toNat))) (va ((i + kk).toNat))))]) rfl ?_
                  have hG : mG D b (mset M (am 10) (aI 4096 A)) s H := hG
                  refine lv_istore (lv' := [(4, .int (iI (bst w (bst w x (va ((i - kk).toNat))) (va ((i + kk).toNat))))), (5, .int (iI kk)), (3, .int (iI i)), (0, .ref (am 0)), (1, .int (iI dd)), (2, .int (iI w))]) hx hb dX5_spreads_79 hl (by decide) rfl (fun ls hl => ?_)
                  refine m_iinc (lv' := [(5, .int (iI (kk + 1))), (4, .int (iI (bst w (bst w x (va ((i - kk).toNat))) (va ((i + kk).toNat))))), (3, .int (iI i)), (0, .ref (am 0)), (1, .int (iI dd)), (2, .int (iI w))]) (k := 1) hx hb dX5_spreads_81 hl rfl (by decide) rfl (fun ls hl => ?_)
                  refine lv_goto (tgt := 20) hx hb dX5_spreads_84 (by decide) ?_
                  exact ih20 (kk + 1) (bst w (bst w x (va ((i - kk).toNat))) (va ((i + kk).toNat))) _ _ _ (by omega) (by omega) (by rw [show (kk + 1 - 1).toNat = (kk - 1).toNat + 1 by omega, hzF, show (kk - 1).toNat + 1 = kk.toNat by omega, if_pos (by omega), if_pos (by omega), ← hxe, show i.toNat - kk.toNat = (i - kk).toNat by omega, show i.toNat + kk.toNat = (i + kk).toNat by omega]) (bst_rg (bst_rg hxr (hva _ (by omega))) (hva _ (by omega))) (by omega) hG hS (lv_sub hl [0, 1, 2, 3, 4, 5] rfl)
        exact loop20 _ 1 (va i.toNat) _ _ _ (by omega) (by omega) rfl (hva _ (by omega)) (Nat.lt_succ_self _) hG hS (lv_sub hl [0, 1, 2, 3, 4, 5] rfl)
  exact loop2 _ 0 ac _ _ _ (by omega) (by omega) (fun j => by rw [if_neg (by omega)]) (Nat.lt_succ_self _) (by rw [mset_id m10]; exact hG) hS (lv_sub hl [0, 1, 2, 3] rfl)

