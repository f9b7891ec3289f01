/-! what the class says and what the reference says, as mathematics -/
theorem mxF_cong {β s t : Int} {v v2 tk tk2 : Nat → Int} : ∀ {n : Nat}, (∀ k, k < n → v k = v2 k ∧ tk k = tk2 k) → mxF β v tk s n t = mxF β v2 tk2 s n t
  | 0, _ => rfl
  | n + 1, h => by
    obtain ⟨h1, h2⟩ := h n (Nat.lt_succ_self n)
    rw [mxF, mxF, mxF_cong (fun k hk => h k (Nat.lt_succ_of_lt hk)), h1, h2]
/-- the rows of a thing, class and reference -/
abbrev rowE (n : Int) (vt vw vr sa sx sy ra : Nat → Int) (i : Nat) : Prop := ∀ k : Nat, (k : Int) < n → vt k = sa (12 * i + k) ∧ vw k = 64 * sx (12 * i + k) + sy (12 * i + k) ∧ vr k = ra (12 * i + k)
theorem F_eq {nt : Int} {sp nn sa sx sy ra : Nat → Int} (h : mGd nt sp nn sa sx sy ra) {i : Nat} (hi : (i : Int) < nt) {vt vw vr : Nat → Int} (hr : rowE (nn i) vt vw vr sa sx sy ra i) {t : Nat} (ht : t < 80) : ∀ c, c < 4 → stF (sp i) vt vw vr (nn i).toNat t c = mBF sp nn sa sx sy ra i t c := by
  obtain ⟨⟨n0, n1⟩, ⟨s0, s1⟩, so⟩ := h i hi
  have e := stF_eq (s := sp i) (vt := vt) (vw := vw) (vr := vr) (n := (nn i).toNat) s0 (fun k hk => by
    have h1 := hr k (by omega)
    have h2 := so k (by omega)
    rw [h1.1]
    exact h2.1) ht
  have a0 : mxF 0 (fun k => vw k / 64 - vr k) vt (sp i) (nn i).toNat t = loM 1 sp nn sa sx sy ra i t := by
    unfold loM
    refine mxF_cong (fun k hk => ?_)
    have h1 := hr k (by omega)
    have h2 := so k (by omega)
    refine ⟨?_, h1.1⟩
    show vw k / 64 - vr k = cxy 1 sx sy (12 * i + k) - ra (12 * i + k)
    unfold cxy
    rw [if_neg (by omega)]
    omega
  have a1 : mxF (-63) (fun k => -(vw k / 64 + vr k)) vt (sp i) (nn i).toNat t = - hiM 1 sp nn sa sx sy ra i t := by
    unfold hiM
    rw [Int.neg_neg]
    refine mxF_cong (fun k hk => ?_)
    have h1 := hr k (by omega)
    have h2 := so k (by omega)
    refine ⟨?_, h1.1⟩
    show -(vw k / 64 + vr k) = -(cxy 1 sx sy (12 * i + k) + ra (12 * i + k))
    unfold cxy
    rw [if_neg (by omega)]
    omega
  have a2 : mxF 0 (fun k => vw k % 64 - vr k) vt (sp i) (nn i).toNat t = loM 0 sp nn sa sx sy ra i t := by
    unfold loM
    refine mxF_cong (fun k hk => ?_)
    have h1 := hr k (by omega)
    have h2 := so k (by omega)
    refine ⟨?_, h1.1⟩
    show vw k % 64 - vr k = cxy 0 sx sy (12 * i + k) - ra (12 * i + k)
    unfold cxy
    rw [if_pos rfl]
    omega
  have a3 : mxF (-63) (fun k => -(vw k % 64 + vr k)) vt (sp i) (nn i).toNat t = - hiM 0 sp nn sa sx sy ra i t := by
    unfold hiM
    rw [Int.neg_neg]
    refine mxF_cong (fun k hk => ?_)
    have h1 := hr k (by omega)
    have h2 := so k (by omega)
    refine ⟨?_, h1.1⟩
    show -(vw k % 64 + vr k) = -(cxy 0 sx sy (12 * i + k) + ra (12 * i + k))
    unfold cxy
    rw [if_pos rfl]
    omega
  rw [a0, a1, a2, a3, Int.neg_neg, Int.neg_neg] at e
  intro c hc
  rcases (show c = 0 ∨ c = 1 ∨ c = 2 ∨ c = 3 by omega) with rfl | rfl | rfl | rfl
  · exact e.1
  · exact e.2.1
  · exact e.2.2.1
  · exact e.2.2.2
abbrev eqF (F E : Nat → Nat → Int) (t : Nat) : Prop := ∀ c, c < 4 → F t c = E t c
theorem inB_cong {F E : Nat → Nat → Int} {t x y : Nat} (h : eqF F E t) : inB F t x y ↔ inB E t x y := by
  unfold inB
  rw [h 0 (by omega), h 1 (by omega), h 2 (by omega), h 3 (by omega)]
theorem stN_cong {S T : Nat → Nat → Bool} {F E : Nat → Nat → Int} {t : Nat} (hF : eqF F E t) (h1 : F t 1 ≤ 63) (h3 : F t 3 ≤ 63) (hS : ∀ x y, x < 64 → y < 64 → S x y = T x y) : stN S F t = stN T E t := by
  unfold stN
  rw [← hF 0 (by omega), ← hF 1 (by omega), ← hF 2 (by omega), ← hF 3 (by omega)]
  have e1 : (∃ a c : Nat, F t 0 ≤ a ∧ (a : Int) ≤ F t 1 ∧ F t 2 ≤ c ∧ (c : Int) ≤ F t 3 ∧ S a c = true) ↔ (∃ a c : Nat, F t 0 ≤ a ∧ (a : Int) ≤ F t 1 ∧ F t 2 ≤ c ∧ (c : Int) ≤ F t 3 ∧ T a c = true) := by
    constructor
    · rintro ⟨a, c, q1, q2, q3, q4, q5⟩; exact ⟨a, c, q1, q2, q3, q4, by rw [← hS a c (by omega) (by omega)]; exact q5⟩
    · rintro ⟨a, c, q1, q2, q3, q4, q5⟩; exact ⟨a, c, q1, q2, q3, q4, by rw [hS a c (by omega) (by omega)]; exact q5⟩
  have e2 : (∀ a c : Nat, F t 0 ≤ a → (a : Int) ≤ F t 1 → F t 2 ≤ c → (c : Int) ≤ F t 3 → S a c = true) ↔ (∀ a c : Nat, F t 0 ≤ a → (a : Int) ≤ F t 1 → F t 2 ≤ c → (c : Int) ≤ F t 3 → T a c = true) := by
    constructor
    · intro q a c q1 q2 q3 q4; rw [← hS a c (by omega) (by omega)]; exact q a c q1 q2 q3 q4
    · intro q a c q1 q2 q3 q4; rw [hS a c (by omega) (by omega)]; exact q a c q1 q2 q3 q4
  rw [tf_cong e1, tf_cong e2]
theorem whN_cong {F E : Nat → Nat → Int} {t : Nat} (h : eqF F E t) (w : Int) : whN F t w = whN E t w := by
  unfold whN
  rw [h 0 (by omega), h 1 (by omega), h 2 (by omega), h 3 (by omega)]
theorem lkN_cong {S T : Nat → Nat → Bool} {F E : Nat → Nat → Int} {w : Int} (hF : ∀ t, t < 80 → eqF F E t) (h1 : ∀ t, F t 1 ≤ 63) (h3 : ∀ t, F t 3 ≤ 63) (hS : ∀ x y, x < 64 → y < 64 → S x y = T x y) : ∀ n, lkN S F w n = lkN T E w n
  | 0 => rfl
  | n + 1 => by rw [lkN, lkN, lkN_cong hF h1 h3 hS n, stN_cong (hF (79 - n) (by omega)) (h1 _) (h3 _) hS]
theorem wideP_cong {d : Nat} {P R : Nat → Nat → Prop} (h : ∀ x y, x < 64 → y < 64 → (P x y ↔ R x y)) {x y : Nat} : wideP d P x y ↔ wideP d R x y := by
  constructor
  · rintro ⟨a, c, h1, h2, h3, h4⟩; exact ⟨a, c, h1, h2, h3, (h a c h1.1 h1.2).mp h4⟩
  · rintro ⟨a, c, h1, h2, h3, h4⟩; exact ⟨a, c, h1, h2, h3, (h a c h1.1 h1.2).mpr h4⟩
theorem lev_cong {F E : Nat → Nat → Int} {s : Nat} {C T : Nat → Nat → Bool} {a : Nat} (hC : ∀ x y, x < 64 → y < 64 → C x y = T x y) : ∀ d, (∀ t, t ≤ a + d → eqF F E t) → ∀ k x y, x < 64 → y < 64 → (lev F s C a d k x y ↔ lev E s T a d k x y)
  | 0, hF, k, x, y, hx, hy => by
    show inB F a x y ∧ (C x y = true → 1 ≤ k) ↔ inB E a x y ∧ (T x y = true → 1 ≤ k)
    rw [inB_cong (hF a (by omega)), hC x y hx hy]
  | d + 1, hF, k, x, y, hx, hy => by
    have ih := lev_cong (F := F) (E := E) (s := s) (a := a) hC d (fun t ht => hF t (by omega))
    show inB F (a + d + 1) x y ∧ ((C x y = false ∧ wideP s (lev F s C a d k) x y) ∨ (C x y = true ∧ 1 ≤ k ∧ wideP s (lev F s C a d (k - 1)) x y)) ↔ inB E (a + d + 1) x y ∧ ((T x y = false ∧ wideP s (lev E s T a d k) x y) ∨ (T x y = true ∧ 1 ≤ k ∧ wideP s (lev E s T a d (k - 1)) x y))
    rw [inB_cong (hF (a + d + 1) (by omega)), hC x y hx hy, wideP_cong (fun x y hx hy => ih k x y hx hy), wideP_cong (fun x y hx hy => ih (k - 1) x y hx hy)]
theorem isMin_cong {F E : Nat → Nat → Int} {s : Nat} {C T : Nat → Nat → Bool} {a d n : Nat} (hC : ∀ x y, x < 64 → y < 64 → C x y = T x y) (hF : ∀ t, t ≤ a + d → eqF F E t) (h : isMin F s C a d n) : isMin E s T a d n := by
  obtain ⟨⟨x, y, hx, hy, h1⟩, h2⟩ := h
  exact ⟨⟨x, y, hx, hy, (lev_cong hC d hF n x y hx hy).mp h1⟩, fun k hk x y hx hy h3 => h2 k hk x y hx hy ((lev_cong hC d hF k x y hx hy).mpr h3)⟩
theorem noOut_cong {F E : Nat → Nat → Int} {s : Nat} {C T : Nat → Nat → Bool} {a d : Nat} (hC : ∀ x y, x < 64 → y < 64 → C x y = T x y) (hF : ∀ t, t ≤ a + d → eqF F E t) : noOut F s C a d ↔ noOut E s T a d :=
  ⟨fun h x y hx hy h3 => h x y hx hy ((lev_cong hC d hF 0 x y hx hy).mpr h3), fun h x y hx hy h3 => h x y hx hy ((lev_cong hC d hF 0 x y hx hy).mp h3)⟩
/-- the reference's values -/
theorem sp_wide {w z : Int} {f : Nat → Int} {d x y : Nat} (hx : x < 64) (hy : y < 64) : gd w (spF w f d (64 * x + y)) z ↔ wideP d (fun a c => gd w (f (64 * a + c)) z) x y := by
  rw [spF_gd (by omega)]
  constructor
  · rintro ⟨j, h1, h2, h3, h4⟩
    refine ⟨j / 64, j % 64, ⟨by omega, by omega⟩, ⟨by omega, by omega⟩, ⟨by omega, by omega⟩, ?_⟩
    show gd w (f (64 * (j / 64) + j % 64)) z
    rw [show 64 * (j / 64) + j % 64 = j by omega]
    exact h4
  · rintro ⟨a, c, h1, h2, h3, h4⟩
    exact ⟨64 * a + c, by omega, ⟨by omega, by omega⟩, ⟨by omega, by omega⟩, h4⟩
theorem gd1 {v z : Int} : gd 1 v z ↔ v ≤ z := by unfold gd; rw [if_neg (by omega)]
theorem gd0 {v z : Int} : gd 0 v z ↔ z ≤ v := by unfold gd; rw [if_pos rfl]
theorem kpF_xy {f : Nat → Int} {S : Nat → Nat → Bool} {F : Nat → Nat → Int} {u : Nat} {o kc : Int} {x y : Nat} (hy : y < 64) : kpF f S F u o kc (64 * x + y) = if inB F u x y then (if S x y = true then (if kc = 0 then o else f (64 * x + y) + 1) else f (64 * x + y)) else o := by
  unfold kpF
  rw [show (64 * x + y) / 64 = x by omega, show (64 * x + y) % 64 = y by omega]
theorem kpF_nn {f : Nat → Int} {S : Nat → Nat → Bool} {F : Nat → Nat → Int} {u : Nat} {j : Nat} (h : 0 ≤ f j) : 0 ≤ kpF f S F u 1000 1 j := by
  unfold kpF
  split
  · split
    · split <;> omega
    · omega
  · omega
theorem wv_nn {S : Nat → Nat → Bool} {F : Nat → Nat → Int} {dd a : Nat} : ∀ n j, j < 4096 → 0 ≤ wvF 1 1000 1 S F dd a n j
  | 0, _, _ => Int.le_refl 0
  | 1, _, _ => kpF_nn (Int.le_refl 0)
  | n + 2, j, hj => kpF_nn (spF_bd (y := 1000 + ((n + 1 : Nat) : Int)) (Or.inr rfl) (fun k hk => ⟨wv_nn (n + 1) k hk, (wvF_bd (Or.inr rfl) ⟨by omega, by omega⟩ (n + 1) k hk).2⟩) hj).1
theorem lv_least {S : Nat → Nat → Bool} {F : Nat → Nat → Int} {dd a : Nat} : ∀ d k x y, k ≤ 900 → x < 64 → y < 64 → (lev F dd S a d k x y ↔ wvF 1 1000 1 S F dd a (d + 1) (64 * x + y) ≤ (k : Int))
  | 0, k, x, y, hk, hx, hy => by
    show inB F a x y ∧ (S x y = true → 1 ≤ k) ↔ kpF (fun _ => 0) S F a 1000 1 (64 * x + y) ≤ (k : Int)
    rw [kpF_xy hy]
    by_cases h1 : inB F a x y
    · rw [if_pos h1]
      by_cases h2 : S x y = true
      · rw [if_pos h2, if_neg (by omega)]
        constructor
        · intro h; have := h.2 h2; omega
        · intro h; exact ⟨h1, fun _ => by omega⟩
      · rw [if_neg h2]
        exact ⟨fun _ => by omega, fun _ => ⟨h1, fun z => absurd z h2⟩⟩
    · rw [if_neg h1]
      exact ⟨fun h => absurd h.1 h1, fun h => by omega⟩
  | d + 1, k, x, y, hk, hx, hy => by
    have nn := (spF_bd (w := 1) (f := wvF 1 1000 1 S F dd a (d + 1)) (d := dd) (x := 0) (y := 1000 + ((d + 1 : Nat) : Int)) (Or.inr rfl) (fun k hk => ⟨wv_nn (d + 1) k hk, (wvF_bd (Or.inr rfl) ⟨by omega, by omega⟩ (d + 1) k hk).2⟩) (show 64 * x + y < 4096 by omega)).1
    have sp : ∀ k, k ≤ 900 → (wideP dd (lev F dd S a d k) x y ↔ spF 1 (wvF 1 1000 1 S F dd a (d + 1)) dd (64 * x + y) ≤ (k : Int)) := fun k hk => by
      rw [← gd1, sp_wide hx hy]
      exact wideP_cong (fun x y hx hy => (lv_least d k x y hk hx hy).trans gd1.symm)
    show inB F (a + d + 1) x y ∧ ((S x y = false ∧ wideP dd (lev F dd S a d k) x y) ∨ (S x y = true ∧ 1 ≤ k ∧ wideP dd (lev F dd S a d (k - 1)) x y)) ↔ kpF (spF 1 (wvF 1 1000 1 S F dd a (d + 1)) dd) S F (a + d + 1) 1000 1 (64 * x + y) ≤ (k : Int)
    rw [kpF_xy hy]
    by_cases h1 : inB F (a + d + 1) x y
    · rw [if_pos h1]
      by_cases h2 : S x y = true
      · rw [if_pos h2, if_neg (by omega)]
        constructor
        · rintro ⟨-, ⟨z, -⟩ | ⟨-, z1, z2⟩⟩
          · rw [h2] at z; cases z
          · have := (sp (k - 1) (by omega)).mp z2
            omega
        · intro h
          exact ⟨h1, Or.inr ⟨h2, by omega, (sp (k - 1) (by omega)).mpr (by omega)⟩⟩
      · rw [if_neg h2]
        constructor
        · rintro ⟨-, ⟨-, z⟩ | ⟨z, -⟩⟩
          · exact (sp k hk).mp z
          · exact absurd z h2
        · intro h
          exact ⟨h1, Or.inl ⟨by simpa using h2, (sp k hk).mpr h⟩⟩
    · rw [if_neg h1]
      exact ⟨fun h => absurd h.1 h1, fun h => by omega⟩
theorem lv_ent {S : Nat → Nat → Bool} {F : Nat → Nat → Int} {dd a : Nat} : ∀ d x y, x < 64 → y < 64 → (lev F dd S a d 0 x y ↔ wvF 1 1000 0 S F dd a (d + 1) (64 * x + y) < 1000)
  | 0, x, y, hx, hy => by
    show inB F a x y ∧ (S x y = true → 1 ≤ 0) ↔ kpF (fun _ => 0) S F a 1000 0 (64 * x + y) < 1000
    rw [kpF_xy hy]
    by_cases h1 : inB F a x y
    · rw [if_pos h1]
      by_cases h2 : S x y = true
      · rw [if_pos h2, if_pos rfl]
        constructor
        · intro h; have := h.2 h2; omega
        · intro h; omega
      · rw [if_neg h2]
        exact ⟨fun _ => by omega, fun _ => ⟨h1, fun z => absurd z h2⟩⟩
    · rw [if_neg h1]
      exact ⟨fun h => absurd h.1 h1, fun h => by omega⟩
  | d + 1, x, y, hx, hy => by
    have sp : wideP dd (lev F dd S a d 0) x y ↔ spF 1 (wvF 1 1000 0 S F dd a (d + 1)) dd (64 * x + y) ≤ 999 := by
      rw [← gd1, sp_wide hx hy]
      exact wideP_cong (fun x y hx hy => (lv_ent d x y hx hy).trans (gd1.trans ⟨fun h => by omega, fun h => by omega⟩).symm)
    show inB F (a + d + 1) x y ∧ ((S x y = false ∧ wideP dd (lev F dd S a d 0) x y) ∨ (S x y = true ∧ 1 ≤ 0 ∧ wideP dd (lev F dd S a d (0 - 1)) x y)) ↔ kpF (spF 1 (wvF 1 1000 0 S F dd a (d + 1)) dd) S F (a + d + 1) 1000 0 (64 * x + y) < 1000
    rw [kpF_xy hy]
    by_cases h1 : inB F (a + d + 1) x y
    · rw [if_pos h1]
      by_cases h2 : S x y = true
      · rw [if_pos h2, if_pos rfl]
        constructor
        · rintro ⟨-, ⟨z, -⟩ | ⟨-, z1, z2⟩⟩
          · rw [h2] at z; cases z
          · omega
        · intro h; omega
      · rw [if_neg h2]
        constructor
        · rintro ⟨-, ⟨-, z⟩ | ⟨z, -⟩⟩
          · have := sp.mp z; omega
          · exact absurd z h2
        · intro h
          exact ⟨h1, Or.inl ⟨by simpa using h2, sp.mpr (by omega)⟩⟩
    · rw [if_neg h1]
      exact ⟨fun h => absurd h.1 h1, fun h => by omega⟩
theorem kpF_up {f : Nat → Int} {S : Nat → Nat → Bool} {F : Nat → Nat → Int} {u : Nat} {j : Nat} {n : Int} (h : f j ≤ n) (hn : 0 ≤ n) : kpF f S F u (-1000) 1 j ≤ n + 1 := by
  unfold kpF
  split
  · split
    · split <;> omega
    · omega
  · omega
theorem wv_up {S : Nat → Nat → Bool} {F : Nat → Nat → Int} {dd a : Nat} : ∀ n j, j < 4096 → wvF 0 (-1000) 1 S F dd a n j ≤ n
  | 0, _, _ => Int.le_refl 0
  | 1, j, _ => by
    have := kpF_up (f := fun _ => 0) (S := S) (F := F) (u := a) (j := j) (Int.le_refl 0) (Int.le_refl 0)
    rw [wvF]
    omega
  | n + 2, j, hj => by
    have h1 := (spF_bd (w := 0) (f := wvF 0 (-1000) 1 S F dd a (n + 1)) (d := dd) (x := -1000) (y := ((n + 1 : Nat) : Int)) (Or.inl rfl) (fun k hk => ⟨(wvF_bd (Or.inl rfl) ⟨by omega, by omega⟩ (n + 1) k hk).1, wv_up (n + 1) k hk⟩) hj).2
    have := kpF_up (S := S) (F := F) (u := a + (n + 1)) h1 (by omega)
    rw [wvF]
    omega
theorem lv_most {S : Nat → Nat → Bool} {F : Nat → Nat → Int} {dd a : Nat} : ∀ d k x y, k ≤ 900 → x < 64 → y < 64 → (lev F dd (fun x y => !S x y) a d k x y ↔ (d : Int) + 1 - k ≤ wvF 0 (-1000) 1 S F dd a (d + 1) (64 * x + y))
  | 0, k, x, y, hk, hx, hy => by
    show inB F a x y ∧ ((!S x y) = true → 1 ≤ k) ↔ ((0 : Nat) : Int) + 1 - k ≤ kpF (fun _ => 0) S F a (-1000) 1 (64 * x + y)
    rw [kpF_xy hy]
    by_cases h1 : inB F a x y
    · rw [if_pos h1]
      by_cases h2 : S x y = true
      · rw [if_pos h2, if_neg (by omega)]
        exact ⟨fun _ => by omega, fun _ => ⟨h1, fun z => by rw [h2] at z; cases z⟩⟩
      · rw [if_neg h2]
        constructor
        · intro h; have := h.2 (by simpa using h2); omega
        · intro h; exact ⟨h1, fun _ => by omega⟩
    · rw [if_neg h1]
      exact ⟨fun h => absurd h.1 h1, fun h => by omega⟩
  | d + 1, k, x, y, hk, hx, hy => by
    have up := (spF_bd (w := 0) (f := wvF 0 (-1000) 1 S F dd a (d + 1)) (d := dd) (x := -1000) (y := ((d + 1 : Nat) : Int)) (Or.inl rfl) (fun k hk => ⟨(wvF_bd (Or.inl rfl) ⟨by omega, by omega⟩ (d + 1) k hk).1, wv_up (d + 1) k hk⟩) (show 64 * x + y < 4096 by omega)).2
    have sp : ∀ k, k ≤ 900 → (wideP dd (lev F dd (fun x y => !S x y) a d k) x y ↔ (d : Int) + 1 - k ≤ spF 0 (wvF 0 (-1000) 1 S F dd a (d + 1)) dd (64 * x + y)) := fun k hk => by
      rw [← gd0, sp_wide hx hy]
      exact wideP_cong (fun x y hx hy => (lv_most d k x y hk hx hy).trans gd0.symm)
    show inB F (a + d + 1) x y ∧ (((!S x y) = false ∧ wideP dd (lev F dd (fun x y => !S x y) a d k) x y) ∨ ((!S x y) = true ∧ 1 ≤ k ∧ wideP dd (lev F dd (fun x y => !S x y) a d (k - 1)) x y)) ↔ ((d + 1 : Nat) : Int) + 1 - k ≤ kpF (spF 0 (wvF 0 (-1000) 1 S F dd a (d + 1)) dd) S F (a + d + 1) (-1000) 1 (64 * x + y)
    rw [kpF_xy hy]
    by_cases h1 : inB F (a + d + 1) x y
    · rw [if_pos h1]
      by_cases h2 : S x y = true
      · rw [if_pos h2, if_neg (by omega)]
        constructor
        · rintro ⟨-, ⟨-, z⟩ | ⟨z, -⟩⟩
          · have := (sp k hk).mp z; omega
          · rw [h2] at z; cases z
        · intro h
          exact ⟨h1, Or.inl ⟨by rw [h2]; rfl, (sp k hk).mpr (by omega)⟩⟩
      · rw [if_neg h2]
        constructor
        · rintro ⟨-, ⟨z, -⟩ | ⟨-, z1, z2⟩⟩
          · exact absurd (by simpa using z) h2
          · have := (sp (k - 1) (by omega)).mp z2
            omega
        · intro h
          exact ⟨h1, Or.inr ⟨by simpa using h2, by omega, (sp (k - 1) (by omega)).mpr (by omega)⟩⟩
    · rw [if_neg h1]
      exact ⟨fun h => absurd h.1 h1, fun h => by omega⟩
theorem btF_gd {w o z : Int} {f : Nat → Int} : ∀ n, gd w (btF w f o n) z ↔ gd w o z ∨ ∃ j, j < n ∧ gd w (f j) z
  | 0 => ⟨Or.inl, fun h => h.elim id (fun ⟨j, h1, _⟩ => absurd h1 (Nat.not_lt_zero j))⟩
  | n + 1 => by
    rw [btF, bst_gd, btF_gd n]
    constructor
    · rintro ((h | ⟨j, h1, h2⟩) | h)
      · exact Or.inl h
      · exact Or.inr ⟨j, by omega, h2⟩
      · exact Or.inr ⟨n, by omega, h⟩
    · rintro (h | ⟨j, h1, h2⟩)
      · exact Or.inl (Or.inl h)
      · by_cases e : j = n
        · subst e; exact Or.inr h2
        · exact Or.inl (Or.inr ⟨j, by omega, h2⟩)
theorem stay_least {S : Nat → Nat → Bool} {F : Nat → Nat → Int} {dd a d z : Nat} (h : isMin F dd S a d z) (hz : z ≤ 80) : btF 1 (wvF 1 1000 1 S F dd a (d + 1)) 1000 4096 = z := by
  obtain ⟨⟨x, y, hx, hy, h1⟩, h2⟩ := h
  have e : ∀ c, btF 1 (wvF 1 1000 1 S F dd a (d + 1)) 1000 4096 ≤ c ↔ 1000 ≤ c ∨ ∃ j, j < 4096 ∧ wvF 1 1000 1 S F dd a (d + 1) j ≤ c := fun c => by
    have := btF_gd (w := 1) (o := 1000) (z := c) (f := wvF 1 1000 1 S F dd a (d + 1)) 4096
    simp only [gd1] at this
    exact this
  have u1 := (e z).mpr (Or.inr ⟨64 * x + y, by omega, (lv_least d z x y (by omega) hx hy).mp h1⟩)
  rcases Int.lt_or_le (btF 1 (wvF 1 1000 1 S F dd a (d + 1)) 1000 4096) z with q | q
  · rcases (e (z - 1)).mp (by omega) with g | ⟨j, g1, g2⟩
    · omega
    · have n0 := wv_nn (S := S) (F := F) (dd := dd) (a := a) (d + 1) j g1
      refine absurd ((lv_least d (z - 1) (j / 64) (j % 64) (by omega) (by omega) (by omega)).mpr ?_) (h2 (z - 1) (by omega) (j / 64) (j % 64) (by omega) (by omega))
      rw [show 64 * (j / 64) + j % 64 = j by omega]
      omega
  · omega
theorem stay_most {S : Nat → Nat → Bool} {F : Nat → Nat → Int} {dd a d z : Nat} (h : isMin F dd (fun x y => !S x y) a d z) (hz : z ≤ 80) : btF 0 (wvF 0 (-1000) 1 S F dd a (d + 1)) (-1000) 4096 = (d : Int) + 1 - z := by
  obtain ⟨⟨x, y, hx, hy, h1⟩, h2⟩ := h
  have e : ∀ c, c ≤ btF 0 (wvF 0 (-1000) 1 S F dd a (d + 1)) (-1000) 4096 ↔ c ≤ -1000 ∨ ∃ j, j < 4096 ∧ c ≤ wvF 0 (-1000) 1 S F dd a (d + 1) j := fun c => by
    have := btF_gd (w := 0) (o := -1000) (z := c) (f := wvF 0 (-1000) 1 S F dd a (d + 1)) 4096
    simp only [gd0] at this
    exact this
  have u1 := (e ((d : Int) + 1 - z)).mpr (Or.inr ⟨64 * x + y, by omega, (lv_most d z x y (by omega) hx hy).mp h1⟩)
  rcases Int.lt_or_le ((d : Int) + 1 - z) (btF 0 (wvF 0 (-1000) 1 S F dd a (d + 1)) (-1000) 4096) with q | q
  · rcases (e ((d : Int) + 1 - z + 1)).mp (by omega) with g | ⟨j, g1, g2⟩
    · omega
    · have n0 := wv_up (S := S) (F := F) (dd := dd) (a := a) (d + 1) j g1
      refine absurd ((lv_most d (z - 1) (j / 64) (j % 64) (by omega) (by omega) (by omega)).mpr ?_) (h2 (z - 1) (by omega) (j / 64) (j % 64) (by omega) (by omega))
      rw [show 64 * (j / 64) + j % 64 = j by omega]
      omega
  · omega
theorem ent_eq {S : Nat → Nat → Bool} {F : Nat → Nat → Int} {dd a d : Nat} : noOut F dd S a d ↔ ∀ j, j < 4096 → ¬ wvF 1 1000 0 S F dd a (d + 1) j < 1000 := by
  constructor
  · intro h j hj h1
    refine h (j / 64) (j % 64) (by omega) (by omega) ((lv_ent d _ _ (by omega) (by omega)).mpr ?_)
    rw [show 64 * (j / 64) + j % 64 = j by omega]
    exact h1
  · intro h x y hx hy h1
    exact h (64 * x + y) (by omega) ((lv_ent d x y hx hy).mp h1)
/-- drawing -/
theorem ctn_add (q : Nat → Bool) (n : Nat) : ∀ m, ctn q (n + m) = ctn q n + ctn (fun k => q (n + k)) m
  | 0 => rfl
  | m + 1 => by
    rw [show n + (m + 1) = n + m + 1 by omega, ctn, ctn, ctn_add q n m]
    omega
theorem ctn_rows (q : Nat → Bool) : ∀ n, ctn q (64 * n) = ct2 (fun x y => q (64 * x + y)) n
  | 0 => rfl
  | n + 1 => by rw [show 64 * (n + 1) = 64 * n + 64 by omega, ctn_add, ctn_rows q n, ct2]
theorem ct2_cong {S T : Nat → Nat → Bool} : ∀ n, (∀ x y, x < n → y < 64 → S x y = T x y) → ct2 S n = ct2 T n
  | 0, _ => rfl
  | n + 1, h => by rw [ct2, ct2, ct2_cong n (fun x y hx hy => h x y (by omega) hy), ctn_cong (fun i hi => h n i (by omega) hi)]
theorem dr_eq {gz : Nat → Bool} {S : Nat → Nat → Bool} {t u v w : Int} {wb : Bool} (hw : w = if wb = true then 1 else 0) (ht : 0 ≤ t) (hS : ∀ x y, x < 64 → y < 64 → S x y = gS gz t.toNat x y) : ∀ x y, x < 64 → y < 64 → drN S u v w x y = gS (dz gz t u v wb 4096) t.toNat x y := by
  intro x y hx hy
  have e1 : ((4096 * t.toNat + 64 * x + y : Nat) : Int) - 4096 * t = 64 * x + y := by omega
  have e2 : ((64 : Int) * x + y) / 64 = x := by omega
  have e3 : ((64 : Int) * x + y) % 64 = y := by omega
  show drN S u v w x y = dz gz t u v wb 4096 (4096 * t.toNat + 64 * x + y)
  unfold drN dz
  rw [e1, e2, e3]
  have hs : S x y = gz (4096 * t.toNat + 64 * x + y) := hS x y hx hy
  have hw0 : wb = false → w = 0 := fun h => by rw [hw, h]; rfl
  have hw1 : wb = true → ¬ w = 0 := fun h => by rw [hw, h]; decide
  by_cases h1 : u / 64 ≤ (x : Int) ∧ (x : Int) ≤ v / 64
  · rw [if_pos h1]
    by_cases h2 : u % 64 ≤ (y : Int) ∧ (y : Int) ≤ v % 64
    · have hp : (4096 * t ≤ ((4096 * t.toNat + 64 * x + y : Nat) : Int) ∧ ((4096 * t.toNat + 64 * x + y : Nat) : Int) < 4096 * t + 4096 ∧ (u / 64 ≤ (x : Int) ∧ (x : Int) ≤ v / 64) ∧ (u % 64 ≤ (y : Int) ∧ (y : Int) ≤ v % 64)) := ⟨by omega, by omega, h1, h2⟩
      rw [if_pos hp, decide_eq_true h2]
      cases wb with
      | false => rw [if_pos (hw0 rfl)]; simp
      | true => rw [if_neg (hw1 rfl)]; simp
    · have hn : ¬ (4096 * t ≤ ((4096 * t.toNat + 64 * x + y : Nat) : Int) ∧ ((4096 * t.toNat + 64 * x + y : Nat) : Int) < 4096 * t + 4096 ∧ (u / 64 ≤ (x : Int) ∧ (x : Int) ≤ v / 64) ∧ (u % 64 ≤ (y : Int) ∧ (y : Int) ≤ v % 64)) := fun z => h2 z.2.2.2
      rw [if_neg hn, decide_eq_false h2, hs]
      split <;> simp
  · have hn : ¬ (4096 * t ≤ ((4096 * t.toNat + 64 * x + y : Nat) : Int) ∧ ((4096 * t.toNat + 64 * x + y : Nat) : Int) < 4096 * t + 4096 ∧ (u / 64 ≤ (x : Int) ∧ (x : Int) ≤ v / 64) ∧ (u % 64 ≤ (y : Int) ∧ (y : Int) ≤ v % 64)) := fun z => h1 z.2.2.1
    rw [if_neg h1, if_neg hn]
    exact hs
theorem dz_out {gz : Nat → Bool} {t u v : Int} {wb : Bool} {k : Nat} (h : (k : Int) < 4096 * t ∨ 4096 * t + 4096 ≤ (k : Int)) : dz gz t u v wb 4096 k = gz k := by
  unfold dz
  rw [if_neg (by omega)]
theorem dr_ct {gz : Nat → Bool} {S : Nat → Nat → Bool} {t u v w : Int} {wb : Bool} (hw : w = if wb = true then 1 else 0) (ht : 0 ≤ t) (hS : ∀ x y, x < 64 → y < 64 → S x y = gS gz t.toNat x y) : ct2 (drN S u v w) 64 = ctn (fun k => dz gz t u v wb 4096 (4096 * t.toNat + k)) 4096 := by
  rw [show (4096 : Nat) = 64 * 64 by rfl, ctn_rows]
  refine ct2_cong 64 (fun x y hx hy => ?_)
  rw [dr_eq hw ht hS x y hx hy]
  show dz gz t u v wb 4096 (4096 * t.toNat + 64 * x + y) = dz gz t u v wb 4096 (4096 * t.toNat + (64 * x + y))
  rw [Nat.add_assoc]
