/-- one bound of one axis: the passes of settle, and their closed form -/
def si1 (β : Int) (v tk : Nat → Int) : Nat → Nat → Int
  | 0 => fun _ => β
  | n + 1 => va_up (si1 β v tk n) (tk n).toNat (max (si1 β v tk n (tk n).toNat) (v n))
def fw1 (s : Int) (f : Nat → Int) : Nat → Nat → Int
  | 0 => f
  | i + 1 => va_up (fw1 s f i) (i + 1) (max (fw1 s f i (i + 1)) (fw1 s f i i - s))
def bw1 (s : Int) (f : Nat → Int) : Nat → Nat → Int
  | 0 => f
  | i + 1 => va_up (bw1 s f i) (78 - i) (max (bw1 s f i (78 - i)) (bw1 s f i (78 - i + 1) - s))
def dst (t u : Int) : Int := if t < u then u - t else t - u
def mxF (β : Int) (v tk : Nat → Int) (s : Int) : Nat → Int → Int
  | 0, _ => β
  | n + 1, t => max (mxF β v tk s n t) (v n - s * dst t (tk n))
theorem mxF_le (β : Int) (v tk : Nat → Int) (s t c : Int) : ∀ n, mxF β v tk s n t ≤ c ↔ β ≤ c ∧ ∀ k, k < n → v k - s * dst t (tk k) ≤ c
  | 0 => ⟨fun h => ⟨h, fun k hk => absurd hk (Nat.not_lt_zero k)⟩, fun h => h.1⟩
  | n + 1 => by
    rw [mxF]
    have ih := mxF_le β v tk s t c n
    constructor
    · intro h
      have h1 := ih.mp (by omega)
      refine ⟨h1.1, fun k hk => ?_⟩
      rcases Nat.lt_or_ge k n with q | q
      · exact h1.2 k q
      · rw [show k = n by omega]; omega
    · rintro ⟨h1, h2⟩
      have h3 := ih.mpr ⟨h1, fun k hk => h2 k (by omega)⟩
      have h4 := h2 n (by omega)
      omega
theorem si1_le (β : Int) (v tk : Nat → Int) (t : Nat) (c : Int) : ∀ n, si1 β v tk n t ≤ c ↔ β ≤ c ∧ ∀ k, k < n → (tk k).toNat = t → v k ≤ c
  | 0 => ⟨fun h => ⟨h, fun k hk => absurd hk (Nat.not_lt_zero k)⟩, fun h => h.1⟩
  | n + 1 => by
    rw [si1]
    have ih := si1_le β v tk t c n
    by_cases g : t = (tk n).toNat
    · rw [← g, va_up_self]
      constructor
      · intro h
        have h1 := ih.mp (by omega)
        refine ⟨h1.1, fun k hk hkt => ?_⟩
        rcases Nat.lt_or_ge k n with q | q
        · exact h1.2 k q hkt
        · rw [show k = n by omega]; omega
      · rintro ⟨h1, h2⟩
        have h3 := ih.mpr ⟨h1, fun k hk => h2 k (by omega)⟩
        have h4 := h2 n (by omega) g.symm
        omega
    · rw [va_up_ne _ _ g, ih]
      constructor
      · rintro ⟨h1, h2⟩
        refine ⟨h1, fun k hk hkt => ?_⟩
        rcases Nat.lt_or_ge k n with q | q
        · exact h2 k q hkt
        · rw [show k = n by omega] at hkt; exact absurd hkt.symm g
      · rintro ⟨h1, h2⟩
        exact ⟨h1, fun k hk => h2 k (by omega)⟩
theorem fw1_ge {s : Int} {f : Nat → Int} : ∀ i t, i < t → fw1 s f i t = f t
  | 0, _, _ => rfl
  | i + 1, t, h => by rw [fw1, va_up_ne _ _ (by omega)]; exact fw1_ge i t (by omega)
theorem fw1_le {s : Int} {f : Nat → Int} : ∀ i t c, t ≤ i → (fw1 s f i t ≤ c ↔ ∀ u : Nat, u ≤ t → f u - s * ((t : Int) - u) ≤ c)
  | 0, t, c, h => by
    have ht : t = 0 := by omega
    subst ht
    constructor
    · intro h1 u hu
      have : u = 0 := by omega
      subst this
      show f 0 - s * (0 - 0) ≤ c
      rw [Int.sub_self, Int.mul_zero]
      have : fw1 s f 0 0 = f 0 := rfl
      omega
    · intro h1
      have := h1 0 (by omega)
      rw [Int.sub_self, Int.mul_zero] at this
      have e : fw1 s f 0 0 = f 0 := rfl
      omega
  | i + 1, t, c, h => by
    rcases Nat.lt_or_ge i t with q | q
    · have ht : t = i + 1 := by omega
      subst ht
      rw [fw1, va_up_self, fw1_ge i (i + 1) (by omega)]
      have ih := fw1_le (s := s) (f := f) i i (c + s) (Nat.le_refl i)
      have e : ∀ u : Nat, s * (((i + 1 : Nat) : Int) - u) = s * ((i : Int) - u) + s := fun u => by
        rw [show ((i + 1 : Nat) : Int) - u = ((i : Int) - u) + 1 by omega, Int.mul_add, Int.mul_one]
      constructor
      · intro h1 u hu
        rcases Nat.lt_or_ge i u with w | w
        · rw [show u = i + 1 by omega, Int.sub_self, Int.mul_zero]; omega
        · have := ih.mp (by omega) u w
          rw [e u]; omega
      · intro h1
        have h2 := h1 (i + 1) (by omega)
        rw [Int.sub_self, Int.mul_zero] at h2
        have h3 := ih.mpr (fun u hu => by have := h1 u (by omega); rw [e u] at this; omega)
        omega
    · rw [fw1, va_up_ne _ _ (by omega)]
      exact fw1_le i t c q
theorem bw1_lt {s : Int} {f : Nat → Int} : ∀ i t, i ≤ 79 → t < 79 - i → bw1 s f i t = f t
  | 0, _, _, _ => rfl
  | i + 1, t, h0, h => by rw [bw1, va_up_ne _ _ (by omega)]; exact bw1_lt i t (by omega) (by omega)
theorem bw1_le {s : Int} {f : Nat → Int} : ∀ i t c, i ≤ 79 → 79 - i ≤ t → t ≤ 79 → (bw1 s f i t ≤ c ↔ ∀ u : Nat, t ≤ u → u ≤ 79 → f u - s * ((u : Int) - t) ≤ c)
  | 0, t, c, _, h, h2 => by
    have ht : t = 79 := by omega
    subst ht
    have e : bw1 s f 0 79 = f 79 := rfl
    constructor
    · intro h1 u hu hu2
      rw [show u = 79 by omega, Int.sub_self, Int.mul_zero]; omega
    · intro h1
      have := h1 79 (by omega) (by omega)
      rw [Int.sub_self, Int.mul_zero] at this
      omega
  | i + 1, t, c, h0, h, h2 => by
    by_cases q : t = 78 - i
    · have ih := bw1_le (s := s) (f := f) i (t + 1) (c + s) (by omega) (by omega) (by omega)
      rw [bw1, ← q, va_up_self, bw1_lt i t (by omega) (by omega)]
      have e : ∀ u : Nat, s * ((u : Int) - t) = s * ((u : Int) - (t + 1 : Nat)) + s := fun u => by
        rw [show (u : Int) - t = ((u : Int) - (t + 1 : Nat)) + 1 by omega, Int.mul_add, Int.mul_one]
      constructor
      · intro h1 u hu hu2
        rcases Nat.lt_or_ge t u with w | w
        · have := ih.mp (by omega) u (by omega) hu2
          rw [e u]; omega
        · rw [show u = t by omega, Int.sub_self, Int.mul_zero]; omega
      · intro h1
        have h3 := h1 t (by omega) (by omega)
        rw [Int.sub_self, Int.mul_zero] at h3
        have h4 := ih.mpr (fun u hu hu2 => by have := h1 u (by omega) hu2; rw [e u] at this; omega)
        omega
    · rw [bw1, va_up_ne _ _ q]
      exact bw1_le i t c (by omega) (by omega) h2
theorem st1_eq {β s : Int} {v tk : Nat → Int} {n : Nat} (hs : 0 ≤ s) (hk : ∀ k, k < n → 0 ≤ tk k ∧ tk k < 80) {t : Nat} (ht : t < 80) : bw1 s (fw1 s (si1 β v tk n) 79) 79 t = mxF β v tk s n t := by
  have key : ∀ c, bw1 s (fw1 s (si1 β v tk n) 79) 79 t ≤ c ↔ mxF β v tk s n t ≤ c := by
    intro c
    rw [bw1_le 79 t c (by omega) (by omega) (by omega), mxF_le]
    constructor
    · intro h
      have h0 := h t (by omega) (by omega)
      rw [Int.sub_self, Int.mul_zero] at h0
      have h1 := (fw1_le (s := s) (f := si1 β v tk n) 79 t c (by omega)).mp (by omega)
      have h2 := h1 t (by omega)
      rw [Int.sub_self, Int.mul_zero] at h2
      have h3 := (si1_le β v tk t c n).mp (by omega)
      refine ⟨h3.1, fun k hkn => ?_⟩
      obtain ⟨k0, k1⟩ := hk k hkn
      unfold dst
      by_cases g : (t : Int) < tk k
      · rw [if_pos g]
        have h4 := h (tk k).toNat (by omega) (by omega)
        have h5 := (fw1_le (s := s) (f := si1 β v tk n) 79 (tk k).toNat (c + s * (((tk k).toNat : Int) - t)) (by omega)).mp (by omega) (tk k).toNat (by omega)
        rw [Int.sub_self, Int.mul_zero] at h5
        have h6 := ((si1_le β v tk (tk k).toNat (c + s * (((tk k).toNat : Int) - t)) n).mp (by omega)).2 k hkn rfl
        rw [show ((tk k).toNat : Int) = tk k by omega] at h6
        omega
      · rw [if_neg g]
        have h4 := h1 (tk k).toNat (by omega)
        have h6 := ((si1_le β v tk (tk k).toNat (c + s * ((t : Int) - ((tk k).toNat : Int))) n).mp (by omega)).2 k hkn rfl
        rw [show ((tk k).toNat : Int) = tk k by omega] at h6
        omega
    · rintro ⟨h1, h2⟩ u hu hu2
      have hz : 0 ≤ s * ((u : Int) - t) := Int.mul_nonneg hs (by omega)
      have : fw1 s (si1 β v tk n) 79 u ≤ c + s * ((u : Int) - t) := by
        refine (fw1_le 79 u _ (by omega)).mpr (fun w hw => ?_)
        have hz2 : 0 ≤ s * ((u : Int) - w) := Int.mul_nonneg hs (by omega)
        have : si1 β v tk n w ≤ c + s * ((u : Int) - t) + s * ((u : Int) - w) := by
          refine (si1_le β v tk w _ n).mpr ⟨by omega, fun k hkn hkw => ?_⟩
          have h3 := h2 k hkn
          obtain ⟨k0, k1⟩ := hk k hkn
          have hw2 : tk k = (w : Int) := by omega
          rw [hw2] at h3
          have h4 : s * dst t w ≤ s * ((u : Int) - t) + s * ((u : Int) - w) := by
            rw [← Int.mul_add]
            refine Int.mul_le_mul_of_nonneg_left ?_ hs
            unfold dst
            split <;> omega
          omega
        omega
      omega
  have a1 := (key _).mp (Int.le_refl _)
  have a2 := (key _).mpr (Int.le_refl _)
  omega

theorem q4_0 (a b c d : Int) : q4 a b c d 0 = a := rfl
theorem q4_1 (a b c d : Int) : q4 a b c d 1 = b := rfl
theorem q4_2 (a b c d : Int) : q4 a b c d 2 = c := rfl
theorem q4_3 (a b c d : Int) : q4 a b c d 3 = d := rfl
theorem siF_1 (vt vw vr : Nat → Int) (t : Nat) : ∀ n, siF vt vw vr n t 0 = si1 0 (fun k => vw k / 64 - vr k) vt n t ∧ siF vt vw vr n t 1 = - si1 (-63) (fun k => -(vw k / 64 + vr k)) vt n t ∧ siF vt vw vr n t 2 = si1 0 (fun k => vw k % 64 - vr k) vt n t ∧ siF vt vw vr n t 3 = - si1 (-63) (fun k => -(vw k % 64 + vr k)) vt n t
  | 0 => ⟨rfl, rfl, rfl, rfl⟩
  | n + 1 => by
    have ih := siF_1 vt vw vr t n
    rw [siF, si1, si1, si1, si1]
    by_cases g : t = (vt n).toNat
    · rw [← g, va_up_self, va_up_self, va_up_self, va_up_self, va_up_self, arF, q4_0, q4_1, q4_2, q4_3]
      omega
    · rw [va_up_ne _ _ g, va_up_ne _ _ g, va_up_ne _ _ g, va_up_ne _ _ g, va_up_ne _ _ g]
      exact ih
theorem fwF_1 (s : Int) (F : Nat → Nat → Int) : ∀ i t, fwF s F i t 0 = fw1 s (fun t => F t 0) i t ∧ fwF s F i t 1 = - fw1 s (fun t => - F t 1) i t ∧ fwF s F i t 2 = fw1 s (fun t => F t 2) i t ∧ fwF s F i t 3 = - fw1 s (fun t => - F t 3) i t
  | 0, t => ⟨rfl, (Int.neg_neg _).symm, rfl, (Int.neg_neg _).symm⟩
  | i + 1, t => by
    have ih := fwF_1 s F i t
    have ih2 := fwF_1 s F i i
    rw [fwF, fw1, fw1, fw1, fw1]
    by_cases g : t = i + 1
    · subst g
      rw [va_up_self, va_up_self, va_up_self, va_up_self, va_up_self, neF, q4_0, q4_1, q4_2, q4_3]
      omega
    · rw [va_up_ne _ _ g, va_up_ne _ _ g, va_up_ne _ _ g, va_up_ne _ _ g, va_up_ne _ _ g]
      exact ih
theorem bwF_1 (s : Int) (F : Nat → Nat → Int) : ∀ i t, bwF s F i t 0 = bw1 s (fun t => F t 0) i t ∧ bwF s F i t 1 = - bw1 s (fun t => - F t 1) i t ∧ bwF s F i t 2 = bw1 s (fun t => F t 2) i t ∧ bwF s F i t 3 = - bw1 s (fun t => - F t 3) i t
  | 0, t => ⟨rfl, (Int.neg_neg _).symm, rfl, (Int.neg_neg _).symm⟩
  | i + 1, t => by
    have ih := bwF_1 s F i t
    have ih2 := bwF_1 s F i (78 - i + 1)
    rw [bwF, bw1, bw1, bw1, bw1]
    by_cases g : t = 78 - i
    · subst g
      rw [va_up_self, va_up_self, va_up_self, va_up_self, va_up_self, neF, q4_0, q4_1, q4_2, q4_3]
      omega
    · rw [va_up_ne _ _ g, va_up_ne _ _ g, va_up_ne _ _ g, va_up_ne _ _ g, va_up_ne _ _ g]
      exact ih
/-- WHERE A THING CAN BE, closed: what the reference computes -/
theorem stF_eq {s : Int} {vt vw vr : Nat → Int} {n : Nat} (hs : 0 ≤ s) (hk : ∀ k, k < n → 0 ≤ vt k ∧ vt k < 80) {t : Nat} (ht : t < 80) : stF s vt vw vr n t 0 = mxF 0 (fun k => vw k / 64 - vr k) vt s n t ∧ stF s vt vw vr n t 1 = - mxF (-63) (fun k => -(vw k / 64 + vr k)) vt s n t ∧ stF s vt vw vr n t 2 = mxF 0 (fun k => vw k % 64 - vr k) vt s n t ∧ stF s vt vw vr n t 3 = - mxF (-63) (fun k => -(vw k % 64 + vr k)) vt s n t := by
  have a := fun t => siF_1 vt vw vr t n
  have b := fun t => fwF_1 s (siF vt vw vr n) 79 t
  have c := bwF_1 s (fwF s (siF vt vw vr n) 79) 79 t
  have e0 : (fun t => siF vt vw vr n t 0) = si1 0 (fun k => vw k / 64 - vr k) vt n := funext fun t => (a t).1
  have e1 : (fun t => - siF vt vw vr n t 1) = si1 (-63) (fun k => -(vw k / 64 + vr k)) vt n := funext fun t => by rw [(a t).2.1, Int.neg_neg]
  have e2 : (fun t => siF vt vw vr n t 2) = si1 0 (fun k => vw k % 64 - vr k) vt n := funext fun t => (a t).2.2.1
  have e3 : (fun t => - siF vt vw vr n t 3) = si1 (-63) (fun k => -(vw k % 64 + vr k)) vt n := funext fun t => by rw [(a t).2.2.2, Int.neg_neg]
  rw [e0, e1, e2, e3] at b
  have f0 : (fun t => fwF s (siF vt vw vr n) 79 t 0) = fw1 s (si1 0 (fun k => vw k / 64 - vr k) vt n) 79 := funext fun t => (b t).1
  have f1 : (fun t => - fwF s (siF vt vw vr n) 79 t 1) = fw1 s (si1 (-63) (fun k => -(vw k / 64 + vr k)) vt n) 79 := funext fun t => by rw [(b t).2.1, Int.neg_neg]
  have f2 : (fun t => fwF s (siF vt vw vr n) 79 t 2) = fw1 s (si1 0 (fun k => vw k % 64 - vr k) vt n) 79 := funext fun t => (b t).2.2.1
  have f3 : (fun t => - fwF s (siF vt vw vr n) 79 t 3) = fw1 s (si1 (-63) (fun k => -(vw k % 64 + vr k)) vt n) 79 := funext fun t => by rw [(b t).2.2.2, Int.neg_neg]
  rw [f0, f1, f2, f3] at c
  unfold stF
  rw [c.1, c.2.1, c.2.2.1, c.2.2.2, st1_eq hs hk ht, st1_eq hs hk ht, st1_eq hs hk ht, st1_eq hs hk ht]
  exact ⟨rfl, rfl, rfl, rfl⟩
theorem mxF_mono {β s t : Int} {v tk : Nat → Int} {n : Nat} : mxF β v tk s n t ≤ mxF β v tk s (n + 1) t := by rw [mxF]; omega
theorem neDrop {s n : Int} {vt vw vr : Nat → Int} (hs : 0 ≤ s) (so : sOk n vt vw vr) (hn : 0 ≤ n) (hn1 : 0 < n) (h : ∀ t, t < 80 → neB (stF s vt vw vr n.toNat) t) : ∀ t, t < 80 → neB (stF s vt vw vr (n - 1).toNat) t := by
  intro t ht
  have h1 := h t ht
  have e := stF_eq (s := s) (vt := vt) (vw := vw) (vr := vr) (n := n.toNat) hs (fun k hk => (so k (by omega)).1) ht
  have e2 := stF_eq (s := s) (vt := vt) (vw := vw) (vr := vr) (n := (n - 1).toNat) hs (fun k hk => (so k (by omega)).1) ht
  have hz : n.toNat = (n - 1).toNat + 1 := by omega
  obtain ⟨g1, g2⟩ := h1
  rw [e.1, e.2.1] at g1
  rw [e.2.2.1, e.2.2.2] at g2
  rw [hz] at g1 g2
  have m1 := mxF_mono (β := 0) (s := s) (t := t) (v := fun k => vw k / 64 - vr k) (tk := vt) (n := (n - 1).toNat)
  have m2 := mxF_mono (β := -63) (s := s) (t := t) (v := fun k => -(vw k / 64 + vr k)) (tk := vt) (n := (n - 1).toNat)
  have m3 := mxF_mono (β := 0) (s := s) (t := t) (v := fun k => vw k % 64 - vr k) (tk := vt) (n := (n - 1).toNat)
  have m4 := mxF_mono (β := -63) (s := s) (t := t) (v := fun k => -(vw k % 64 + vr k)) (tk := vt) (n := (n - 1).toNat)
  refine ⟨?_, ?_⟩
  · rw [e2.1, e2.2.1]; omega
  · rw [e2.2.2.1, e2.2.2.2]; omega

