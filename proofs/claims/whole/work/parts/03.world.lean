/-! MY OWN WORLD: a map from addresses to cells; every contract takes any map that holds, and says which map holds afterwards -/
def iI (z : Int) : Int32 := Int32.ofInt z
abbrev rg (z : Int) : Prop := -2147483648 ≤ z ∧ z < 2147483648
theorem iI_add (a b : Int) : iI (a + b) = iI a + iI b := Int32.ofInt_add a b
theorem iI_mul (a b : Int) : iI (a * b) = iI a * iI b := Int32.ofInt_mul a b
theorem iI_sub (a b : Int) : iI (a - b) = iI a - iI b := Int32.ofInt_sub a b
theorem iI_neg (a : Int) : iI (-a) = -iI a := Int32.ofInt_neg a
theorem iI_bmod {z : Int} (h : rg z) : z.bmod (2 ^ 32) = z := by
  have h1 := h.1
  have h2 := h.2
  rw [Int.bmod_def]
  split <;> omega
theorem iI_int {z : Int} (h : rg z) : (iI z).toInt = z := by
  show (Int32.ofInt z).toInt = z
  rw [Int32.toInt_ofInt]
  exact iI_bmod h
theorem iI_of (x : Int32) : iI x.toInt = x := Int32.ofInt_toInt x
theorem rg_of (x : Int32) : rg x.toInt := ⟨Int32.le_toInt x, Int32.toInt_lt x⟩
theorem iI_ex (x : Int32) : ∃ z : Int, rg z ∧ x = iI z := ⟨x.toInt, rg_of x, (iI_of x).symm⟩
theorem iI_lt {a b : Int} (ha : rg a) (hb : rg b) : iI a < iI b ↔ a < b := by
  rw [Int32.lt_iff_toInt_lt, iI_int ha, iI_int hb]
theorem iI_le {a b : Int} (ha : rg a) (hb : rg b) : iI a ≤ iI b ↔ a ≤ b := by
  rw [Int32.le_iff_toInt_le, iI_int ha, iI_int hb]
theorem iI_eq {a b : Int} (ha : rg a) (hb : rg b) : iI a = iI b ↔ a = b := by
  constructor
  · intro h
    have := congrArg Int32.toInt h
    rwa [iI_int ha, iI_int hb] at this
  · intro h; rw [h]
theorem iI_clamp {z : Int} (h : rg z) : (iI z).toNatClampNeg = z.toNat := by
  show (iI z).toInt.toNat = z.toNat
  rw [iI_int h]
theorem iI_in {z : Int} {j n : Nat} (hz : z = (j : Int)) (hj : j < n) (hn : n < 2147483648) : vp_in (iI z) n := by
  rw [vp_in_iff, iI_int ⟨by omega, by omega⟩]
  omega
theorem iI_cl {z : Int} {j n : Nat} (hz : z = (j : Int)) (hj : j < n) (hn : n < 2147483648) : (iI z).toNatClampNeg = j := by
  rw [iI_clamp ⟨by omega, by omega⟩]
  omega
theorem iI_div {a d : Int} (ha : 0 ≤ a) (ha2 : a < 2147483648) (hd : 0 < d) (hd2 : d < 2147483648) : iI a / iI d = iI (a / d) := by
  obtain ⟨n, rfl⟩ := Int.eq_ofNat_of_zero_le ha
  obtain ⟨k, rfl⟩ := Int.eq_ofNat_of_zero_le (Int.le_of_lt hd)
  exact pk_div (a := n) (d := k) (by omega) (by omega) (by omega)
theorem iI_rem {a d : Int} (ha : 0 ≤ a) (ha2 : a < 2147483648) (hd : 0 < d) (hd2 : d < 2147483648) : iI a - iI a / iI d * iI d = iI (a % d) := by
  obtain ⟨n, rfl⟩ := Int.eq_ofNat_of_zero_le ha
  obtain ⟨k, rfl⟩ := Int.eq_ofNat_of_zero_le (Int.le_of_lt hd)
  exact pk_rem (a := n) (d := k) (by omega) (by omega) (by omega)
/-- a row of bits as a set -/
def bNat (q : Nat → Bool) : Nat → Nat
  | 0 => 0
  | n + 1 => bNat q n ||| (if q n = true then 2 ^ n else 0)
def bO (q : Nat → Bool) : Int64 := Int64.ofNat (bNat q 64)
/-- entries of a map: an array with its component's type, or an object with its class's number -/
abbrev mE : Type := (FieldType × vp_A) ⊕ (Nat × List Value)
abbrev mM : Type := Nat → Option mE
def mset (M : mM) (a : Nat) (v : mE) : mM := fun j => if j = a then some v else M j
theorem mset_self {M : mM} {a : Nat} {v : mE} : mset M a v a = some v := by simp [mset]
theorem mset_ne {M : mM} {a q : Nat} {v : mE} (h : q ≠ a) : mset M a v q = M q := by simp [mset, h]
theorem mset_mset (M : mM) (a : Nat) (v w : mE) : mset (mset M a v) a w = mset M a w := by
  funext j
  by_cases h : j = a <;> simp [mset, h]
theorem mset_id {M : mM} {a : Nat} {v : mE} (h : M a = some v) : mset M a v = M := by
  funext j
  by_cases hj : j = a
  · subst hj; rw [mset_self, h]
  · rw [mset_ne hj]
theorem mset_comm (M : mM) {a q : Nat} (h : a ≠ q) (v w : mE) : mset (mset M a v) q w = mset (mset M q w) a v := by
  funext j
  by_cases h1 : j = a
  · subst h1; simp [mset, h]
  · by_cases h2 : j = q
    · subst h2; simp [mset, h1]
    · simp [mset, h1, h2]
theorem mne {M : mM} {a q : Nat} {v w : mE} (h1 : M a = some v) (h2 : M q = some w) (h : v ≠ w) : a ≠ q := fun z => h (by subst z; exact Option.some.inj (h1.symm.trans h2))
def mAt (D : va_G) (s : State) (H : Heap) (a : Nat) (v : mE) : Prop := match v with
  | .inl x => ∃ cA : ClassId, (ArrOfT s cA x.1 ∧ va_RA s cA x.1) ∧ H[a]? = some (vp_cell cA x.2)
  | .inr o => va_at D vwCl (a, .inr o) H
def mG (D : va_G) (b : Nat) (M : mM) (s : State) (H : Heap) : Prop := b ≤ H.size ∧ ∀ (a : Nat) (v : mE), M a = some v → b ≤ a ∧ mAt D s H a v
abbrev mF (b : Nat) : Nat → Prop := fun q => b ≤ q
def mS (D : va_G) (s : State) : Prop := va_K D vwCl [] s ∧
  (va_Nw (.fieldLinkNest RX1 27 "OverLine$Box" "lowX" "I" "OverLine") s ∧ va_Nw (.fieldLinkNest RX1 31 "OverLine$Box" "highX" "I" "OverLine") s) ∧
  (va_Nw (.fieldLinkNest RX4 73 "OverLine$Box" "lowX" "I" "OverLine") s ∧ va_Nw (.fieldLinkNest RX4 78 "OverLine$Box" "highX" "I" "OverLine") s ∧ va_Nw (.fieldLinkNest RX4 81 "OverLine$Box" "lowY" "I" "OverLine") s ∧ va_Nw (.fieldLinkNest RX4 84 "OverLine$Box" "highY" "I" "OverLine") s) ∧
  (va_Nw (.methodLinkNest RX3 63 yX4_xOf "OverLine") s ∧ va_Nw (.methodLinkNest RX3 67 yX4_yOf "OverLine") s) ∧
  va_AO RX0 s ∧ va_AO RX1 s ∧ va_AO RX3 s
theorem mS.warm {D : va_G} {s U : State} (hW : s.WarmedH U.vm) (h : mS D s) : mS D U := by
  obtain ⟨h0, ⟨h1, h2⟩, ⟨h3, h4, h5, h6⟩, ⟨h7, h8⟩, h9, h10, h11⟩ := h
  exact ⟨va_K.moved hW.alike h0, ⟨h1.warmF hW, h2.warmF hW⟩, ⟨h3.warmF hW, h4.warmF hW, h5.warmF hW, h6.warmF hW⟩, ⟨h7.warmM hW, h8.warmM hW⟩, h9.moved hW.alike, h10.moved hW.alike, h11.moved hW.alike⟩
theorem mS.call {D : va_G} {U : State} {g : JFrame} {mk : MethodId} {a : Array Value} (h : mS D U) : mS D (U.calling g mk a) := by
  obtain ⟨h0, ⟨h1, h2⟩, ⟨h3, h4, h5, h6⟩, ⟨h7, h8⟩, h9, h10, h11⟩ := h
  have hv : U.vm = (U.calling g mk a).vm := rfl
  exact ⟨va_K.moved (Vm.Alike.refl U.vm) h0, ⟨h1.same rfl hv, h2.same rfl hv⟩, ⟨h3.same rfl hv, h4.same rfl hv, h5.same rfl hv, h6.same rfl hv⟩, ⟨h7.same rfl hv, h8.same rfl hv⟩, h9.moved (Vm.Alike.refl U.vm), h10.moved (Vm.Alike.refl U.vm), h11.moved (Vm.Alike.refl U.vm)⟩
theorem mAt.moved {D : va_G} {u U : State} {H : Heap} {a : Nat} {v : mE} (hvm : u.vm.Alike U.vm) (h : mAt D u H a v) : mAt D U H a v := by
  cases v with
  | inl x =>
    obtain ⟨cA, ⟨h1, h2⟩, h3⟩ := h
    exact ⟨cA, ⟨arrOfT_moved hvm h1, h2.moved hvm⟩, h3⟩
  | inr o => exact h
theorem mAt.kept {D : va_G} {s : State} {H H1 : Heap} {a : Nat} {v : mE} (h : mAt D s H a v) (hq : H1[a]? = H[a]?) : mAt D s H1 a v := by
  cases v with
  | inl x =>
    obtain ⟨cA, h1, h3⟩ := h
    exact ⟨cA, h1, hq.trans h3⟩
  | inr o => exact va_at.kept (D := D) (cl := vwCl) (q := (a, .inr o)) h hq
theorem mAt.lt {D : va_G} {s : State} {H : Heap} {a : Nat} {v : mE} (h : mAt D s H a v) : a < H.size := by
  cases v with
  | inl x =>
    obtain ⟨cA, h1, h3⟩ := h
    exact (Array.getElem?_eq_some_iff.mp h3).1
  | inr o => exact va_at.lt (D := D) (cl := vwCl) (q := (a, .inr o)) h
theorem mG.moved {D : va_G} {b : Nat} {M : mM} {u U : State} {H : Heap} (hvm : u.vm.Alike U.vm) (h : mG D b M u H) : mG D b M U H := ⟨h.1, fun a v hv => ⟨(h.2 a v hv).1, (h.2 a v hv).2.moved hvm⟩⟩
theorem mG.set {D : va_G} {b : Nat} {M : mM} {s : State} {H H1 : Heap} {a : Nat} {v : mE} (h : mG D b M s H) (ha : b ≤ a) (hv : mAt D s H1 a v) (z : H1.size = H.size) (oq : ∀ q : Nat, q ≠ a → H1[q]? = H[q]?) : mG D b (mset M a v) s H1 := by
  refine ⟨by rw [z]; exact h.1, fun q w hq => ?_⟩
  by_cases hqa : q = a
  · subst hqa
    rw [mset_self] at hq
    cases hq
    exact ⟨ha, hv⟩
  · rw [mset_ne hqa] at hq
    exact ⟨(h.2 q w hq).1, (h.2 q w hq).2.kept (oq q hqa)⟩
theorem mG.push {D : va_G} {b : Nat} {M : mM} {s : State} {H H1 : Heap} {v : mE} (h : mG D b M s H) (hv : mAt D s H1 H.size v) (z : H1.size = H.size + 1) (oq : ∀ q : Nat, q < H.size → H1[q]? = H[q]?) : mG D b (mset M H.size v) s H1 := by
  refine ⟨by rw [z]; exact Nat.le_succ_of_le h.1, fun q w hq => ?_⟩
  by_cases hqa : q = H.size
  · subst hqa
    rw [mset_self] at hq
    cases hq
    exact ⟨h.1, hv⟩
  · rw [mset_ne hqa] at hq
    exact ⟨(h.2 q w hq).1, (h.2 q w hq).2.kept (oq q (h.2 q w hq).2.lt)⟩
theorem mG.fresh {D : va_G} {b : Nat} {M : mM} {s : State} {H : Heap} (h : mG D b M s H) : M H.size = none := by
  cases hm : M H.size with
  | none => rfl
  | some v => exact absurd (h.2 _ _ hm).2.lt (Nat.lt_irrefl _)
/-- a contract's start and ends -/
def mPc (av : List Value) (D : va_G) (b : Nat) (M : mM) : Array Value → State → Prop := va_Pc av (fun U => mS D U ∧ mG D b M U U.heap)
def mQi (D : va_G) (b : Nat) (post : Int32 → mM → Prop) : Array Value → State → Outcome → State → Prop := va_Qi post (fun M' t => mG D b M' t t.heap) (mF b)
def mQl (D : va_G) (b : Nat) (post : Int64 → mM → Prop) : Array Value → State → Outcome → State → Prop := va_Ql post (fun M' t => mG D b M' t t.heap) (mF b)
def mQv (D : va_G) (b : Nat) (post : mM → Prop) : Array Value → State → Outcome → State → Prop := va_Qv post (fun M' t => mG D b M' t t.heap) (mF b)
def mQq (D : va_G) (b : Nat) (post : Option Nat → mM → Prop) : Array Value → State → Outcome → State → Prop := va_Qq post (fun M' t => mG D b M' t t.heap) (mF b)
theorem mPc.blind {av : List Value} {D : va_G} {b : Nat} {M : mM} : FrameBlind (mPc av D b M) := by
  intro a U g mk q
  obtain ⟨q0, q1, q2⟩ := q
  exact ⟨q0, q1.call, q2.moved (u := U) (U := U.calling g mk a) (Vm.Alike.refl U.vm)⟩
