theorem bNat_bit (q : Nat → Bool) (n i : Nat) : (bNat q n).testBit i = (decide (i < n) && q i) := by
  induction n with
  | zero => simp [bNat]
  | succ n ih =>
    rw [bNat, Nat.testBit_or, ih]
    by_cases hi : i = n
    · subst hi
      by_cases hq : q i = true
      · rw [if_pos hq, Nat.testBit_two_pow]; simp [hq]
      · rw [if_neg hq]; simp [hq]
    · have e2 : (if q n = true then 2 ^ n else 0).testBit i = false := by
        split
        · rw [Nat.testBit_two_pow]; simp; omega
        · simp
      rw [e2, Bool.or_false]
      congr 1
      simp
      omega
theorem bO_bit (q : Nat → Bool) {i : Nat} (h : i < 64) : (bO q).toBitVec.getLsbD i = q i := by
  show (BitVec.ofNat 64 (bNat q 64)).getLsbD i = q i
  rw [BitVec.getLsbD_ofNat, bNat_bit]
  simp [h]
theorem bO_ext {x : Int64} {q : Nat → Bool} (h : ∀ i, i < 64 → x.toBitVec.getLsbD i = q i) : x = bO q := by
  apply Int64.toBitVec_inj.mp
  apply BitVec.eq_of_getLsbD_eq
  intro i hi
  rw [h i hi, bO_bit q hi]
theorem bO_cong {q r : Nat → Bool} (h : ∀ i, i < 64 → q i = r i) : bO q = bO r := bO_ext (fun i hi => by rw [bO_bit q hi, h i hi])
theorem bO_eq {q r : Nat → Bool} : bO q = bO r ↔ ∀ i, i < 64 → q i = r i := by
  constructor
  · intro h i hi
    rw [← bO_bit q hi, ← bO_bit r hi, h]
  · exact bO_cong
theorem bO_0 : (0 : Int64) = bO (fun _ => false) := by decide +kernel
theorem bO_1 : (1 : Int64) = bO (fun y => decide (y = 0)) := by decide +kernel
theorem bO_m1 : (-1 : Int64) = bO (fun _ => true) := by decide +kernel
theorem bO_and (q r : Nat → Bool) : bO q &&& bO r = bO (fun y => q y && r y) := bO_ext (fun i hi => by rw [Int64.toBitVec_and, BitVec.getLsbD_and, bO_bit q hi, bO_bit r hi])
theorem bO_or (q r : Nat → Bool) : bO q ||| bO r = bO (fun y => q y || r y) := bO_ext (fun i hi => by rw [Int64.toBitVec_or, BitVec.getLsbD_or, bO_bit q hi, bO_bit r hi])
theorem bO_not (q : Nat → Bool) : bO q ^^^ bO (fun _ => true) = bO (fun y => !q y) := bO_ext (fun i hi => by rw [Int64.toBitVec_xor, BitVec.getLsbD_xor, bO_bit q hi, bO_bit _ hi]; simp)
theorem sh_c : ∀ k, k < 64 → ((iI (k : Nat)).toInt64 &&& 63).toBitVec.smod 64 = BitVec.ofNat 64 k := by decide +kernel
theorem sh_u : ∀ k, k < 64 → ((iI (k : Nat)).toInt64.toUInt64 &&& Int64.toUInt64 63) = UInt64.ofNat k := by decide +kernel
theorem bO_shl (q : Nat → Bool) {k : Nat} (hk : k < 64) : bO q <<< ((iI (k : Int)).toInt64 &&& 63) = bO (fun y => decide (k ≤ y) && q (y - k)) := by
  refine bO_ext (fun i hi => ?_)
  rw [Int64.toBitVec_shiftLeft, sh_c k hk, BitVec.shiftLeft_eq', BitVec.toNat_ofNat, Nat.mod_eq_of_lt (by omega), BitVec.getLsbD_shiftLeft]
  by_cases h : k ≤ i
  · rw [bO_bit q (show i - k < 64 by omega)]
    simp [hi, h]
  · simp [h]
    try omega
theorem bO_shr (q : Nat → Bool) {k : Nat} (hk : k < 64) : ((bO q).toUInt64 >>> ((iI (k : Int)).toInt64.toUInt64 &&& Int64.toUInt64 63)).toInt64 = bO (fun y => decide (y + k < 64) && q (y + k)) := by
  refine bO_ext (fun i hi => ?_)
  rw [sh_u k hk]
  show ((bO q).toUInt64 >>> UInt64.ofNat k).toBitVec.getLsbD i = _
  rw [UInt64.toBitVec_shiftRight]
  have e1 : ((UInt64.ofNat k).toBitVec % 64).toNat = k := by
    show ((BitVec.ofNat 64 k) % 64).toNat = k
    rw [BitVec.toNat_umod, BitVec.toNat_ofNat]
    show k % 2 ^ 64 % 64 = k
    omega
  rw [BitVec.ushiftRight_eq', e1, BitVec.getLsbD_ushiftRight]
  show (bO q).toBitVec.getLsbD (k + i) = _
  by_cases h : k + i < 64
  · rw [bO_bit q h, Nat.add_comm k i]
    simp
    omega
  · rw [BitVec.getLsbD_of_ge _ _ (by omega)]
    simp
    omega
section MB
variable {p : Program} {l : Launch} {e : Env} {R : Room} {s : State} {m : MethodId} {args : Array Value} {below : List Frame} {meth : Method} {c : Code} {H : Heap} {locs : List Loc} {cells slots : Nat} {Q : State → Prop}
variable {cc : ByteArray} {pc : Nat} {ls : Array Slot} {rest : List Value} {q r : Nat → Bool} {D : va_G} {b : Nat} {M : mM} {H0 : Heap} {Ts : List Cond}
theorem m_land (hx : p.tables.exec = Jvm.exec) (hb : c.code = cc) (hdg : decode cc pc = .ok (.land, 1)) (k : W p l e R s m args below meth c H locs cells slots Q (F0 m (pc + 1) ls (.long (bO (fun y => q y && r y)) :: rest))) : W p l e R s m args below meth c H locs cells slots Q (F0 m pc ls (.long (bO r) :: .long (bO q) :: rest)) := lv_land hx hb hdg (by rw [bO_and]; exact k)
theorem m_lor (hx : p.tables.exec = Jvm.exec) (hb : c.code = cc) (hdg : decode cc pc = .ok (.lor, 1)) (k : W p l e R s m args below meth c H locs cells slots Q (F0 m (pc + 1) ls (.long (bO (fun y => q y || r y)) :: rest))) : W p l e R s m args below meth c H locs cells slots Q (F0 m pc ls (.long (bO r) :: .long (bO q) :: rest)) := lv_lor hx hb hdg (by rw [bO_or]; exact k)
theorem m_lnot (hx : p.tables.exec = Jvm.exec) (hb : c.code = cc) (hdg : decode cc pc = .ok (.lxor, 1)) (k : W p l e R s m args below meth c H locs cells slots Q (F0 m (pc + 1) ls (.long (bO (fun y => !q y)) :: rest))) : W p l e R s m args below meth c H locs cells slots Q (F0 m pc ls (.long (bO (fun _ => true)) :: .long (bO q) :: rest)) := lv_lxor hx hb hdg (by rw [bO_not]; exact k)
theorem m_lshl (hx : p.tables.exec = Jvm.exec) (hb : c.code = cc) {z : Int} (j : Nat) (hz : z = (j : Int)) (hj : j < 64) (hdg : decode cc pc = .ok (.lshl, 1)) (k : W p l e R s m args below meth c H locs cells slots Q (F0 m (pc + 1) ls (.long (bO (fun y => decide (j ≤ y) && q (y - j))) :: rest))) : W p l e R s m args below meth c H locs cells slots Q (F0 m pc ls (.int (iI z) :: .long (bO q) :: rest)) := lv_lshl hx hb hdg (by rw [hz]; exact bO_shl q hj) k
theorem m_lushr (hx : p.tables.exec = Jvm.exec) (hb : c.code = cc) {z : Int} (j : Nat) (hz : z = (j : Int)) (hj : j < 64) (hdg : decode cc pc = .ok (.lushr, 1)) (k : W p l e R s m args below meth c H locs cells slots Q (F0 m (pc + 1) ls (.long (bO (fun y => decide (y + j < 64) && q (y + j))) :: rest))) : W p l e R s m args below meth c H locs cells slots Q (F0 m pc ls (.int (iI z) :: .long (bO q) :: rest)) := lv_lushr hx hb hdg (by rw [hz]; exact bO_shr q hj) k
/-- lcmp, then a test whether they are the same -/
theorem m_lcmp_eq (hx : p.tables.exec = Jvm.exec) (hb : c.code = cc) {off : Int} {tgt : Nat} (hd1 : decode cc pc = .ok (.lcmp, 1)) (hd2 : decode cc (pc + 1) = .ok (.ifCond .eq off, 3)) (ht : ((pc + 1 : Nat) : Int) + off = (tgt : Int))
    (kt : (∀ i, i < 64 → q i = r i) → W p l e R s m args below meth c H locs cells slots Q (F0 m tgt ls rest)) (kf : ¬ (∀ i, i < 64 → q i = r i) → W p l e R s m args below meth c H locs cells slots Q (F0 m (pc + 1 + 3) ls rest)) : W p l e R s m args below meth c H locs cells slots Q (F0 m pc ls (.long (bO r) :: .long (bO q) :: rest)) :=
  W.lcmp hx hb hd1 (lv_if_eq hx hb hd2 ht (fun h => kt (bO_eq.mp ((lg_cmp_eq _ _).mp h))) (fun h => kf (fun z => h ((lg_cmp_eq _ _).mpr (bO_eq.mpr z)))))
theorem m_lcmp_ne (hx : p.tables.exec = Jvm.exec) (hb : c.code = cc) {off : Int} {tgt : Nat} (hd1 : decode cc pc = .ok (.lcmp, 1)) (hd2 : decode cc (pc + 1) = .ok (.ifCond .ne off, 3)) (ht : ((pc + 1 : Nat) : Int) + off = (tgt : Int))
    (kt : ¬ (∀ i, i < 64 → q i = r i) → W p l e R s m args below meth c H locs cells slots Q (F0 m tgt ls rest)) (kf : (∀ i, i < 64 → q i = r i) → W p l e R s m args below meth c H locs cells slots Q (F0 m (pc + 1 + 3) ls rest)) : W p l e R s m args below meth c H locs cells slots Q (F0 m pc ls (.long (bO r) :: .long (bO q) :: rest)) :=
  W.lcmp hx hb hd1 (lv_if_ne hx hb hd2 ht (fun h => kt (fun z => h ((lg_cmp_eq _ _).mpr (bO_eq.mpr z)))) (fun h => kf (bO_eq.mp ((lg_cmp_eq _ _).mp h))))
theorem mset_skip {M : mM} {a y : Nat} {v v1 w : mE} (h : a ≠ y) : mset (mset (mset M a v) y w) a v1 = mset (mset M a v1) y w := by
  funext j
  by_cases h1 : j = a
  · subst h1; simp [mset, h]
  · by_cases h2 : j = y
    · subst h2; simp [mset, h1]
    · simp [mset, h1, h2]
theorem mfresh {M : mM} {a x : Nat} {v : mE} (h : M a = none) (hx : M x = some v) : x ≠ a := fun z => by subst z; rw [h] at hx; cases hx
/-- new arrays of numbers -/
theorem m_newa_i (hx : p.tables.exec = Jvm.exec) (hb : c.code = cc) (hts : ∀ w ∈ Ts, w.before args s = true) (harr : (Cond.arrayClass .int) ∈ Ts) (hG : mG D b M s H) (hS : va_S (mF b) H0 H locs) {z : Int} {N' : Nat} (hz : z = (N' : Int)) (hz2 : N' < 100000) (hcells : cells + 1 ≤ R.cells) (hslots : slots + N' ≤ R.slots) (hdg : decode cc pc = .ok (.newarray .int, 2))
    (kk : ∀ (q : Nat) (H1 : Heap), M q = none → mG D b (mset M q (aI N' (fun _ => 0))) s H1 → va_S (mF b) H0 H1 locs → W p l e R s m args below meth c H1 locs (cells + 1) (slots + N') Q (F0 m (pc + 2) ls (.ref q :: rest))) : W p l e R s m args below meth c H locs cells slots Q (F0 m pc ls (.int (iI z) :: rest)) :=
  m_newa (atype := .int) hx hb hts harr (ty := .int) rfl (fun _ h => h) hG hS (fun _ => rfl) hz (by omega) (by show N' * 4 ≤ _; omega) hcells hslots hdg kk
theorem m_newa_l (hx : p.tables.exec = Jvm.exec) (hb : c.code = cc) (hts : ∀ w ∈ Ts, w.before args s = true) (harr : (Cond.arrayClass .long) ∈ Ts) (hG : mG D b M s H) (hS : va_S (mF b) H0 H locs) {z : Int} {N' : Nat} (hz : z = (N' : Int)) (hz2 : N' < 100000) (hcells : cells + 1 ≤ R.cells) (hslots : slots + N' ≤ R.slots) (hdg : decode cc pc = .ok (.newarray .long, 2))
    (kk : ∀ (q : Nat) (H1 : Heap), M q = none → mG D b (mset M q (aL N' (fun _ _ => false))) s H1 → va_S (mF b) H0 H1 locs → W p l e R s m args below meth c H1 locs (cells + 1) (slots + N') Q (F0 m (pc + 2) ls (.ref q :: rest))) : W p l e R s m args below meth c H locs cells slots Q (F0 m pc ls (.int (iI z) :: rest)) :=
  m_newa (atype := .long) hx hb hts harr (ty := .long) rfl (fun _ h => h) hG hS (fun cA => by rw [vp_cell_l]; exact congrArg (arrV cA N') (funext fun _ => congrArg Value.long bO_0.symm)) hz (by omega) (by show N' * 8 ≤ _; omega) hcells hslots hdg kk
theorem m_newa_z (hx : p.tables.exec = Jvm.exec) (hb : c.code = cc) (hts : ∀ w ∈ Ts, w.before args s = true) (harr : (Cond.arrayClass .boolean) ∈ Ts) (hG : mG D b M s H) (hS : va_S (mF b) H0 H locs) {z : Int} {N' : Nat} (hz : z = (N' : Int)) (hz2 : N' < 100000) (hcells : cells + 1 ≤ R.cells) (hslots : slots + N' ≤ R.slots) (hdg : decode cc pc = .ok (.newarray .boolean, 2))
    (kk : ∀ (q : Nat) (H1 : Heap), M q = none → mG D b (mset M q (aZ N' (fun _ => false))) s H1 → va_S (mF b) H0 H1 locs → W p l e R s m args below meth c H1 locs (cells + 1) (slots + N') Q (F0 m (pc + 2) ls (.ref q :: rest))) : W p l e R s m args below meth c H locs cells slots Q (F0 m pc ls (.int (iI z) :: rest)) :=
  m_newa (atype := .boolean) hx hb hts harr (ty := .boolean) rfl (fun _ h => h) hG hS (fun _ => rfl) hz (by omega) (by show N' * 1 ≤ _; omega) hcells hslots hdg kk
end MB
/-- a truth as a number -/
noncomputable def tf (P : Prop) : Int := @ite Int P (Classical.propDecidable P) 1 0
theorem tf_t {P : Prop} (h : P) : tf P = 1 := by unfold tf; rw [if_pos h]
theorem tf_f {P : Prop} (h : ¬ P) : tf P = 0 := by unfold tf; rw [if_neg h]
theorem tf_cong {P R : Prop} (h : P ↔ R) : tf P = tf R := by rw [show P = R from propext h]
theorem tf_if {P : Prop} [Decidable P] : (if P then (1 : Int) else 0) = tf P := by
  by_cases h : P
  · rw [if_pos h, tf_t h]
  · rw [if_neg h, tf_f h]
theorem iI_tf {P : Prop} : iI (tf P) = iI 0 ∨ iI (tf P) = iI 1 := by
  rcases Classical.em P with h | h
  · rw [tf_t h]; exact Or.inr rfl
  · rw [tf_f h]; exact Or.inl rfl
section MT
variable {p : Program} {l : Launch} {e : Env} {R : Room} {s : State} {m : MethodId} {args : Array Value} {below : List Frame} {meth : Method} {c : Code} {H : Heap} {locs : List Loc} {cells slots : Nat} {Q : State → Prop}
variable {cc : ByteArray} {pc : Nat} {ls : Array Slot} {rest : List Value} {P : Prop}
theorem m_ift_eq (hx : p.tables.exec = Jvm.exec) (hb : c.code = cc) {off : Int} {tgt : Nat} (hdg : decode cc pc = .ok (.ifCond .eq off, 3)) (ht : (pc : Int) + off = (tgt : Int))
    (kt : ¬ P → W p l e R s m args below meth c H locs cells slots Q (F0 m tgt ls rest)) (kf : P → W p l e R s m args below meth c H locs cells slots Q (F0 m (pc + 3) ls rest)) : W p l e R s m args below meth c H locs cells slots Q (F0 m pc ls (.int (iI (tf P)) :: rest)) := @m_ifb_eq _ _ _ _ _ _ _ _ _ _ _ _ _ _ _ _ _ _ _ hx hb P (Classical.propDecidable P) off tgt hdg ht kt kf
theorem m_ift_ne (hx : p.tables.exec = Jvm.exec) (hb : c.code = cc) {off : Int} {tgt : Nat} (hdg : decode cc pc = .ok (.ifCond .ne off, 3)) (ht : (pc : Int) + off = (tgt : Int))
    (kt : P → W p l e R s m args below meth c H locs cells slots Q (F0 m tgt ls rest)) (kf : ¬ P → W p l e R s m args below meth c H locs cells slots Q (F0 m (pc + 3) ls rest)) : W p l e R s m args below meth c H locs cells slots Q (F0 m pc ls (.int (iI (tf P)) :: rest)) := @m_ifb_ne _ _ _ _ _ _ _ _ _ _ _ _ _ _ _ _ _ _ _ hx hb P (Classical.propDecidable P) off tgt hdg ht kt kf
end MT
