/-- how many of the first n hold -/
def ctn (q : Nat → Bool) : Nat → Nat
  | 0 => 0
  | n + 1 => ctn q n + (if q n = true then 1 else 0)
theorem ctn_le (q : Nat → Bool) : ∀ n, ctn q n ≤ n
  | 0 => Nat.le_refl 0
  | n + 1 => by
    have := ctn_le q n
    rw [ctn]
    split <;> omega
/-- the sum of the k lowest digits in base B -/
def dsm (B : Nat) : Nat → Nat → Nat
  | 0, _ => 0
  | k + 1, x => x % B + dsm B k (x / B)
def dsB (B m : Nat) : Nat → Nat → Prop
  | 0, _ => True
  | k + 1, x => x % B ≤ m ∧ dsB B m k (x / B)
theorem land4 (n a b : Nat) : a &&& b = 2 ^ n * ((a / 2 ^ n) &&& (b / 2 ^ n)) + ((a % 2 ^ n) &&& (b % 2 ^ n)) := by
  rw [← Nat.and_mod_two_pow, ← Nat.and_div_two_pow]
  exact (Nat.div_add_mod _ _).symm
def mk1 : Nat → Nat
  | 0 => 0
  | k + 1 => 4 * mk1 k + 1
def mk2 : Nat → Nat
  | 0 => 0
  | k + 1 => 16 * mk2 k + 3
def mk3 : Nat → Nat
  | 0 => 0
  | k + 1 => 256 * mk3 k + 15
theorem sm_and : ∀ e, e < 4 → ∀ _ : True, e &&& 1 = e % 2 := by decide
theorem sm_and3 : ∀ e, e < 16 → e &&& 3 = e % 4 := by decide
theorem sm_and15 : ∀ e, e < 256 → e &&& 15 = e % 16 := by decide +kernel
theorem st1 : ∀ (k x : Nat), x < 4 ^ k → ((x / 2) &&& mk1 k) ≤ x ∧ dsm 4 k (x - ((x / 2) &&& mk1 k)) = dsm 2 (2 * k) x ∧ dsB 4 2 k (x - ((x / 2) &&& mk1 k)) ∧ x - ((x / 2) &&& mk1 k) < 4 ^ k
  | 0, x, h => by
    have h0 : x = 0 := by rw [Nat.pow_zero] at h; omega
    subst h0
    exact ⟨by simp, rfl, trivial, by simp⟩
  | k + 1, x, h => by
    have hp : 4 ^ (k + 1) = 4 * 4 ^ k := by rw [Nat.pow_succ, Nat.mul_comm]
    obtain ⟨i1, i2, i3, i4⟩ := st1 k (x / 4) (by omega)
    have e1 : (x / 2) &&& mk1 (k + 1) = 4 * ((x / 4 / 2) &&& mk1 k) + x % 4 / 2 := by
      rw [land4 2, show mk1 (k + 1) / 2 ^ 2 = mk1 k by rw [mk1]; omega, show mk1 (k + 1) % 2 ^ 2 = 1 by rw [mk1]; omega, show x / 2 / 2 ^ 2 = x / 4 / 2 by omega, sm_and _ (by omega) trivial, show x / 2 % 2 ^ 2 % 2 = x % 4 / 2 by omega]
    rw [e1]
    generalize hg : (x / 4 / 2) &&& mk1 k = g at i1 i2 i3 i4 ⊢
    have e2 : (x - (4 * g + x % 4 / 2)) / 4 = x / 4 - g := by omega
    have e3 : (x - (4 * g + x % 4 / 2)) % 4 = x % 4 - x % 4 / 2 := by omega
    refine ⟨by omega, ?_, ⟨by rw [e3]; omega, by rw [e2]; exact i3⟩, by omega⟩
    rw [dsm, e2, e3, i2, show 2 * (k + 1) = 2 * k + 1 + 1 by omega, dsm, dsm, show x / 2 / 2 = x / 4 by omega]
    omega
theorem st2 : ∀ (k y : Nat), y < 16 ^ k → dsB 4 2 (2 * k) y → dsm 16 k ((y &&& mk2 k) + ((y / 4) &&& mk2 k)) = dsm 4 (2 * k) y ∧ dsB 16 4 k ((y &&& mk2 k) + ((y / 4) &&& mk2 k)) ∧ (y &&& mk2 k) + ((y / 4) &&& mk2 k) < 16 ^ k
  | 0, y, h, _ => by
    have h0 : y = 0 := by rw [Nat.pow_zero] at h; omega
    subst h0
    exact ⟨rfl, trivial, by simp⟩
  | k + 1, y, h, hB => by
    have hp : 16 ^ (k + 1) = 16 * 16 ^ k := by rw [Nat.pow_succ, Nat.mul_comm]
    rw [show 2 * (k + 1) = 2 * k + 1 + 1 by omega] at hB ⊢
    obtain ⟨b1, b2, b3⟩ := hB
    rw [show y / 4 / 4 = y / 16 by omega] at b3
    obtain ⟨i2, i3, i4⟩ := st2 k (y / 16) (by omega) b3
    have e1 : y &&& mk2 (k + 1) = 16 * ((y / 16) &&& mk2 k) + y % 4 := by
      rw [land4 4, show mk2 (k + 1) / 2 ^ 4 = mk2 k by rw [mk2]; omega, show mk2 (k + 1) % 2 ^ 4 = 3 by rw [mk2]; omega, sm_and3 _ (by omega), show y % 2 ^ 4 % 4 = y % 4 by omega]
    have e1' : (y / 4) &&& mk2 (k + 1) = 16 * ((y / 16 / 4) &&& mk2 k) + y / 4 % 4 := by
      rw [land4 4, show mk2 (k + 1) / 2 ^ 4 = mk2 k by rw [mk2]; omega, show mk2 (k + 1) % 2 ^ 4 = 3 by rw [mk2]; omega, sm_and3 _ (by omega), show y / 4 % 2 ^ 4 % 4 = y / 4 % 4 by omega, show y / 4 / 2 ^ 4 = y / 16 / 4 by omega]
    rw [e1, e1']
    generalize (y / 16) &&& mk2 k = g1 at i2 i3 i4 ⊢
    generalize (y / 16 / 4) &&& mk2 k = g2 at i2 i3 i4 ⊢
    have e2 : (16 * g1 + y % 4 + (16 * g2 + y / 4 % 4)) / 16 = g1 + g2 := by omega
    have e3 : (16 * g1 + y % 4 + (16 * g2 + y / 4 % 4)) % 16 = y % 4 + y / 4 % 4 := by omega
    refine ⟨?_, ⟨by rw [e3]; omega, by rw [e2]; exact i3⟩, by omega⟩
    rw [dsm, e2, e3, i2, dsm, dsm, show y / 4 / 4 = y / 16 by omega]
    omega
theorem st3 : ∀ (k y : Nat), y < 256 ^ k → dsB 16 4 (2 * k) y → dsm 256 k ((y + y / 16) &&& mk3 k) = dsm 16 (2 * k) y ∧ dsB 256 8 k ((y + y / 16) &&& mk3 k) ∧ ((y + y / 16) &&& mk3 k) < 256 ^ k ∧ y % 16 ≤ 4
  | 0, y, h, _ => by
    have h0 : y = 0 := by rw [Nat.pow_zero] at h; omega
    subst h0
    exact ⟨rfl, trivial, by simp [mk3], by omega⟩
  | k + 1, y, h, hB => by
    have hp : 256 ^ (k + 1) = 256 * 256 ^ k := by rw [Nat.pow_succ, Nat.mul_comm]
    rw [show 2 * (k + 1) = 2 * k + 1 + 1 by omega] at hB ⊢
    obtain ⟨b1, b2, b3⟩ := hB
    rw [show y / 16 / 16 = y / 256 by omega] at b3
    obtain ⟨i2, i3, i4, i5⟩ := st3 k (y / 256) (by omega) b3
    have e9 : (y + y / 16) / 2 ^ 8 = y / 256 + y / 256 / 16 ∧ (y + y / 16) % 2 ^ 8 % 16 = y % 16 + y / 16 % 16 := by
      generalize f0 : y / 16 = a at *
      generalize f1 : y / 256 = a2 at *
      generalize f2 : a2 / 16 = a3 at *
      have f3 : a = 16 * a2 + a % 16 := by omega
      have f4 : a2 = 16 * a3 + a2 % 16 := by omega
      have f5 : y = 16 * a + y % 16 := by omega
      generalize y % 16 = e0 at *
      generalize a % 16 = e1 at *
      generalize a2 % 16 = e2 at *
      subst f5
      subst f3
      subst f4
      constructor <;> omega
    have e1 : (y + y / 16) &&& mk3 (k + 1) = 256 * ((y / 256 + y / 256 / 16) &&& mk3 k) + (y % 16 + y / 16 % 16) := by
      rw [land4 8, show mk3 (k + 1) / 2 ^ 8 = mk3 k by rw [mk3]; omega, show mk3 (k + 1) % 2 ^ 8 = 15 by rw [mk3]; omega, sm_and15 _ (by omega), e9.1, e9.2]
    rw [e1]
    generalize (y / 256 + y / 256 / 16) &&& mk3 k = g at i2 i3 i4 ⊢
    have e2 : (256 * g + (y % 16 + y / 16 % 16)) / 256 = g := by omega
    have e3 : (256 * g + (y % 16 + y / 16 % 16)) % 256 = y % 16 + y / 16 % 16 := by omega
    refine ⟨?_, ⟨by rw [e3]; omega, by rw [e2]; exact i3⟩, by omega, b1⟩
    rw [dsm, e2, e3, i2, dsm, dsm, show y / 16 / 16 = y / 256 by omega]
    omega
theorem st4a {y y1 y2 y3 g0 g1 g2 : Nat} (h0 : g0 ≤ 8) (h1 : g1 ≤ 8) (h2 : g2 ≤ 8) (e0 : y = 65536 * y2 + 256 * g1 + g0) (e1 : y1 = 65536 * y3 + 256 * g2 + g1) : (y + y1) / 65536 = y2 + y3 := by omega
theorem st4b {y y1 y2 y3 y4 y5 y6 y7 l0 l1 l2 l3 : Nat} (h0 : l0 ≤ 134744072) (h1 : l1 ≤ 134744072) (h2 : l2 ≤ 134744072) (h3 : l3 ≤ 134744072) (e0 : y = 4294967296 * y4 + l0) (e1 : y1 = 4294967296 * y5 + l1) (e2 : y2 = 4294967296 * y6 + l2) (e3 : y3 = 4294967296 * y7 + l3) : (y + y1 + (y2 + y3)) / 4294967296 = y4 + y5 + y6 + y7 := by omega
theorem st4c {g0 g1 g2 g3 : Nat} (h0 : g0 ≤ 8) (h1 : g1 ≤ 8) (h2 : g2 ≤ 8) (h3 : g3 ≤ 8) : 256 * (256 * (256 * g3 + g2) + g1) + g0 ≤ 134744072 := by omega
theorem st4d {y y1 y2 y3 y4 y5 y6 y7 g0 g1 g2 g3 g4 g5 g6 : Nat} (h0 : g0 ≤ 8) (h1 : g1 ≤ 8) (h2 : g2 ≤ 8) (h3 : g3 ≤ 8) (h4 : g4 ≤ 8) (h5 : g5 ≤ 8) (h6 : g6 ≤ 8) (h7 : y7 ≤ 8) (q6 : y6 = 256 * y7 + g6) (q5 : y5 = 256 * y6 + g5) (q4 : y4 = 256 * y5 + g4) (q3 : y3 = 256 * y4 + g3) (q2 : y2 = 256 * y3 + g2) (q1 : y1 = 256 * y2 + g1) (q0 : y = 256 * y1 + g0) : (y + y1 + (y2 + y3) + (y4 + y5 + y6 + y7)) % 128 = g0 + (g1 + (g2 + (g3 + (g4 + (g5 + (g6 + y7)))))) ∧ y + y1 + (y2 + y3) + (y4 + y5 + y6 + y7) < 9223372036854775808 := by omega
theorem st4 (y : Nat) (h : y < 18446744073709551616) (hB : dsB 256 8 8 y) : y + y / 256 < 9223372036854775808 ∧ (y + y / 256) + (y + y / 256) / 65536 < 9223372036854775808 ∧ ((y + y / 256) + (y + y / 256) / 65536) + ((y + y / 256) + (y + y / 256) / 65536) / 4294967296 < 9223372036854775808 ∧ (((y + y / 256) + (y + y / 256) / 65536) + ((y + y / 256) + (y + y / 256) / 65536) / 4294967296) % 128 = dsm 256 8 y := by
  obtain ⟨b0, b1, b2, b3, b4, b5, b6, b7, -⟩ := hB
  obtain ⟨y1, d1⟩ : ∃ z, z = y / 256 := ⟨_, rfl⟩
  rw [← d1] at b1 b2 b3 b4 b5 b6 b7
  obtain ⟨y2, d2⟩ : ∃ z, z = y1 / 256 := ⟨_, rfl⟩
  rw [← d2] at b2 b3 b4 b5 b6 b7
  obtain ⟨y3, d3⟩ : ∃ z, z = y2 / 256 := ⟨_, rfl⟩
  rw [← d3] at b3 b4 b5 b6 b7
  obtain ⟨y4, d4⟩ : ∃ z, z = y3 / 256 := ⟨_, rfl⟩
  rw [← d4] at b4 b5 b6 b7
  obtain ⟨y5, d5⟩ : ∃ z, z = y4 / 256 := ⟨_, rfl⟩
  rw [← d5] at b5 b6 b7
  obtain ⟨y6, d6⟩ : ∃ z, z = y5 / 256 := ⟨_, rfl⟩
  rw [← d6] at b6 b7
  obtain ⟨y7, d7⟩ : ∃ z, z = y6 / 256 := ⟨_, rfl⟩
  rw [← d7] at b7
  have w1 : y1 < 72057594037927936 := by omega
  have w2 : y2 < 281474976710656 := by omega
  have w3 : y3 < 1099511627776 := by omega
  have w4 : y4 < 4294967296 := by omega
  have w5 : y5 < 16777216 := by omega
  have w6 : y6 < 65536 := by omega
  have w7 : y7 < 256 := by omega
  have q7 : y7 % 256 = y7 := Nat.mod_eq_of_lt w7
  rw [q7] at b7
  have q6 : y6 = 256 * y7 + y6 % 256 := by omega
  have q5 : y5 = 256 * y6 + y5 % 256 := by omega
  have q4 : y4 = 256 * y5 + y4 % 256 := by omega
  have q3 : y3 = 256 * y4 + y3 % 256 := by omega
  have q2 : y2 = 256 * y3 + y2 % 256 := by omega
  have q1 : y1 = 256 * y2 + y1 % 256 := by omega
  have q0 : y = 256 * y1 + y % 256 := by omega
  have z : dsm 256 8 y = y % 256 + (y1 % 256 + (y2 % 256 + (y3 % 256 + (y4 % 256 + (y5 % 256 + (y6 % 256 + y7)))))) := by
    simp only [dsm, ← d1, ← d2, ← d3, ← d4, ← d5, ← d6, ← d7, q7, Nat.add_zero]
  rw [z, ← d1]
  generalize y % 256 = g0 at *
  generalize y1 % 256 = g1 at *
  generalize y2 % 256 = g2 at *
  generalize y3 % 256 = g3 at *
  generalize y4 % 256 = g4 at *
  generalize y5 % 256 = g5 at *
  generalize y6 % 256 = g6 at *
  clear z d1 d2 d3 d4 d5 d6 d7 w1 w2 w3 w4 w5 w6 w7 q7 h
  have u1 : (y + y1) / 65536 = y2 + y3 := st4a b0 b1 b2 (by omega) (by omega)
  have u2 : (y + y1 + (y2 + y3)) / 4294967296 = y4 + y5 + y6 + y7 := st4b (st4c b0 b1 b2 b3) (st4c b1 b2 b3 b4) (st4c b2 b3 b4 b5) (st4c b3 b4 b5 b6) (by omega) (by omega) (by omega) (by omega)
  have u3 := st4d b0 b1 b2 b3 b4 b5 b6 b7 q6 q5 q4 q3 q2 q1 q0
  rw [u1, u2]
  generalize y2 + y3 = k1 at *
  generalize y4 + y5 + y6 + y7 = k2 at *
  exact ⟨by omega, by omega, u3.2, u3.1⟩
theorem hb2of {x : Nat} (h : x < 16 ^ 16) (hB : dsB 16 4 16 x) : x < 2 ^ 63 := by
  obtain ⟨-, -, -, -, -, -, -, -, -, -, -, -, -, -, -, b, -⟩ := hB
  have h1 : x / 16 / 16 / 16 / 16 / 16 / 16 / 16 / 16 / 16 / 16 / 16 / 16 / 16 / 16 / 16 = x / 16 ^ 15 := by simp only [Nat.div_div_eq_div_mul]
  rw [h1] at b
  have h2 : x / 16 ^ 15 < 16 := by
    apply Nat.div_lt_of_lt_mul
    exact h
  rw [Nat.mod_eq_of_lt h2] at b
  have h3 : x < 16 ^ 15 * (4 + 1) := by
    have := Nat.div_lt_iff_lt_mul (x := x) (k := 16 ^ 15) (y := 5) (by decide)
    rw [Nat.mul_comm]
    exact this.mp (by omega)
  exact Nat.lt_of_lt_of_le h3 (by decide)
theorem ctn_shift (q : Nat → Bool) : ∀ n, ctn q (n + 1) = (if q 0 = true then 1 else 0) + ctn (fun i => q (i + 1)) n
  | 0 => by simp [ctn]
  | n + 1 => by
    rw [ctn, ctn_shift q n, ctn]
    omega
theorem ctn_cong {q r : Nat → Bool} : ∀ {n : Nat}, (∀ i, i < n → q i = r i) → ctn q n = ctn r n
  | 0, _ => rfl
  | n + 1, h => by rw [ctn, ctn, ctn_cong (fun i hi => h i (Nat.lt_succ_of_lt hi)), h n (Nat.lt_succ_self n)]
theorem dsm_ctn : ∀ (n x : Nat), dsm 2 n x = ctn (fun i => x.testBit i) n
  | 0, _ => rfl
  | n + 1, x => by
    rw [dsm, dsm_ctn n (x / 2), ctn_shift]
    congr 1
    · rw [Nat.testBit_zero]
      by_cases h : x % 2 = 1
      · simp [h]
      · rw [show x % 2 = 0 by omega]; simp
    · apply ctn_cong
      intro i _
      rw [Nat.testBit_succ]
theorem bNat_lt (q : Nat → Bool) : ∀ n, bNat q n < 2 ^ n
  | 0 => by simp [bNat]
  | n + 1 => by
    rw [bNat]
    apply Nat.or_lt_two_pow
    · exact Nat.lt_trans (bNat_lt q n) (by rw [Nat.pow_succ]; have := Nat.two_pow_pos n; omega)
    · split
      · rw [Nat.pow_succ]; have := Nat.two_pow_pos n; omega
      · exact Nat.two_pow_pos _
theorem lN_shr {n k : Nat} {z : Int} (hz : z = (k : Int)) (hn : n < 2 ^ 64) (hk : k < 64) : ((lN n).toUInt64 >>> ((iI z).toInt64.toUInt64 &&& Int64.toUInt64 63)).toInt64 = lN (n / 2 ^ k) := by
  subst hz
  rw [sh_u k hk]
  apply Int64.toBitVec_inj.mp
  apply BitVec.eq_of_toNat_eq
  show ((lN n).toUInt64 >>> UInt64.ofNat k).toNat = (BitVec.ofNat 64 _).toNat
  have h1 : (UInt64.ofNat k).toNat = k := by
    show (BitVec.ofNat 64 k).toNat = k
    rw [BitVec.toNat_ofNat, Nat.mod_eq_of_lt (by omega)]
  have h2 : (lN n).toUInt64.toNat = n := by
    show (BitVec.ofNat 64 n).toNat = n
    rw [BitVec.toNat_ofNat, Nat.mod_eq_of_lt hn]
  rw [UInt64.toNat_shiftRight, h1, h2, Nat.mod_eq_of_lt hk, Nat.shiftRight_eq_div_pow, BitVec.toNat_ofNat, Nat.mod_eq_of_lt (Nat.lt_of_le_of_lt (Nat.div_le_self _ _) hn)]
theorem lN_and (a b : Nat) (ha : a < 2 ^ 64) (hb : b < 2 ^ 64) : lN a &&& lN b = lN (a &&& b) := by
  apply Int64.toBitVec_inj.mp
  apply BitVec.eq_of_toNat_eq
  rw [Int64.toBitVec_and, BitVec.toNat_and]
  show (BitVec.ofNat 64 a).toNat &&& (BitVec.ofNat 64 b).toNat = (BitVec.ofNat 64 _).toNat
  rw [BitVec.toNat_ofNat, BitVec.toNat_ofNat, BitVec.toNat_ofNat, Nat.mod_eq_of_lt ha, Nat.mod_eq_of_lt hb, Nat.mod_eq_of_lt (Nat.lt_of_le_of_lt Nat.and_le_left ha)]
theorem lK1 : (6148914691236517205 : Int64) = lN (mk1 32) := by decide +kernel
theorem lK2 : (3689348814741910323 : Int64) = lN (mk2 16) := by decide +kernel
theorem lK3 : (1085102592571150095 : Int64) = lN (mk3 8) := by decide +kernel
theorem mkb : mk1 32 < 2 ^ 64 ∧ mk2 16 < 2 ^ 64 ∧ mk3 8 < 2 ^ 64 := by decide +kernel

set_option maxHeartbeats 4000000 in
set_option maxRecDepth 100000 in
theorem c_J13_bitCount_95d88 (l : Launch) (D : va_G) (b : Nat) (M : mM) (q : Nat → Bool) : Met l yJ13_bitCount_95d88 wsJ13_bitCount_95d88 ({ frames := 0, cells := 0, slots := 0, locals := 0 } : Room) (mPc [.long (bO q)] D b M) (mQi D b (fI (ctn q 64 : Nat) M)) 0 0 (mF b) := by
  refine m_met (cc := cJ13_bitCount_95d88) (maxL := 2) (ret := (some .int)) (by decide) rfl (Nat.le_of_ble_eq_true rfl) ?_
  intro p e s m args below meth c Q ls hx hb hml hr hts hown hlk hnm hQ K hG hS hl
  have hown : s.vm.findClass RJ13 = some m.cls := hown
  have hl : lv_has ls 2 [(0, .long (bO q))] := hl
  obtain ⟨x, ex⟩ : ∃ x, x = bNat q 64 := ⟨_, rfl⟩
  have hx0 : x < 2 ^ 64 := by rw [ex]; exact bNat_lt q 64
  have e0 : bO q = lN x := by rw [ex]; rfl
  rw [e0] at hl
  have a1 := st1 32 x (by rw [show (4 : Nat) ^ 32 = 2 ^ 64 by decide]; exact hx0)
  obtain ⟨x1, f1⟩ : ∃ x1, x - ((x / 2) &&& mk1 32) = x1 := ⟨_, rfl⟩
  have a1' := a1.2
  rw [f1] at a1'
  have a2 := st2 16 x1 (by rw [show (16 : Nat) ^ 16 = 4 ^ 32 by decide]; exact a1'.2.2) a1'.2.1
  obtain ⟨x2, f2⟩ : ∃ x2, x2 = (x1 &&& mk2 16) + ((x1 / 4) &&& mk2 16) := ⟨_, rfl⟩
  rw [← f2] at a2
  have a3 := st3 8 x2 (by rw [show (256 : Nat) ^ 8 = 16 ^ 16 by decide]; exact a2.2.2) a2.2.1
  obtain ⟨x3, f3⟩ : ∃ x3, x3 = (x2 + x2 / 16) &&& mk3 8 := ⟨_, rfl⟩
  rw [← f3] at a3
  have a4 := st4 x3 (by rw [show (18446744073709551616 : Nat) = 256 ^ 8 by decide]; exact a3.2.2.1) a3.2.1
  obtain ⟨x4, f4⟩ : ∃ x4, x4 = x3 + x3 / 256 := ⟨_, rfl⟩
  rw [← f4] at a4
  obtain ⟨x5, f5⟩ : ∃ x5, x5 = x4 + x4 / 65536 := ⟨_, rfl⟩
  rw [← f5] at a4
  obtain ⟨x6, f6⟩ : ∃ x6, x6 = x5 + x5 / 4294967296 := ⟨_, rfl⟩
  rw [← f6] at a4
  have hb1 : x1 < 2 ^ 64 := by rw [show (2 : Nat) ^ 64 = 4 ^ 32 by decide]; exact a1'.2.2
  have hb2 : x2 < 2 ^ 63 := by
    exact hb2of a2.2.2 a2.2.1
  have hb3 : x3 < 2 ^ 64 := by rw [show (2 : Nat) ^ 64 = 256 ^ 8 by decide]; exact a3.2.2.1
  have hres : x6 % 128 = ctn q 64 := by
    rw [a4.2.2.2, a3.1, a2.1, a1'.1, dsm_ctn]
    exact ctn_cong (fun i hi => by rw [ex, bNat_bit]; simp [hi])
  refine lv_lload_n hx hb dJ13_bitCount_95d88_0 rfl (lv_at hl 0 rfl) ?_
  refine lv_lload_n hx hb dJ13_bitCount_95d88_1 rfl (lv_at hl 0 rfl) ?_
  refine lv_iconst (v := iI 1) hx hb dJ13_bitCount_95d88_2 rfl ?_
  refine lv_lushr hx hb dJ13_bitCount_95d88_3 rfl ?_
  refine lv_ldc2 (v := 6148914691236517205) hx hb hown (hts _ (by decide +kernel : Cond.constantLong RJ13 314 (6148914691236517205) ∈ wsJ13_bitCount_95d88)) dJ13_bitCount_95d88_4 ?_
  refine lv_land hx hb dJ13_bitCount_95d88_7 ?_
  refine lv_lsub hx hb dJ13_bitCount_95d88_8 ?_
  have e9 : lN x - (((lN x).toUInt64 >>> ((iI 1).toInt64.toUInt64 &&& Int64.toUInt64 63)).toInt64 &&& 6148914691236517205) = lN x1 := by rw [lN_shr (z := 1) (k := 1) rfl hx0 (by decide), lK1, lN_and _ _ (by omega) mkb.1, lN_sub a1.1, f1]
  refine m_topl e9 ?_
  refine lv_lstore_n (lv' := [(0, .long (lN x1))]) hx hb dJ13_bitCount_95d88_9 rfl hl (by decide) rfl (fun ls hl => ?_)
  refine lv_lload_n hx hb dJ13_bitCount_95d88_10 rfl (lv_at hl 0 rfl) ?_
  refine lv_ldc2 (v := 3689348814741910323) hx hb hown (hts _ (by decide +kernel : Cond.constantLong RJ13 316 (3689348814741910323) ∈ wsJ13_bitCount_95d88)) dJ13_bitCount_95d88_11 ?_
  refine lv_land hx hb dJ13_bitCount_95d88_14 ?_
  refine lv_lload_n hx hb dJ13_bitCount_95d88_15 rfl (lv_at hl 0 rfl) ?_
  refine lv_iconst (v := iI 2) hx hb dJ13_bitCount_95d88_16 rfl ?_
  refine lv_lushr hx hb dJ13_bitCount_95d88_17 rfl ?_
  refine lv_ldc2 (v := 3689348814741910323) hx hb hown (hts _ (by decide +kernel : Cond.constantLong RJ13 316 (3689348814741910323) ∈ wsJ13_bitCount_95d88)) dJ13_bitCount_95d88_18 ?_
  refine lv_land hx hb dJ13_bitCount_95d88_21 ?_
  refine lv_ladd hx hb dJ13_bitCount_95d88_22 ?_
  have e23 : (lN x1 &&& 3689348814741910323) + (((lN x1).toUInt64 >>> ((iI 2).toInt64.toUInt64 &&& Int64.toUInt64 63)).toInt64 &&& 3689348814741910323) = lN x2 := by rw [lN_shr (z := 2) (k := 2) rfl (by omega) (by decide), lK2, lN_and _ _ (by omega) mkb.2.1, lN_and _ _ (by omega) mkb.2.1, lN_add, ← f2]
  refine m_topl e23 ?_
  refine lv_lstore_n (lv' := [(0, .long (lN x2))]) hx hb dJ13_bitCount_95d88_23 rfl hl (by decide) rfl (fun ls hl => ?_)
  refine lv_lload_n hx hb dJ13_bitCount_95d88_24 rfl (lv_at hl 0 rfl) ?_
  refine lv_lload_n hx hb dJ13_bitCount_95d88_25 rfl (lv_at hl 0 rfl) ?_
  refine lv_iconst (v := iI 4) hx hb dJ13_bitCount_95d88_26 rfl ?_
  refine lv_lushr hx hb dJ13_bitCount_95d88_27 rfl ?_
  refine lv_ladd hx hb dJ13_bitCount_95d88_28 ?_
  refine lv_ldc2 (v := 1085102592571150095) hx hb hown (hts _ (by decide +kernel : Cond.constantLong RJ13 318 (1085102592571150095) ∈ wsJ13_bitCount_95d88)) dJ13_bitCount_95d88_29 ?_
  refine lv_land hx hb dJ13_bitCount_95d88_32 ?_
  have e33 : (lN x2 + ((lN x2).toUInt64 >>> ((iI 4).toInt64.toUInt64 &&& Int64.toUInt64 63)).toInt64) &&& 1085102592571150095 = lN x3 := by rw [lN_shr (z := 4) (k := 4) rfl (by omega) (by decide), lK3, lN_add, lN_and _ _ (by have := hb2; omega) mkb.2.2, ← f3]
  refine m_topl e33 ?_
  refine lv_lstore_n (lv' := [(0, .long (lN x3))]) hx hb dJ13_bitCount_95d88_33 rfl hl (by decide) rfl (fun ls hl => ?_)
  refine lv_lload_n hx hb dJ13_bitCount_95d88_34 rfl (lv_at hl 0 rfl) ?_
  refine lv_lload_n hx hb dJ13_bitCount_95d88_35 rfl (lv_at hl 0 rfl) ?_
  refine lv_bipush (v := iI 8) hx hb dJ13_bitCount_95d88_36 (by decide) ?_
  refine lv_lushr hx hb dJ13_bitCount_95d88_38 rfl ?_
  refine lv_ladd hx hb dJ13_bitCount_95d88_39 ?_
  have e40 : lN x3 + ((lN x3).toUInt64 >>> ((iI 8).toInt64.toUInt64 &&& Int64.toUInt64 63)).toInt64 = lN x4 := by rw [lN_shr (z := 8) (k := 8) rfl (by omega) (by decide), lN_add, ← f4]
  refine m_topl e40 ?_
  refine lv_lstore_n (lv' := [(0, .long (lN x4))]) hx hb dJ13_bitCount_95d88_40 rfl hl (by decide) rfl (fun ls hl => ?_)
  refine lv_lload_n hx hb dJ13_bitCount_95d88_41 rfl (lv_at hl 0 rfl) ?_
  refine lv_lload_n hx hb dJ13_bitCount_95d88_42 rfl (lv_at hl 0 rfl) ?_
  refine lv_bipush (v := iI 16) hx hb dJ13_bitCount_95d88_43 (by decide) ?_
  refine lv_lushr hx hb dJ13_bitCount_95d88_45 rfl ?_
  refine lv_ladd hx hb dJ13_bitCount_95d88_46 ?_
  have e47 : lN x4 + ((lN x4).toUInt64 >>> ((iI 16).toInt64.toUInt64 &&& Int64.toUInt64 63)).toInt64 = lN x5 := by rw [lN_shr (z := 16) (k := 16) rfl (by omega) (by decide), lN_add, ← f5]
  refine m_topl e47 ?_
  refine lv_lstore_n (lv' := [(0, .long (lN x5))]) hx hb dJ13_bitCount_95d88_47 rfl hl (by decide) rfl (fun ls hl => ?_)
  refine lv_lload_n hx hb dJ13_bitCount_95d88_48 rfl (lv_at hl 0 rfl) ?_
  refine lv_lload_n hx hb dJ13_bitCount_95d88_49 rfl (lv_at hl 0 rfl) ?_
  refine lv_bipush (v := iI 32) hx hb dJ13_bitCount_95d88_50 (by decide) ?_
  refine lv_lushr hx hb dJ13_bitCount_95d88_52 rfl ?_
  refine lv_ladd hx hb dJ13_bitCount_95d88_53 ?_
  have e54 : lN x5 + ((lN x5).toUInt64 >>> ((iI 32).toInt64.toUInt64 &&& Int64.toUInt64 63)).toInt64 = lN x6 := by rw [lN_shr (z := 32) (k := 32) rfl (by omega) (by decide), lN_add, ← f6]
  refine m_topl e54 ?_
  refine lv_lstore_n (lv' := [(0, .long (lN x6))]) hx hb dJ13_bitCount_95d88_54 rfl hl (by decide) rfl (fun ls hl => ?_)
  refine lv_lload_n hx hb dJ13_bitCount_95d88_55 rfl (lv_at hl 0 rfl) ?_
  refine lv_l2i hx hb dJ13_bitCount_95d88_56 rfl ?_
  refine lv_bipush (v := iI 127) hx hb dJ13_bitCount_95d88_57 (by decide) ?_
  refine lv_iand hx hb dJ13_bitCount_95d88_59 ?_
  exact m_iret hx hb hr hlk hQ hG hS (Nat.le_of_ble_eq_true rfl) (Nat.le_of_ble_eq_true rfl) dJ13_bitCount_95d88_60 ⟨by show (lN x6).toInt32 &&& iI 127 = iI _; rw [← hres, lN_i, pk_and _ 7 (by decide), show (nI x6).toBitVec.toNat % 2 ^ 7 = x6 % 128 by (show (BitVec.ofNat 32 x6).toNat % 2 ^ 7 = _); rw [BitVec.toNat_ofNat]; omega]; rfl, rfl⟩

def ct2 (S : Nat → Nat → Bool) : Nat → Nat
  | 0 => 0
  | n + 1 => ct2 S n + ctn (S n) 64
set_option maxHeartbeats 4000000 in
set_option maxRecDepth 100000 in
theorem c_X1_size (l : Launch) (D : va_G) (b : Nat) (M : mM) (h r : Nat) (S : Nat → Nat → Bool) (h1 : M h = some (Pl r)) (h2 : M r = some (aL 64 S)) : Met l yX1_size wsX1_size ({ frames := 1, cells := 0, slots := 0, locals := 21 } : Room) (mPc [.ref h] D b M) (mQi D b (fI (ct2 S 64 : Nat) M)) 0 0 (mF b) := by
  refine m_met (cc := cX1_size) (maxL := 3) (ret := (some .int)) (by decide) rfl (Nat.le_of_ble_eq_true rfl) ?_
  intro p e s m args below meth c Q ls hx hb hml hr hts hown hlk hnm hQ K hG hS hl
  have hown : s.vm.findClass RX1 = some m.cls := hown
  have hl : lv_has ls 3 [(0, .ref h)] := hl
  refine lv_iconst (v := iI 0) hx hb dX1_size_0 rfl ?_
  refine lv_istore_n (lv' := [(1, .int (iI 0)), (0, .ref h)]) hx hb dX1_size_1 rfl hl (by decide) rfl (fun ls hl => ?_)
  refine lv_iconst (v := iI 0) hx hb dX1_size_2 rfl ?_
  refine lv_istore_n (lv' := [(2, .int (iI 0)), (1, .int (iI 0)), (0, .ref h)]) hx hb dX1_size_3 rfl hl (by decide) rfl (fun ls hl => ?_)
  have loop4 : ∀ (fuel : Nat) (i : Int) (u : Int) (H : Heap) (locs : List Loc) (ls : Array Slot), (0 ≤ i) → (i ≤ 64) → (u = (ct2 S i.toNat : Nat)) → (64 - i).toNat < fuel → mG D b M s H → va_S (mF b) s.heap H locs → lv_has ls 3 [(2, .int (iI i)), (1, .int (iI u)), (0, .ref h)] → W p l e ({ frames := 1, cells := 0, slots := 0, locals := 21 } : Room) s m args below meth c H locs 0 0 Q (F0 m 4 ls []) := by
    intro fuel
    induction fuel with
    | zero => intro i u H locs ls hi0 hi1 hu hm; exact absurd hm (Nat.not_lt_zero _)
    | succ fuel ih4 =>
      intro i u H locs ls hi0 hi1 hu hm hG hS hl
      refine lv_iload_n hx hb dX1_size_4 rfl (lv_at hl 0 rfl) ?_
      refine lv_bipush (v := iI 64) hx hb dX1_size_5 (by decide) ?_
      refine m_icmp_ge (tgt := 28) hx hb dX1_size_7 (by decide) ⟨by omega, by omega⟩ ⟨by omega, by omega⟩ (fun c7 => ?_) (fun c7 => ?_)
      · refine lv_iload_n hx hb dX1_size_28 rfl (lv_at hl 1 rfl) ?_
        exact m_iret hx hb hr hlk hQ hG hS (Nat.le_of_ble_eq_true rfl) (Nat.le_of_ble_eq_true rfl) dX1_size_29 ⟨congrArg iI (by rw [hu, show i.toNat = 64 by omega]), rfl⟩
      · refine lv_iload_n hx hb dX1_size_10 rfl (lv_at hl 1 rfl) ?_
        refine lv_aload_n hx hb dX1_size_11 rfl (lv_at hl 2 rfl) ?_
        refine m_get (ci := 1) (v := .ref r) (C := RX1) (T := TX1) (N := 1) hx hb hts (by decide +kernel) hown K hG h1 rfl 0 (by decide) (by decide +kernel) rfl dX1_size_12 ?_
        refine lv_iload_n hx hb dX1_size_15 rfl (lv_at hl 0 rfl) ?_
        refine m_lald hx hb hG h2 i.toNat (by omega) (by omega) (by decide) dX1_size_16 ?_
        refine m_callfi (m_runS (As := [.long (bO (S i.toNat))]) (rest := [.int (iI u)]) ⟨hx, hb, hml, hown, hts⟩ (c_J13_bitCount_95d88 l D b _ (S i.toNat)) (va_cwS 1 hts gX1_size_J13_bitCount_95d88 rfl rfl rfl (by decide +kernel) ⟨Nat.le_of_ble_eq_true rfl, Nat.le_of_ble_eq_true rfl⟩) K hG rfl hl.1 rfl (Nat.le_of_ble_eq_true rfl) dX1_size_17 ⟨Nat.le_of_ble_eq_true rfl, Nat.le_of_ble_eq_true rfl⟩) hS (fun H locs hG hS => ?_)
        have hG : mG D b M s H := hG
        refine m_iadd hx hb dX1_size_20 ?_
        refine lv_istore_n (lv' := [(1, .int (iI (u + (ctn (S i.toNat) 64 : Nat)))), (2, .int (iI i)), (0, .ref h)]) hx hb dX1_size_21 rfl hl (by decide) rfl (fun ls hl => ?_)
        refine m_iinc (lv' := [(2, .int (iI (i + 1))), (1, .int (iI (u + (ctn (S i.toNat) 64 : Nat)))), (0, .ref h)]) (k := 1) hx hb dX1_size_22 hl rfl (by decide) rfl (fun ls hl => ?_)
        refine lv_goto (tgt := 4) hx hb dX1_size_25 (by decide) ?_
        exact ih4 (i + 1) (u + (ctn (S i.toNat) 64 : Nat)) _ _ _ (by omega) (by omega) (by rw [show (i + 1).toNat = i.toNat + 1 by omega, ct2, hu]; omega) (by omega) hG hS (lv_sub hl [0, 1, 2] rfl)
  exact loop4 _ 0 0 _ _ _ (by omega) (by omega) rfl (Nat.lt_succ_self _) hG hS (lv_sub hl [0, 1, 2] rfl)

