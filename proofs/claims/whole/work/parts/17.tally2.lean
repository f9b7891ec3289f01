theorem mdown {i d : Int} {n : Nat} (h : (d + 1 - i).toNat < n + 1) (h2 : ¬ d < i) : (d + 1 - (i + 1)).toNat < n := by omega
def wideP (d : Nat) (P : Nat → Nat → Prop) (a c : Nat) : Prop := ∃ a2 c2 : Nat, (a2 < 64 ∧ c2 < 64) ∧ (a ≤ a2 + d ∧ a2 ≤ a + d) ∧ (c ≤ c2 + d ∧ c2 ≤ c + d) ∧ P a2 c2
theorem wide_P {d : Nat} {S : Nat → Nat → Bool} {P : Nat → Nat → Prop} (h : ∀ x y, x < 64 → y < 64 → (S x y = true ↔ P x y)) (a c : Nat) : wide d S a c ↔ wideP d P a c := by
  constructor
  · rintro ⟨a2, c2, h1, h2, h3, h4⟩; exact ⟨a2, c2, h1, h2, h3, (h a2 c2 h1.1 h1.2).mp h4⟩
  · rintro ⟨a2, c2, h1, h2, h3, h4⟩; exact ⟨a2, c2, h1, h2, h3, (h a2 c2 h1.1 h1.2).mpr h4⟩
/-- where a thing can be d ticks behind a, if it was in counted places at k ticks at most -/
def lev (F : Nat → Nat → Int) (s : Nat) (C : Nat → Nat → Bool) (a : Nat) : Nat → Nat → Nat → Nat → Prop
  | 0, k, x, y => inB F a x y ∧ (C x y = true → 1 ≤ k)
  | d + 1, k, x, y => inB F (a + d + 1) x y ∧ ((C x y = false ∧ wideP s (lev F s C a d k) x y) ∨ (C x y = true ∧ 1 ≤ k ∧ wideP s (lev F s C a d (k - 1)) x y))
/-- every place of a tick has one of the tick before within reach -/
abbrev lnk (F : Nat → Nat → Int) (s : Nat) : Prop := ∀ t x y : Nat, t < 79 → x < 64 → y < 64 → inB F (t + 1) x y → wideP s (inB F t) x y
def Jv (F : Nat → Nat → Int) (s : Nat) (C : Nat → Nat → Bool) (a d : Nat) (f g : Int) (S : Nat → Nat → Nat → Bool) : Prop :=
  (0 ≤ f ∧ f ≤ g ∧ g ≤ (d : Int) + 1) ∧ (∀ k : Nat, f ≤ k → (k : Int) < g → ∀ x y, x < 64 → y < 64 → (S k x y = true ↔ lev F s C a d k x y)) ∧ (∀ k : Nat, (k : Int) < f → ∀ x y, x < 64 → y < 64 → ¬ lev F s C a d k x y) ∧ (∀ k : Nat, g ≤ k → ∀ x y, x < 64 → y < 64 → (lev F s C a d k x y ↔ inB F (a + d) x y)) ∧ (f < g → ∃ x y, x < 64 ∧ y < 64 ∧ S f.toNat x y = true)
theorem Jnar {F : Nat → Nat → Int} {s : Nat} {C : Nat → Nat → Bool} {a d : Nat} {f g f1 g1 : Int} {S : Nat → Nat → Nat → Bool} (h0 : 0 ≤ f ∧ f ≤ g ∧ g ≤ (d : Int) + 1) (h1 : ∀ k : Nat, f ≤ k → (k : Int) < g → ∀ x y, x < 64 → y < 64 → (S k x y = true ↔ lev F s C a d k x y)) (h2 : ∀ k : Nat, (k : Int) < f → ∀ x y, x < 64 → y < 64 → ¬ lev F s C a d k x y) (h3 : ∀ k : Nat, g ≤ k → ∀ x y, x < 64 → y < 64 → (lev F s C a d k x y ↔ inB F (a + d) x y))
    (e1 : f ≤ f1) (e2 : f1 ≤ g1) (e3 : g1 ≤ g) (e4 : ∀ k : Nat, f ≤ k → (k : Int) < f1 → ∀ x y : Nat, x < 64 → y < 64 → S k x y = false) (e5 : f1 < g → ∃ x y : Nat, x < 64 ∧ y < 64 ∧ S f1.toNat x y = true) (e6 : ∀ k : Nat, g1 ≤ k → (k : Int) < g → ∀ x y : Nat, F (a + d) 0 ≤ x → (x : Int) ≤ F (a + d) 1 → F (a + d) 2 ≤ y → (y : Int) ≤ F (a + d) 3 → S k x y = true)
    (hin : ∀ k x y, lev F s C a d k x y → inB F (a + d) x y) : Jv F s C a d f1 g1 S := by
  refine ⟨⟨by omega, e2, by omega⟩, fun k q1 q2 => h1 k (by omega) (by omega), fun k q x y hx hy z => ?_, fun k q x y hx hy => ?_, fun q => e5 (by omega)⟩
  · rcases Int.lt_or_le (k : Int) f with w | w
    · exact h2 k w x y hx hy z
    · have := (h1 k w (by omega) x y hx hy).mpr z
      rw [e4 k w q x y hx hy] at this
      cases this
  · rcases Int.lt_or_le (k : Int) g with w | w
    · exact ⟨hin k x y, fun z => (h1 k (by omega) w x y hx hy).mp (e6 k q w x y z.1.1 z.1.2 z.2.1 z.2.2)⟩
    · exact h3 k w x y hx hy
theorem lev_in {F : Nat → Nat → Int} {s : Nat} {C : Nat → Nat → Bool} {a : Nat} : ∀ d k x y, lev F s C a d k x y → inB F (a + d) x y
  | 0, _, _, _, h => h.1
  | _ + 1, _, _, _, h => h.1
theorem J0 {F : Nat → Nat → Int} {s : Nat} {C : Nat → Nat → Bool} {a : Nat} {f1 g1 : Int} {S2 S3 : Nat → Nat → Nat → Bool} (hS2 : ∀ x y : Nat, x < 64 → y < 64 → (S2 0 x y = true ↔ inB F a x y)) (hS3 : ∀ x y : Nat, x < 64 → S3 0 x y = (S2 0 x y && !C x y))
    (e1 : 0 ≤ f1) (e2 : f1 ≤ g1) (e3 : g1 ≤ 1) (e4 : ∀ k : Nat, (0 : Int) ≤ k → (k : Int) < f1 → ∀ x y : Nat, x < 64 → y < 64 → S3 k x y = false) (e5 : f1 < 1 → ∃ x y : Nat, x < 64 ∧ y < 64 ∧ S3 f1.toNat x y = true) (e6 : ∀ k : Nat, g1 ≤ k → (k : Int) < 1 → ∀ x y : Nat, F a 0 ≤ x → (x : Int) ≤ F a 1 → F a 2 ≤ y → (y : Int) ≤ F a 3 → S3 k x y = true) : Jv F s C a 0 f1 g1 S3 := by
  refine Jnar (f := 0) (g := 1) ⟨by omega, by omega, by omega⟩ (fun k q1 q2 x y hx hy => ?_) (fun k q => absurd q (by omega)) (fun k q x y hx hy => ?_) e1 e2 e3 e4 e5 e6 (lev_in 0)
  · rw [show k = 0 by omega, hS3 x y hx, Bool.and_eq_true, hS2 x y hx hy]
    show _ ↔ inB F a x y ∧ (C x y = true → 1 ≤ 0)
    constructor
    · rintro ⟨g1, g2⟩; exact ⟨g1, fun z => by rw [z] at g2; cases g2⟩
    · rintro ⟨g1, g2⟩
      refine ⟨g1, ?_⟩
      rcases h : C x y with _ | _
      · rfl
      · exact absurd (g2 h) (by omega)
  · show inB F a x y ∧ (C x y = true → 1 ≤ k) ↔ inB F (a + 0) x y
    exact ⟨fun z => z.1, fun z => ⟨z, fun _ => by omega⟩⟩
theorem J1 {F : Nat → Nat → Int} {s : Nat} {C : Nat → Nat → Bool} {a d : Nat} {f g f1 g1 : Int} {S S2 S3 : Nat → Nat → Nat → Bool} (hJ : Jv F s C a d f g S) (hl : lnk F s) (had : a + d < 79)
    (hS2 : ∀ k : Nat, f ≤ k → (k : Int) < g → ∀ x y : Nat, x < 64 → y < 64 → (S2 k x y = true ↔ inB F (a + d + 1) x y ∧ wide s (S k) x y)) (hS2g : ∀ x y : Nat, x < 64 → y < 64 → (S2 g.toNat x y = true ↔ inB F (a + d + 1) x y))
    (hS3 : ∀ k : Nat, f < k → (k : Int) ≤ g → ∀ x y : Nat, x < 64 → S3 k x y = ((S2 k x y && !C x y) || (S2 (k - 1) x y && C x y))) (hS3f : ∀ x y : Nat, x < 64 → S3 f.toNat x y = (S2 f.toNat x y && !C x y))
    (e1 : f ≤ f1) (e2 : f1 ≤ g1) (e3 : g1 ≤ g + 1) (e4 : ∀ k : Nat, f ≤ k → (k : Int) < f1 → ∀ x y : Nat, x < 64 → y < 64 → S3 k x y = false) (e5 : f1 < g + 1 → ∃ x y : Nat, x < 64 ∧ y < 64 ∧ S3 f1.toNat x y = true) (e6 : ∀ k : Nat, g1 ≤ k → (k : Int) < g + 1 → ∀ x y : Nat, F (a + d + 1) 0 ≤ x → (x : Int) ≤ F (a + d + 1) 1 → F (a + d + 1) 2 ≤ y → (y : Int) ≤ F (a + d + 1) 3 → S3 k x y = true) : Jv F s C a (d + 1) f1 g1 S3 := by
  obtain ⟨⟨j1, j2, j3⟩, j4, j5, j6, -⟩ := hJ
  have full : ∀ k : Nat, g ≤ k → ∀ x y, x < 64 → y < 64 → inB F (a + d + 1) x y → wideP s (lev F s C a d k) x y := by
    intro k hk x y hx hy hb
    obtain ⟨x2, y2, q1, q2, q3, q4⟩ := hl (a + d) x y had hx hy hb
    exact ⟨x2, y2, q1, q2, q3, (j6 k hk x2 y2 q1.1 q1.2).mpr q4⟩
  have none : ∀ k : Nat, (k : Int) < f → ∀ x y, ¬ wideP s (lev F s C a d k) x y := by
    rintro k hk x y ⟨x2, y2, q1, q2, q3, q4⟩
    exact j5 k hk x2 y2 q1.1 q1.2 q4
  have A : ∀ k : Nat, f ≤ k → (k : Int) ≤ g → ∀ x y, x < 64 → y < 64 → (S2 k x y = true ↔ inB F (a + d + 1) x y ∧ wideP s (lev F s C a d k) x y) := by
    intro k q1 q2 x y hx hy
    rcases Int.lt_or_le (k : Int) g with w | w
    · rw [hS2 k q1 w x y hx hy, wide_P (j4 k q1 w)]
    · rw [show k = g.toNat by omega, hS2g x y hx hy]
      exact ⟨fun z => ⟨z, full _ (by omega) x y hx hy z⟩, fun z => z.1⟩
  refine Jnar (f := f) (g := g + 1) ⟨j1, by omega, by omega⟩ (fun k q1 q2 x y hx hy => ?_) (fun k q x y hx hy => ?_) (fun k q x y hx hy => ?_) e1 e2 e3 e4 e5 e6 (lev_in (d + 1))
  · show _ ↔ inB F (a + d + 1) x y ∧ ((C x y = false ∧ wideP s (lev F s C a d k) x y) ∨ (C x y = true ∧ 1 ≤ k ∧ wideP s (lev F s C a d (k - 1)) x y))
    rcases Int.lt_or_le f (k : Int) with w | w
    · rw [hS3 k w (by omega) x y hx, Bool.or_eq_true, Bool.and_eq_true, Bool.and_eq_true, A k q1 (by omega) x y hx hy, A (k - 1) (by omega) (by omega) x y hx hy]
      rcases h : C x y with _ | _
      · simp
      · simp; intro _ _; omega
    · have hk : k = f.toNat := by omega
      rw [hk, hS3f x y hx, Bool.and_eq_true, A f.toNat (by omega) (by omega) x y hx hy]
      rcases h : C x y with _ | _
      · simp
      · constructor
        · rintro ⟨_, z⟩; cases z
        · rintro ⟨_, ⟨z, _⟩ | ⟨_, z1, z2⟩⟩
          · cases z
          · exact absurd z2 (none (f.toNat - 1) (by omega) x y)
  · rintro ⟨-, ⟨-, z⟩ | ⟨-, -, z⟩⟩
    · exact none k q x y z
    · exact none (k - 1) (by omega) x y z
  · show inB F (a + d + 1) x y ∧ ((C x y = false ∧ wideP s (lev F s C a d k) x y) ∨ (C x y = true ∧ 1 ≤ k ∧ wideP s (lev F s C a d (k - 1)) x y)) ↔ inB F (a + (d + 1)) x y
    constructor
    · exact fun z => z.1
    · intro z
      refine ⟨z, ?_⟩
      rcases h : C x y with _ | _
      · exact Or.inl ⟨rfl, full k (by omega) x y hx hy z⟩
      · exact Or.inr ⟨rfl, by omega, full (k - 1) (by omega) x y hx hy z⟩
/-- the fewest ticks -/
def isMin (F : Nat → Nat → Int) (s : Nat) (C : Nat → Nat → Bool) (a d n : Nat) : Prop := (∃ x y, x < 64 ∧ y < 64 ∧ lev F s C a d n x y) ∧ ∀ k, k < n → ∀ x y, x < 64 → y < 64 → ¬ lev F s C a d k x y
theorem Jmin {F : Nat → Nat → Int} {s : Nat} {C : Nat → Nat → Bool} {a d : Nat} {f g : Int} {S : Nat → Nat → Nat → Bool} (hJ : Jv F s C a d f g S) (hne : neB F (a + d)) (hR : in63 F) : isMin F s C a d f.toNat := by
  obtain ⟨⟨j1, j2, j3⟩, j4, j5, j6, j7⟩ := hJ
  refine ⟨?_, fun k hk => j5 k (by omega)⟩
  rcases Int.lt_or_le f g with w | w
  · obtain ⟨x, y, hx, hy, h⟩ := j7 w
    exact ⟨x, y, hx, hy, (j4 f.toNat (by omega) (by omega) x y hx hy).mp h⟩
  · have r0 := hR (a + d) 0
    have r1 := hR (a + d) 1
    have r2 := hR (a + d) 2
    have r3 := hR (a + d) 3
    have n1 := hne.1
    have n2 := hne.2
    refine ⟨(F (a + d) 0).toNat, (F (a + d) 2).toNat, by omega, by omega, (j6 f.toNat (by omega) _ _ (by omega) (by omega)).mpr ⟨⟨by omega, by omega⟩, ⟨by omega, by omega⟩⟩⟩

set_option maxHeartbeats 4000000 in
set_option maxRecDepth 100000 in
theorem c_X2_advance (l : Launch) (D : va_G) (b : Nat) (M : mM) (ta lv : Nat) (lf : Nat → Option Nat) (pk rk : Nat → Nat) (f g : Int) (S : Nat → Nat → Nat → Bool) (hA : TaOk M ta lv lf pk rk f g S) (hf : 0 ≤ f) (hfg : f ≤ g) (hg : g ≤ 80) (th tk wh ra rc : Nat) (rf : Nat → Option Nat) (bx : Nat → Nat) (sp n j : Int) (vt vw vr : Nat → Int) (F : Nat → Nat → Int) (hT : ThOk M th tk wh ra rc rf bx sp n j vt vw vr F) (hsp0 : 0 ≤ sp) (hsp1 : sp ≤ 7) (t0 : Int) (ht0 : 0 ≤ t0) (ht1 : t0 < 80) (hR : in63 F) (hne : neB F t0.toNat) : Met l yX2_advance wsX2_advance ({ frames := 3, cells := 0, slots := 0, locals := 67 } : Room) (mPc [.ref ta, .ref th, .int (iI t0)] D b M) (mQv D b (fun M1 => ∃ S1 : Nat → Nat → Nat → Bool, TaOk M1 ta lv lf pk rk f g S1 ∧ (∀ a, (∀ k, k < 81 → a ≠ rk k) → M1 a = M a) ∧ (∀ k : Nat, f ≤ k → (k : Int) < g → ∀ x y : Nat, x < 64 → y < 64 → (S1 k x y = true ↔ inB F t0.toNat x y ∧ wide sp.toNat (S k) x y)) ∧ (∀ x y : Nat, x < 64 → y < 64 → (S1 g.toNat x y = true ↔ inB F t0.toNat x y)))) 0 0 (mF b) := by
  refine m_met (cc := cX2_advance) (maxL := 4) (ret := none) (by decide) rfl (Nat.le_of_ble_eq_true rfl) ?_
  intro p e s m args below meth c Q ls hx hb hml hr hts hown hlk hnm hQ K hG hS hl
  have hown : s.vm.findClass RX2 = some m.cls := hown
  have hl : lv_has ls 4 [(0, .ref ta), (1, .ref th), (2, .int (iI t0))] := hl
  obtain ⟨a1, a2, hlf, hpk, hrk, injr⟩ := id hA
  have nta : ∀ k, k < 81 → ta ≠ rk k := fun k q => mne a1 (hrk k q) (by intro h; cases h)
  have nlv : ∀ k, k < 81 → lv ≠ rk k := fun k q => mne a2 (hrk k q) (by intro h; cases h)
  have npk : ∀ j k, j < 81 → k < 81 → pk j ≠ rk k := fun j k q q2 => mne (hpk j q) (hrk k q2) (by intro h; cases h)
  obtain ⟨h1, ht, hw, hra, hrc, hrf, hB, ⟨n1, n2, n3⟩, inj⟩ := id hT
  have nbth : ∀ t, t < 80 → th ≠ bx t := fun t q => mne h1 (hB t q) (by intro h; cases h)
  have nbtk : ∀ t, t < 80 → tk ≠ bx t := fun t q => mne ht (hB t q) (by intro h; cases h)
  have nbwh : ∀ t, t < 80 → wh ≠ bx t := fun t q => mne hw (hB t q) (by intro h; cases h)
  have nbra : ∀ t, t < 80 → ra ≠ bx t := fun t q => mne hra (hB t q) (by intro h; cases h)
  have nbrc : ∀ t, t < 80 → rc ≠ bx t := fun t q => mne hrc (hB t q) (by intro h; cases h)
  have nth : ∀ k, k < 81 → th ≠ rk k := fun k q => mne h1 (hrk k q) (by intro h; cases h)
  refine lv_aload_n hx hb dX2_advance_0 rfl (lv_at hl 0 rfl) ?_
  refine m_get (ci := 2) (v := .int (iI f)) (C := RX2) (T := TX2) (N := 3) hx hb hts (by decide +kernel) hown K hG a1 rfl 1 (by decide) (by decide +kernel) rfl dX2_advance_1 ?_
  refine lv_istore_n (lv' := [(3, .int (iI f)), (0, .ref ta), (1, .ref th), (2, .int (iI t0))]) hx hb dX2_advance_4 rfl hl (by decide) rfl (fun ls hl => ?_)
  have loop5 : ∀ (fuel : Nat) (i : Int) (M1 : mM) (S1 : Nat → Nat → Nat → Bool) (H : Heap) (locs : List Loc) (ls : Array Slot), (f ≤ i) → (i ≤ g) → (∀ k, k < 81 → M1 (rk k) = some (aL 64 (S1 k))) → (∀ a, (∀ k, k < 81 → a ≠ rk k) → M1 a = M a) → (∀ k : Nat, f ≤ k → (k : Int) < i → ∀ x y : Nat, x < 64 → y < 64 → (S1 k x y = true ↔ inB F t0.toNat x y ∧ wide sp.toNat (S k) x y)) → (∀ k : Nat, i ≤ (k : Int) → S1 k = S k) → (g - i).toNat < fuel → mG D b M1 s H → va_S (mF b) s.heap H locs → lv_has ls 4 [(3, .int (iI i)), (0, .ref ta), (1, .ref th), (2, .int (iI t0))] → W p l e ({ frames := 3, cells := 0, slots := 0, locals := 67 } : Room) s m args below meth c H locs 0 0 Q (F0 m 5 ls []) := by
    intro fuel
    induction fuel with
    | zero => intro i M1 S1 H locs ls hi0 hi1 hr1 hF1 hU hV hm; exact absurd hm (Nat.not_lt_zero _)
    | succ fuel ih5 =>
      intro i M1 S1 H locs ls hi0 hi1 hr1 hF1 hU hV hm hG hS hl
      refine lv_iload_n hx hb dX2_advance_5 rfl (lv_at hl 0 rfl) ?_
      refine lv_aload_n hx hb dX2_advance_6 rfl (lv_at hl 1 rfl) ?_
      refine m_get (ci := 2) (v := .int (iI g)) (C := RX2) (T := TX2) (N := 3) hx hb hts (by decide +kernel) hown K hG ((hF1 ta nta).trans a1) rfl 2 (by decide) (by decide +kernel) rfl dX2_advance_7 ?_
      refine m_icmp_ge (tgt := 30) hx hb dX2_advance_10 (by decide) ⟨by omega, by omega⟩ ⟨by omega, by omega⟩ (fun c10 => ?_) (fun c10 => ?_)
      · have hv1 := (hR t0.toNat 0).1
        have hv2 := hne.1
        have hv3 := (hR t0.toNat 1).2
        have hv4 := (hR t0.toNat 2).1
        have hv5 := hne.2
        have hv6 := (hR t0.toNat 3).2
        refine lv_aload_n hx hb dX2_advance_30 rfl (lv_at hl 1 rfl) ?_
        refine m_get (ci := 2) (v := .ref lv) (C := RX2) (T := TX2) (N := 3) hx hb hts (by decide +kernel) hown K hG ((hF1 ta nta).trans a1) rfl 0 (by decide) (by decide +kernel) rfl dX2_advance_31 ?_
        refine lv_aload_n hx hb dX2_advance_34 rfl (lv_at hl 1 rfl) ?_
        refine m_get (ci := 2) (v := .int (iI g)) (C := RX2) (T := TX2) (N := 3) hx hb hts (by decide +kernel) hown K hG ((hF1 ta nta).trans a1) rfl 2 (by decide) (by decide +kernel) rfl dX2_advance_35 ?_
        refine m_aald hx hb hG ((hF1 lv nlv).trans a2) g.toNat (by omega) (by omega) (by decide) (hlf g.toNat (by omega)) dX2_advance_38 ?_
        refine lv_aload_n hx hb dX2_advance_39 rfl (lv_at hl 2 rfl) ?_
        refine lv_iload_n hx hb dX2_advance_40 rfl (lv_at hl 3 rfl) ?_
        refine m_callfq (m_runV (a := th) (As := [.int (iI t0)]) (rest := [.ref (pk g.toNat)]) ⟨hx, hb, hml, hown, hts⟩ (c_X3_reachAt l D b _ th tk wh ra rc rf bx sp n j vt vw vr F (ThOk_fr hT (fun a v h8 h9 _ => hF1 a (fun k q => mne h8 (hrk k q) (h9 (S k))))) t0 ht0 ht1) (cwV 1 hts gX2_advance_X3_reachAt rfl rfl rfl (by decide +kernel) ⟨Nat.le_of_ble_eq_true rfl, Nat.le_of_ble_eq_true rfl⟩) K hG ((hF1 th nth).trans h1) rfl rfl rfl hl.1 rfl (Nat.le_of_ble_eq_true rfl) dX2_advance_41 ⟨Nat.le_of_ble_eq_true rfl, Nat.le_of_ble_eq_true rfl⟩) hS (fun H locs hG hS => ?_)
        refine W.eq (g2 := F0 m 44 ls [.ref (bx t0.toNat), .ref (pk g.toNat)]) rfl ?_
        have hG : mG D b M1 s H := hG
        refine m_callfv (m_runV (a := pk g.toNat) (As := [.ref (bx t0.toNat)]) (rest := []) ⟨hx, hb, hml, hown, hts⟩ (c_X1_setTo l D b _ (pk g.toNat) (rk g.toNat) (S1 g.toNat) ((hF1 (pk g.toNat) (fun k q => npk g.toNat k (by omega) q)).trans (hpk g.toNat (by omega))) (hr1 g.toNat (by omega)) (bx t0.toNat) (F t0.toNat 0) (F t0.toNat 1) (F t0.toNat 2) (F t0.toNat 3) ((hF1 (bx t0.toNat) (fun k q => mne (hB t0.toNat (by omega)) (hrk k q) (by intro h; cases h))).trans (hB t0.toNat (by omega))) hv1 hv2 hv3 hv4 hv5 hv6) (cwV 1 hts gX2_advance_X1_setTo rfl rfl rfl (by decide +kernel) ⟨Nat.le_of_ble_eq_true rfl, Nat.le_of_ble_eq_true rfl⟩) K hG ((hF1 (pk g.toNat) (fun k q => npk g.toNat k (by omega) q)).trans (hpk g.toNat (by omega))) rfl rfl rfl hl.1 rfl (Nat.le_of_ble_eq_true rfl) dX2_advance_44 ⟨Nat.le_of_ble_eq_true rfl, Nat.le_of_ble_eq_true rfl⟩) hS (fun H locs hG hS => ?_)
        have hG : mG D b (mset M1 (rk g.toNat) (aL 64 (fun (a c : Nat) => if (a : Int) < 64 then (decide (F t0.toNat 0 ≤ (a : Int) ∧ (a : Int) ≤ F t0.toNat 1) && decide (F t0.toNat 2 ≤ (c : Int) ∧ (c : Int) ≤ F t0.toNat 3)) else (S1 g.toNat) a c))) s H := hG
        exact m_vret hx hb hr hlk hQ hG hS (Nat.le_of_ble_eq_true rfl) (Nat.le_of_ble_eq_true rfl) dX2_advance_47 ⟨va_up S1 g.toNat _, ⟨(mset_ne (nta g.toNat (by omega))).trans ((hF1 ta nta).trans a1), (mset_ne (nlv g.toNat (by omega))).trans ((hF1 lv nlv).trans a2), hlf, (fun k q => (mset_ne (npk k g.toNat q (by omega))).trans ((hF1 (pk k) (fun k2 q2 => npk k k2 q q2)).trans (hpk k q))), (fun k q => rks_set injr hr1 (by omega) k q), injr⟩, (fun a q => (mset_ne (q g.toNat (by omega))).trans (hF1 a q)), (fun k q1 q2 x y hx9 hy9 => by rw [va_up_ne _ _ (by omega)]; exact hU k q1 (by omega) x y hx9 hy9), (fun x y hx9 hy9 => by rw [va_up_self, if_pos (by omega), Bool.and_eq_true, decide_eq_true_eq, decide_eq_true_eq])⟩
      · refine lv_aload_n hx hb dX2_advance_13 rfl (lv_at hl 2 rfl) ?_
        refine lv_aload_n hx hb dX2_advance_14 rfl (lv_at hl 1 rfl) ?_
        refine m_get (ci := 2) (v := .ref lv) (C := RX2) (T := TX2) (N := 3) hx hb hts (by decide +kernel) hown K hG ((hF1 ta nta).trans a1) rfl 0 (by decide) (by decide +kernel) rfl dX2_advance_15 ?_
        refine lv_iload_n hx hb dX2_advance_18 rfl (lv_at hl 0 rfl) ?_
        refine m_aald hx hb hG ((hF1 lv nlv).trans a2) i.toNat (by omega) (by omega) (by decide) (hlf i.toNat (by omega)) dX2_advance_19 ?_
        refine lv_iload_n hx hb dX2_advance_20 rfl (lv_at hl 3 rfl) ?_
        refine m_callv (m_runV (a := th) (As := [.ref (pk i.toNat), .int (iI t0)]) (rest := []) ⟨hx, hb, hml, hown, hts⟩ (c_X3_advance l D b _ th tk wh ra rc rf bx sp n j vt vw vr F (ThOk_fr hT (fun a v h8 h9 _ => hF1 a (fun k q => mne h8 (hrk k q) (h9 (S k))))) hsp0 hsp1 (pk i.toNat) (rk i.toNat) (S1 i.toNat) ((hF1 (pk i.toNat) (fun k q => npk i.toNat k (by omega) q)).trans (hpk i.toNat (by omega))) (hr1 i.toNat (by omega)) t0 ht0 ht1 hR hne) (cwV 2 hts gX2_advance_X3_advance rfl rfl rfl (by decide +kernel) ⟨Nat.le_of_ble_eq_true rfl, Nat.le_of_ble_eq_true rfl⟩) K hG ((hF1 th nth).trans h1) rfl rfl rfl hl.1 rfl (Nat.le_of_ble_eq_true rfl) dX2_advance_21 ⟨Nat.le_of_ble_eq_true rfl, Nat.le_of_ble_eq_true rfl⟩) hS (fun M2 H locs hw3 hG hS => ?_)
        obtain ⟨T2, hwM2, hT2⟩ := hw3
        rw [hwM2] at hG
        refine m_iinc (lv' := [(3, .int (iI (i + 1))), (0, .ref ta), (1, .ref th), (2, .int (iI t0))]) (k := 0) hx hb dX2_advance_24 hl rfl (by decide) rfl (fun ls hl => ?_)
        refine lv_goto (tgt := 5) hx hb dX2_advance_27 (by decide) ?_
        exact ih5 (i + 1) (mset M1 (rk i.toNat) (aL 64 T2)) (va_up S1 i.toNat T2) _ _ _ (by omega) (by omega) (rks_set injr hr1 (by omega)) (rks_fr hF1 (by omega)) (fun k q1 q2 x y hx9 hy9 => by by_cases g9 : k = i.toNat; rw [g9, va_up_self, hT2 x y hx9 hy9, hV _ (by omega)]; rw [va_up_ne _ _ g9]; exact hU k q1 (by omega) x y hx9 hy9) (fun k q => by rw [va_up_ne _ _ (by omega)]; exact hV k (by omega)) (by omega) hG hS (lv_sub hl [0, 1, 2, 3] rfl)
  exact loop5 _ f M S _ _ _ (by omega) (by omega) hrk (fun a _ => rfl) (fun k q1 q2 => absurd q2 (by omega)) (fun k _ => rfl) (Nat.lt_succ_self _) hG hS (lv_sub hl [0, 1, 2, 3] rfl)

set_option maxHeartbeats 4000000 in
set_option maxRecDepth 100000 in
theorem c_X2_fewest (l : Launch) (D : va_G) (b : Nat) (M : mM) (ta lv : Nat) (lf : Nat → Option Nat) (pk rk : Nat → Nat) (f g : Int) (S : Nat → Nat → Nat → Bool) (hA : TaOk M ta lv lf pk rk f g S) (th tk wh ra rc : Nat) (rf : Nat → Option Nat) (bx : Nat → Nat) (sp n j : Int) (vt vw vr : Nat → Int) (F : Nat → Nat → Int) (hT : ThOk M th tk wh ra rc rf bx sp n j vt vw vr F) (hsp0 : 0 ≤ sp) (hsp1 : sp ≤ 7) (p2 r2 : Nat) (S2 : Nat → Nat → Bool) (gp : M p2 = some (Pl r2)) (gr : M r2 = some (aL 64 S2)) (nr2 : ∀ k, k < 81 → r2 ≠ rk k) (a0 b0 : Int) (ha0 : 0 ≤ a0) (hab : a0 ≤ b0) (hb0 : b0 < 80) (hR : in63 F) (hne : ∀ t, t < 80 → neB F t) (hl9 : lnk F sp.toNat) : Met l yX2_fewest wsX2_fewest ({ frames := 4, cells := 0, slots := 0, locals := 90 } : Room) (mPc [.ref ta, .ref th, .ref p2, .int (iI a0), .int (iI b0)] D b M) (mQi D b (fun r M1 => ∃ (z : Nat) (f1 g1 : Int) (S1 : Nat → Nat → Nat → Bool), r = iI z ∧ z ≤ 80 ∧ isMin F sp.toNat S2 a0.toNat (b0 - a0).toNat z ∧ TaOk M1 ta lv lf pk rk f1 g1 S1 ∧ (∀ a, a ≠ ta → (∀ k, k < 81 → a ≠ rk k) → M1 a = M a))) 0 0 (mF b) := by
  refine m_met (cc := cX2_fewest) (maxL := 6) (ret := (some .int)) (by decide) rfl (Nat.le_of_ble_eq_true rfl) ?_
  intro p e s m args below meth c Q ls hx hb hml hr hts hown hlk hnm hQ K hG hS hl
  have hown : s.vm.findClass RX2 = some m.cls := hown
  have hl : lv_has ls 6 [(0, .ref ta), (1, .ref th), (2, .ref p2), (3, .int (iI a0)), (4, .int (iI b0))] := hl
  obtain ⟨a1, a2, hlf, hpk, hrk, injr⟩ := id hA
  have nta : ∀ k, k < 81 → ta ≠ rk k := fun k q => mne a1 (hrk k q) (by intro h; cases h)
  have nlv : ∀ k, k < 81 → lv ≠ rk k := fun k q => mne a2 (hrk k q) (by intro h; cases h)
  have npk : ∀ j k, j < 81 → k < 81 → pk j ≠ rk k := fun j k q q2 => mne (hpk j q) (hrk k q2) (by intro h; cases h)
  obtain ⟨h1, ht, hw, hra, hrc, hrf, hB, ⟨n1, n2, n3⟩, inj⟩ := id hT
  have nbth : ∀ t, t < 80 → th ≠ bx t := fun t q => mne h1 (hB t q) (by intro h; cases h)
  have nbtk : ∀ t, t < 80 → tk ≠ bx t := fun t q => mne ht (hB t q) (by intro h; cases h)
  have nbwh : ∀ t, t < 80 → wh ≠ bx t := fun t q => mne hw (hB t q) (by intro h; cases h)
  have nbra : ∀ t, t < 80 → ra ≠ bx t := fun t q => mne hra (hB t q) (by intro h; cases h)
  have nbrc : ∀ t, t < 80 → rc ≠ bx t := fun t q => mne hrc (hB t q) (by intro h; cases h)
  have nth : ∀ k, k < 81 → th ≠ rk k := fun k q => mne h1 (hrk k q) (by intro h; cases h)
  have nthta : th ≠ ta := mne h1 a1 (by intro h; cases h)
  have np2ta : p2 ≠ ta := mne gp a1 (by intro h; cases h)
  have nr2ta : r2 ≠ ta := mne gr a1 (by intro h; cases h)
  have np2 : ∀ k, k < 81 → p2 ≠ rk k := fun k q => mne gp (hrk k q) (by intro h; cases h)
  refine lv_aload_n hx hb dX2_fewest_0 rfl (lv_at hl 0 rfl) ?_
  refine lv_iconst (v := iI 0) hx hb dX2_fewest_1 rfl ?_
  refine m_put (ci := 2) (v := .int (iI 0)) (ty := .int) (fs' := [.ref lv, .int (iI 0), .int (iI g)]) (C := RX2) (T := TX2) (N := 3) hx hb hts (by decide +kernel) tyX2 tyX2_ok nmX2 hown K hG hS a1 rfl 1 (by decide) (by decide +kernel) rfl (by decide +kernel) rfl rfl (Nat.le_of_ble_eq_true rfl) rfl dX2_fewest_2 (fun H locs hG hS => ?_)
  have hG : mG D b (mset M ta (.inr (2, [.ref lv, .int (iI 0), .int (iI g)]))) s H := hG
  refine lv_aload_n hx hb dX2_fewest_5 rfl (lv_at hl 0 rfl) ?_
  refine lv_iconst (v := iI 0) hx hb dX2_fewest_6 rfl ?_
  refine m_put (ci := 2) (v := .int (iI 0)) (ty := .int) (fs' := [.ref lv, .int (iI 0), .int (iI 0)]) (C := RX2) (T := TX2) (N := 3) hx hb hts (by decide +kernel) tyX2 tyX2_ok nmX2 hown K hG hS mset_self rfl 2 (by decide) (by decide +kernel) rfl (by decide +kernel) rfl rfl (Nat.le_of_ble_eq_true rfl) rfl dX2_fewest_7 (fun H locs hG hS => ?_)
  rw [mset_mset] at hG
  have hG : mG D b (mset M ta (.inr (2, [.ref lv, .int (iI 0), .int (iI 0)]))) s H := hG
  refine lv_iload_n hx hb dX2_fewest_10 rfl (lv_at hl 3 rfl) ?_
  refine lv_istore (lv' := [(5, .int (iI a0)), (0, .ref ta), (1, .ref th), (2, .ref p2), (3, .int (iI a0)), (4, .int (iI b0))]) hx hb dX2_fewest_11 hl (by decide) rfl (fun ls hl => ?_)
  have loop13 : ∀ (fuel : Nat) (i : Int) (M1 : mM) (f1 : Int) (g1 : Int) (S1 : Nat → Nat → Nat → Bool) (H : Heap) (locs : List Loc) (ls : Array Slot), (a0 ≤ i) → (i ≤ b0 + 1) → (TaOk M1 ta lv lf pk rk f1 g1 S1) → (∀ a, a ≠ ta → (∀ k, k < 81 → a ≠ rk k) → M1 a = M a) → (0 ≤ f1 ∧ f1 ≤ g1 ∧ g1 ≤ i - a0) → ((i = a0 ∧ f1 = 0 ∧ g1 = 0) ∨ (a0 < i ∧ Jv F sp.toNat S2 a0.toNat (i - 1 - a0).toNat f1 g1 S1)) → (b0 + 1 - i).toNat < fuel → mG D b M1 s H → va_S (mF b) s.heap H locs → lv_has ls 6 [(5, .int (iI i)), (0, .ref ta), (1, .ref th), (2, .ref p2), (3, .int (iI a0)), (4, .int (iI b0))] → W p l e ({ frames := 4, cells := 0, slots := 0, locals := 90 } : Room) s m args below meth c H locs 0 0 Q (F0 m 13 ls []) := by
    intro fuel
    induction fuel with
    | zero => intro i M1 f1 g1 S1 H locs ls hi0 hi1 hA1 hF1 hfg1 hJ hm; exact absurd hm (Nat.not_lt_zero _)
    | succ fuel ih13 =>
      intro i M1 f1 g1 S1 H locs ls hi0 hi1 hA1 hF1 hfg1 hJ hm hG hS hl
      refine lv_iload hx hb dX2_fewest_13 (lv_at hl 0 rfl) ?_
      refine lv_iload hx hb dX2_fewest_15 (lv_at hl 5 rfl) ?_
      refine m_icmp_gt (tgt := 48) hx hb dX2_fewest_17 (by decide) ⟨by omega, by omega⟩ ⟨by omega, by omega⟩ (fun c17 => ?_) (fun c17 => ?_)
      · refine lv_aload_n hx hb dX2_fewest_48 rfl (lv_at hl 1 rfl) ?_
        refine m_get (ci := 2) (v := .int (iI f1)) (C := RX2) (T := TX2) (N := 3) hx hb hts (by decide +kernel) hown K hG hA1.1 rfl 1 (by decide) (by decide +kernel) rfl dX2_fewest_49 ?_
        exact m_iret hx hb hr hlk hQ hG hS (Nat.le_of_ble_eq_true rfl) (Nat.le_of_ble_eq_true rfl) dX2_fewest_52 (by rcases hJ with ⟨q1, q2, q3⟩ | ⟨q1, q2⟩; exact absurd q1 (by omega); exact ⟨f1.toNat, f1, g1, S1, (congrArg iI (by omega)), (by omega), (by have h9 := Jmin q2 (hne _ (by omega)) hR; rw [show (i - 1 - a0).toNat = (b0 - a0).toNat by omega] at h9; exact h9), hA1, hF1⟩)
      · refine lv_aload_n hx hb dX2_fewest_20 rfl (lv_at hl 1 rfl) ?_
        refine lv_aload_n hx hb dX2_fewest_21 rfl (lv_at hl 2 rfl) ?_
        refine lv_iload hx hb dX2_fewest_22 (lv_at hl 0 rfl) ?_
        refine m_callv (m_runV (a := ta) (As := [.ref th, .int (iI i)]) (rest := []) ⟨hx, hb, hml, hown, hts⟩ (c_X2_advance l D b _ ta lv lf pk rk f1 g1 S1 hA1 (by omega) (by omega) (by omega) th tk wh ra rc rf bx sp n j vt vw vr F (ThOk_fr hT (fun a v h8 h9 h10 => hF1 a (mne h8 a1 (h10 f g lv)) (fun k q => mne h8 (hrk k q) (h9 (S k))))) hsp0 hsp1 i (by omega) (by omega) hR (hne i.toNat (by omega))) (cwV 2 hts gX2_fewest_X2_advance rfl rfl rfl (by decide +kernel) ⟨Nat.le_of_ble_eq_true rfl, Nat.le_of_ble_eq_true rfl⟩) K hG hA1.1 rfl rfl rfl hl.1 rfl (Nat.le_of_ble_eq_true rfl) dX2_fewest_24 ⟨Nat.le_of_ble_eq_true rfl, Nat.le_of_ble_eq_true rfl⟩) hS (fun M2 H locs hw3 hG hS => ?_)
        obtain ⟨Sx2, hA2, hF2, hU2, hV2⟩ := hw3
        have hK2 : ∀ a, a ≠ ta → (∀ k, k < 81 → a ≠ rk k) → M2 a = M a := fun a q1 q2 => (hF2 a q2).trans (hF1 a q1 q2)
        refine lv_aload_n hx hb dX2_fewest_27 rfl (lv_at hl 1 rfl) ?_
        refine lv_aload_n hx hb dX2_fewest_28 rfl (lv_at hl 3 rfl) ?_
        refine m_callv (m_runV (a := ta) (As := [.ref p2]) (rest := []) ⟨hx, hb, hml, hown, hts⟩ (c_X2_countTick l D b _ ta lv lf pk rk f1 g1 Sx2 hA2 (by omega) (by omega) (by omega) p2 r2 S2 ((hK2 p2 np2ta np2).trans gp) ((hK2 r2 nr2ta nr2).trans gr) nr2) (cwV 1 hts gX2_fewest_X2_countTick rfl rfl rfl (by decide +kernel) ⟨Nat.le_of_ble_eq_true rfl, Nat.le_of_ble_eq_true rfl⟩) K hG hA2.1 rfl rfl rfl hl.1 rfl (Nat.le_of_ble_eq_true rfl) dX2_fewest_29 ⟨Nat.le_of_ble_eq_true rfl, Nat.le_of_ble_eq_true rfl⟩) hS (fun M5 H locs hw6 hG hS => ?_)
        obtain ⟨Sx5, hA5, hF5, hU5, hV5⟩ := hw6
        have hK5 : ∀ a, a ≠ ta → (∀ k, k < 81 → a ≠ rk k) → M5 a = M a := fun a q1 q2 => (hF5 a q1 q2).trans (hK2 a q1 q2)
        refine lv_aload_n hx hb dX2_fewest_32 rfl (lv_at hl 1 rfl) ?_
        refine lv_aload_n hx hb dX2_fewest_33 rfl (lv_at hl 2 rfl) ?_
        refine lv_iload hx hb dX2_fewest_34 (lv_at hl 0 rfl) ?_
        refine m_callfq (m_runV (a := th) (As := [.int (iI i)]) (rest := [.ref ta]) ⟨hx, hb, hml, hown, hts⟩ (c_X3_reachAt l D b _ th tk wh ra rc rf bx sp n j vt vw vr F (ThOk_fr hT (fun a v h8 h9 h10 => hK5 a (mne h8 a1 (h10 f g lv)) (fun k q => mne h8 (hrk k q) (h9 (S k))))) i (by omega) (by omega)) (cwV 1 hts gX2_fewest_X3_reachAt rfl rfl rfl (by decide +kernel) ⟨Nat.le_of_ble_eq_true rfl, Nat.le_of_ble_eq_true rfl⟩) K hG ((hK5 th nthta nth).trans h1) rfl rfl rfl hl.1 rfl (Nat.le_of_ble_eq_true rfl) dX2_fewest_36 ⟨Nat.le_of_ble_eq_true rfl, Nat.le_of_ble_eq_true rfl⟩) hS (fun H locs hG hS => ?_)
        refine W.eq (g2 := F0 m 39 ls [.ref (bx i.toNat), .ref ta]) rfl ?_
        have hG : mG D b M5 s H := hG
        refine m_callv (m_runV (a := ta) (As := [.ref (bx i.toNat)]) (rest := []) ⟨hx, hb, hml, hown, hts⟩ (c_X2_narrow l D b _ ta lv lf pk rk f1 (g1 + 1) Sx5 hA5 (by omega) (by omega) (by omega) (bx i.toNat) (F i.toNat 0) (F i.toNat 1) (F i.toNat 2) (F i.toNat 3) ((hK5 (bx i.toNat) (mne (hB i.toNat (by omega)) a1 (by intro h; cases h)) (fun k q => mne (hB i.toNat (by omega)) (hrk k q) (by intro h; cases h))).trans (hB i.toNat (by omega))) (hR i.toNat 0).1 (hne i.toNat (by omega)).1 (hR i.toNat 1).2 (hR i.toNat 2).1 (hne i.toNat (by omega)).2 (hR i.toNat 3).2) (cwV 1 hts gX2_fewest_X2_narrow rfl rfl rfl (by decide +kernel) ⟨Nat.le_of_ble_eq_true rfl, Nat.le_of_ble_eq_true rfl⟩) K hG hA5.1 rfl rfl rfl hl.1 rfl (Nat.le_of_ble_eq_true rfl) dX2_fewest_39 ⟨Nat.le_of_ble_eq_true rfl, Nat.le_of_ble_eq_true rfl⟩) hS (fun M8 H locs hw9 hG hS => ?_)
        obtain ⟨f8, g8, hA8, hF8, e1_8, e2_8, e3_8, e4_8, e5_8, e6_8⟩ := hw9
        have hK8 : ∀ a, a ≠ ta → (∀ k, k < 81 → a ≠ rk k) → M8 a = M a := fun a q1 q2 => (hF8 a q1).trans (hK5 a q1 q2)
        refine m_iinc (lv' := [(5, .int (iI (i + 1))), (0, .ref ta), (1, .ref th), (2, .ref p2), (3, .int (iI a0)), (4, .int (iI b0))]) (k := 0) hx hb dX2_fewest_42 hl rfl (by decide) rfl (fun ls hl => ?_)
        refine lv_goto (tgt := 13) hx hb dX2_fewest_45 (by decide) ?_
        exact ih13 (i + 1) M8 f8 g8 Sx5 _ _ _ (by omega) (by omega) hA8 hK8 ⟨by omega, by omega, by omega⟩ (by
                  refine Or.inr ⟨by omega, ?_⟩
                  rcases hJ with ⟨q1, q2, q3⟩ | ⟨q1, q2⟩
                  · rw [show (i + 1 - 1 - a0).toNat = 0 by omega]
                    have hz : i.toNat = a0.toNat := by omega
                    rw [hz] at e6_8 hV2
                    rw [q3] at hV2 e3_8 e5_8 e6_8
                    rw [q2] at hV5 e1_8 e4_8
                    exact J0 hV2 hV5 e1_8 e2_8 e3_8 e4_8 e5_8 e6_8
                  · rw [show (i + 1 - 1 - a0).toNat = (i - 1 - a0).toNat + 1 by omega]
                    have hz : i.toNat = a0.toNat + (i - 1 - a0).toNat + 1 := by omega
                    rw [hz] at e6_8 hV2 hU2
                    exact J1 q2 hl9 (by omega) hU2 hV2 hU5 hV5 e1_8 e2_8 e3_8 e4_8 e5_8 e6_8) (mdown hm c17) hG hS (lv_sub hl [0, 1, 2, 3, 4, 5] rfl)
  exact loop13 _ a0 (mset M ta (.inr (2, [.ref lv, .int (iI 0), .int (iI 0)]))) 0 0 S _ _ _ (by omega) (by omega) ⟨mset_self, (mset_ne (mne a2 a1 (by intro h; cases h))).trans a2, hlf, (fun k q => (mset_ne (mne (hpk k q) a1 (by intro h; cases h))).trans (hpk k q)), (fun k q => (mset_ne (nta k q).symm).trans (hrk k q)), injr⟩ (fun a q _ => mset_ne q) ⟨by omega, by omega, by omega⟩ (Or.inl ⟨rfl, rfl, rfl⟩) (Nat.lt_succ_self _) hG hS (lv_sub hl [0, 1, 2, 3, 4, 5] rfl)

