def q4 (a b c d : Int) : Nat → Int := fun k => if k = 0 then a else if k = 1 then b else if k = 2 then c else d
abbrev BF (F : Nat → Nat → Int) (t : Nat) : mE := Bx (F t 0) (F t 1) (F t 2) (F t 3)
theorem BF_congr {F G : Nat → Nat → Int} {t : Nat} (h : ∀ k, F t k = G t k) : BF F t = BF G t := by unfold BF; rw [h 0, h 1, h 2, h 3]
abbrev Th (sp : Int) (tk wh ra rc : Nat) (n j : Int) : mE := .inr (3, [.int (iI sp), .ref tk, .ref wh, .ref ra, .ref rc, .int (iI n), .int (iI j)])
def arF (F : Nat → Nat → Int) (t : Nat) (u v r : Int) : Nat → Int := q4 (max (F t 0) (u - r)) (min (F t 1) (u + r)) (max (F t 2) (v - r)) (min (F t 3) (v + r))
def neF (F : Nat → Nat → Int) (t t2 : Nat) (s : Int) : Nat → Int := q4 (max (F t 0) (F t2 0 - s)) (min (F t 1) (F t2 1 + s)) (max (F t 2) (F t2 2 - s)) (min (F t 3) (F t2 3 + s))
def siF (vt vw vr : Nat → Int) : Nat → Nat → Nat → Int
  | 0 => fun _ => q4 0 63 0 63
  | n + 1 => va_up (siF vt vw vr n) (vt n).toNat (arF (siF vt vw vr n) (vt n).toNat (vw n / 64) (vw n % 64) (vr n))
def fwF (s : Int) (F : Nat → Nat → Int) : Nat → Nat → Nat → Int
  | 0 => F
  | i + 1 => va_up (fwF s F i) (i + 1) (neF (fwF s F i) (i + 1) i s)
def bwF (s : Int) (F : Nat → Nat → Int) : Nat → Nat → Nat → Int
  | 0 => F
  | i + 1 => va_up (bwF s F i) (78 - i) (neF (bwF s F i) (78 - i) (78 - i + 1) s)
/-- where a thing can be, by its first n sights -/
def stF (s : Int) (vt vw vr : Nat → Int) (n : Nat) : Nat → Nat → Int := bwF s (fwF s (siF vt vw vr n) 79) 79
theorem sm63 {z : Int} (h : 0 ≤ z ∧ z ≤ 63) : sm z := ⟨by omega, by omega⟩
abbrev in63 (F : Nat → Nat → Int) : Prop := ∀ t k, 0 ≤ F t k ∧ F t k ≤ 63
theorem q4_rg {a b c d : Int} (h1 : 0 ≤ a ∧ a ≤ 63) (h2 : 0 ≤ b ∧ b ≤ 63) (h3 : 0 ≤ c ∧ c ≤ 63) (h4 : 0 ≤ d ∧ d ≤ 63) (k : Nat) : 0 ≤ q4 a b c d k ∧ q4 a b c d k ≤ 63 := by
  unfold q4
  split
  · exact h1
  · split
    · exact h2
    · split
      · exact h3
      · exact h4
theorem up_rg {F : Nat → Nat → Int} (h : in63 F) (t : Nat) {v : Nat → Int} (hv : ∀ k, 0 ≤ v k ∧ v k ≤ 63) : in63 (va_up F t v) := by
  intro a k
  by_cases g : a = t
  · subst g; rw [va_up_self]; exact hv k
  · rw [va_up_ne _ _ g]; exact h a k
theorem siF_rg {vt vw vr : Nat → Int} : ∀ {n : Nat}, (∀ k, k < n → (0 ≤ vw k ∧ vw k < 4096) ∧ (0 ≤ vr k ∧ vr k < 64)) → in63 (siF vt vw vr n)
  | 0, _ => fun t k => q4_rg (by omega) (by omega) (by omega) (by omega) k
  | n + 1, h => by
    have ih := siF_rg (vt := vt) (n := n) (fun k hk => h k (Nat.lt_succ_of_lt hk))
    obtain ⟨h1, h2⟩ := h n (Nat.lt_succ_self n)
    refine up_rg ih _ (fun k => q4_rg ?_ ?_ ?_ ?_ k)
    · have := ih (vt n).toNat 0; omega
    · have := ih (vt n).toNat 1; omega
    · have := ih (vt n).toNat 2; omega
    · have := ih (vt n).toNat 3; omega
theorem neF_rg {F : Nat → Nat → Int} (h : in63 F) {s : Int} (hs : 0 ≤ s) (t t2 k : Nat) : 0 ≤ neF F t t2 s k ∧ neF F t t2 s k ≤ 63 := by
  refine q4_rg ?_ ?_ ?_ ?_ k
  · have := h t 0; have := h t2 0; omega
  · have := h t 1; have := h t2 1; omega
  · have := h t 2; have := h t2 2; omega
  · have := h t 3; have := h t2 3; omega
theorem fwF_rg {F : Nat → Nat → Int} {s : Int} (hs : 0 ≤ s) (h : in63 F) : ∀ i, in63 (fwF s F i)
  | 0 => h
  | i + 1 => up_rg (fwF_rg hs h i) _ (neF_rg (fwF_rg hs h i) hs _ _)
theorem bwF_rg {F : Nat → Nat → Int} {s : Int} (hs : 0 ≤ s) (h : in63 F) : ∀ i, in63 (bwF s F i)
  | 0 => h
  | i + 1 => up_rg (bwF_rg hs h i) _ (neF_rg (bwF_rg hs h i) hs _ _)
theorem stF_rg {s : Int} (hs : 0 ≤ s) {vt vw vr : Nat → Int} {n : Nat} (h : ∀ k, k < n → (0 ≤ vw k ∧ vw k < 4096) ∧ (0 ≤ vr k ∧ vr k < 64)) : in63 (stF s vt vw vr n) := bwF_rg hs (fwF_rg hs (siF_rg h) 79) 79
theorem bxs_set {M : mM} {bx : Nat → Nat} {F : Nat → Nat → Int} (inj : ∀ t t2, t < 80 → t2 < 80 → bx t = bx t2 → t = t2) (h : ∀ t, t < 80 → M (bx t) = some (BF F t)) {k : Nat} (hk : k < 80) {v : Nat → Int} : ∀ t, t < 80 → mset M (bx k) (Bx (v 0) (v 1) (v 2) (v 3)) (bx t) = some (BF (va_up F k v) t) := by
  intro t ht
  by_cases g : t = k
  · subst g; rw [mset_self]; simp [va_up]
  · rw [mset_ne (fun z => g (inj t k ht hk z)), h t ht]; simp [va_up, g]
theorem bxs_fr {M M0 : mM} {bx : Nat → Nat} (h : ∀ a, (∀ t, t < 80 → a ≠ bx t) → M a = M0 a) {k : Nat} (hk : k < 80) {v : mE} : ∀ a, (∀ t, t < 80 → a ≠ bx t) → mset M (bx k) v a = M0 a := fun a ha => by rw [mset_ne (ha k hk)]; exact h a ha
theorem fld_up (F : Nat → Nat → Int) {i : Int} (hi : 0 ≤ i) : va_up (fun (t : Nat) (k : Nat) => if (t : Int) < i then q4 0 63 0 63 k else F t k) i.toNat (q4 0 63 0 63) = (fun (t : Nat) (k : Nat) => if (t : Int) < i + 1 then q4 0 63 0 63 k else F t k) := by
  funext t k
  by_cases g : t = i.toNat
  · rw [g, va_up_self, if_pos (by omega)]
  · rw [va_up_ne _ _ g]
    by_cases g2 : (t : Int) < i
    · rw [if_pos g2, if_pos (by omega)]
    · rw [if_neg g2, if_neg (by omega)]
abbrev neB (F : Nat → Nat → Int) (t : Nat) : Prop := F t 0 ≤ F t 1 ∧ F t 2 ≤ F t 3
def ThOk (M : mM) (th tk wh ra rc : Nat) (rf : Nat → Option Nat) (bx : Nat → Nat) (sp n j : Int) (vt vw vr : Nat → Int) (F : Nat → Nat → Int) : Prop :=
  M th = some (Th sp tk wh ra rc n j) ∧ M tk = some (aI 12 vt) ∧ M wh = some (aI 12 vw) ∧ M ra = some (aI 12 vr) ∧ M rc = some (aQ RX0 80 rf) ∧ (∀ t, t < 80 → rf t = some (bx t)) ∧ (∀ t, t < 80 → M (bx t) = some (BF F t)) ∧ (tk ≠ wh ∧ tk ≠ ra ∧ wh ≠ ra) ∧ (∀ t t2, t < 80 → t2 < 80 → bx t = bx t2 → t = t2)
abbrev sOk (n : Int) (vt vw vr : Nat → Int) : Prop := ∀ k : Nat, (k : Int) < n → (0 ≤ vt k ∧ vt k < 80) ∧ (0 ≤ vw k ∧ vw k < 4096) ∧ (0 ≤ vr k ∧ vr k < 64)
theorem sOk_le {n n2 : Int} {vt vw vr : Nat → Int} (h : sOk n vt vw vr) (hn : n2 ≤ n) : sOk n2 vt vw vr := fun k hk => h k (by omega)
theorem sOk_up {n : Int} {vt vw vr : Nat → Int} (h : sOk n vt vw vr) (h0 : 0 ≤ n) {t w r : Int} (ht : 0 ≤ t ∧ t < 80) (hw : 0 ≤ w ∧ w < 4096) (hr : 0 ≤ r ∧ r < 64) : sOk (n + 1) (va_up vt n.toNat t) (va_up vw n.toNat w) (va_up vr n.toNat r) := by
  intro k hk
  by_cases g : k = n.toNat
  · rw [g, va_up_self, va_up_self, va_up_self]; exact ⟨ht, hw, hr⟩
  · rw [va_up_ne _ _ g, va_up_ne _ _ g, va_up_ne _ _ g]; exact h k (by omega)

set_option maxHeartbeats 4000000 in
set_option maxRecDepth 100000 in
theorem c_X3_sights (l : Launch) (D : va_G) (b : Nat) (M : mM) (th tk wh ra rc : Nat) (rf : Nat → Option Nat) (bx : Nat → Nat) (sp n j : Int) (vt vw vr : Nat → Int) (F : Nat → Nat → Int) (hT : ThOk M th tk wh ra rc rf bx sp n j vt vw vr F) : Met l yX3_sights wsX3_sights ({ frames := 0, cells := 0, slots := 0, locals := 0 } : Room) (mPc [.ref th] D b M) (mQi D b (fI n M)) 0 0 (mF b) := by
  refine m_met (cc := cX3_sights) (maxL := 1) (ret := (some .int)) (by decide) rfl (Nat.le_of_ble_eq_true rfl) ?_
  intro p e s m args below meth c Q ls hx hb hml hr hts hown hlk hnm hQ K hG hS hl
  have hown : s.vm.findClass RX3 = some m.cls := hown
  have hl : lv_has ls 1 [(0, .ref th)] := hl
  obtain ⟨h1, ht, hw, hra, hrc, hrf, hB, ⟨n1, n2, n3⟩, inj⟩ := id hT
  have nth : ∀ t, t < 80 → th ≠ bx t := fun t q => mne h1 (hB t q) (by intro h; cases h)
  have ntk : ∀ t, t < 80 → tk ≠ bx t := fun t q => mne ht (hB t q) (by intro h; cases h)
  have nwh : ∀ t, t < 80 → wh ≠ bx t := fun t q => mne hw (hB t q) (by intro h; cases h)
  have nra : ∀ t, t < 80 → ra ≠ bx t := fun t q => mne hra (hB t q) (by intro h; cases h)
  have nrc : ∀ t, t < 80 → rc ≠ bx t := fun t q => mne hrc (hB t q) (by intro h; cases h)
  refine lv_aload_n hx hb dX3_sights_0 rfl (lv_at hl 0 rfl) ?_
  refine m_get (ci := 3) (v := .int (iI n)) (C := RX3) (T := TX3) (N := 7) hx hb hts (by decide +kernel) hown K hG h1 rfl 5 (by decide) (by decide +kernel) rfl dX3_sights_1 ?_
  exact m_iret hx hb hr hlk hQ hG hS (Nat.le_of_ble_eq_true rfl) (Nat.le_of_ble_eq_true rfl) dX3_sights_4 ⟨congrArg iI (by first | rfl | omega | (split <;> omega)), rfl⟩

set_option maxHeartbeats 4000000 in
set_option maxRecDepth 100000 in
theorem c_X3_leftOut (l : Launch) (D : va_G) (b : Nat) (M : mM) (th tk wh ra rc : Nat) (rf : Nat → Option Nat) (bx : Nat → Nat) (sp n j : Int) (vt vw vr : Nat → Int) (F : Nat → Nat → Int) (hT : ThOk M th tk wh ra rc rf bx sp n j vt vw vr F) : Met l yX3_leftOut wsX3_leftOut ({ frames := 0, cells := 0, slots := 0, locals := 0 } : Room) (mPc [.ref th] D b M) (mQi D b (fI j M)) 0 0 (mF b) := by
  refine m_met (cc := cX3_leftOut) (maxL := 1) (ret := (some .int)) (by decide) rfl (Nat.le_of_ble_eq_true rfl) ?_
  intro p e s m args below meth c Q ls hx hb hml hr hts hown hlk hnm hQ K hG hS hl
  have hown : s.vm.findClass RX3 = some m.cls := hown
  have hl : lv_has ls 1 [(0, .ref th)] := hl
  obtain ⟨h1, ht, hw, hra, hrc, hrf, hB, ⟨n1, n2, n3⟩, inj⟩ := id hT
  have nth : ∀ t, t < 80 → th ≠ bx t := fun t q => mne h1 (hB t q) (by intro h; cases h)
  have ntk : ∀ t, t < 80 → tk ≠ bx t := fun t q => mne ht (hB t q) (by intro h; cases h)
  have nwh : ∀ t, t < 80 → wh ≠ bx t := fun t q => mne hw (hB t q) (by intro h; cases h)
  have nra : ∀ t, t < 80 → ra ≠ bx t := fun t q => mne hra (hB t q) (by intro h; cases h)
  have nrc : ∀ t, t < 80 → rc ≠ bx t := fun t q => mne hrc (hB t q) (by intro h; cases h)
  refine lv_aload_n hx hb dX3_leftOut_0 rfl (lv_at hl 0 rfl) ?_
  refine m_get (ci := 3) (v := .int (iI j)) (C := RX3) (T := TX3) (N := 7) hx hb hts (by decide +kernel) hown K hG h1 rfl 6 (by decide) (by decide +kernel) rfl dX3_leftOut_1 ?_
  exact m_iret hx hb hr hlk hQ hG hS (Nat.le_of_ble_eq_true rfl) (Nat.le_of_ble_eq_true rfl) dX3_leftOut_4 ⟨congrArg iI (by first | rfl | omega | (split <;> omega)), rfl⟩

set_option maxHeartbeats 4000000 in
set_option maxRecDepth 100000 in
theorem c_X3_reachAt (l : Launch) (D : va_G) (b : Nat) (M : mM) (th tk wh ra rc : Nat) (rf : Nat → Option Nat) (bx : Nat → Nat) (sp n j : Int) (vt vw vr : Nat → Int) (F : Nat → Nat → Int) (hT : ThOk M th tk wh ra rc rf bx sp n j vt vw vr F) (t : Int) (ht0 : 0 ≤ t) (ht1 : t < 80) : Met l yX3_reachAt wsX3_reachAt ({ frames := 0, cells := 0, slots := 0, locals := 0 } : Room) (mPc [.ref th, .int (iI t)] D b M) (mQq D b (fQ (some (bx t.toNat)) M)) 0 0 (mF b) := by
  refine m_met (cc := cX3_reachAt) (maxL := 2) (ret := (some (.object "OverLine$Box"))) (by decide) rfl (Nat.le_of_ble_eq_true rfl) ?_
  intro p e s m args below meth c Q ls hx hb hml hr hts hown hlk hnm hQ K hG hS hl
  have hown : s.vm.findClass RX3 = some m.cls := hown
  have hl : lv_has ls 2 [(0, .ref th), (1, .int (iI t))] := hl
  obtain ⟨h1, ht, hw, hra, hrc, hrf, hB, ⟨n1, n2, n3⟩, inj⟩ := id hT
  have nth : ∀ t, t < 80 → th ≠ bx t := fun t q => mne h1 (hB t q) (by intro h; cases h)
  have ntk : ∀ t, t < 80 → tk ≠ bx t := fun t q => mne ht (hB t q) (by intro h; cases h)
  have nwh : ∀ t, t < 80 → wh ≠ bx t := fun t q => mne hw (hB t q) (by intro h; cases h)
  have nra : ∀ t, t < 80 → ra ≠ bx t := fun t q => mne hra (hB t q) (by intro h; cases h)
  have nrc : ∀ t, t < 80 → rc ≠ bx t := fun t q => mne hrc (hB t q) (by intro h; cases h)
  refine lv_aload_n hx hb dX3_reachAt_0 rfl (lv_at hl 0 rfl) ?_
  refine m_get (ci := 3) (v := .ref rc) (C := RX3) (T := TX3) (N := 7) hx hb hts (by decide +kernel) hown K hG h1 rfl 4 (by decide) (by decide +kernel) rfl dX3_reachAt_1 ?_
  refine lv_iload_n hx hb dX3_reachAt_4 rfl (lv_at hl 1 rfl) ?_
  refine m_aald hx hb hG hrc t.toNat (by omega) (by omega) (by decide) (hrf t.toNat (by omega)) dX3_reachAt_5 ?_
  exact m_aret (some (bx t.toNat)) rfl hx hb hr hlk hQ hG hS (Nat.le_of_ble_eq_true rfl) (Nat.le_of_ble_eq_true rfl) dX3_reachAt_6 ⟨rfl, rfl⟩

set_option maxHeartbeats 4000000 in
set_option maxRecDepth 100000 in
theorem c_X3_settle (l : Launch) (D : va_G) (b : Nat) (M : mM) (th tk wh ra rc : Nat) (rf : Nat → Option Nat) (bx : Nat → Nat) (sp n j : Int) (vt vw vr : Nat → Int) (F : Nat → Nat → Int) (hT : ThOk M th tk wh ra rc rf bx sp n j vt vw vr F) (hn0 : 0 ≤ n) (hn1 : n ≤ 12) (hsp0 : 0 ≤ sp) (hsp1 : sp ≤ 7) (sok : sOk n vt vw vr) : Met l yX3_settle wsX3_settle ({ frames := 2, cells := 0, slots := 0, locals := 37 } : Room) (mPc [.ref th] D b M) (mQv D b (fun M1 => ThOk M1 th tk wh ra rc rf bx sp n j vt vw vr (stF sp vt vw vr n.toNat) ∧ ∀ a, (∀ t, t < 80 → a ≠ bx t) → M1 a = M a)) 0 0 (mF b) := by
  refine m_met (cc := cX3_settle) (maxL := 2) (ret := none) (by decide) rfl (Nat.le_of_ble_eq_true rfl) ?_
  intro p e s m args below meth c Q ls hx hb hml hr hts hown hlk hnm hQ K hG hS hl
  have hown : s.vm.findClass RX3 = some m.cls := hown
  have hl : lv_has ls 2 [(0, .ref th)] := hl
  obtain ⟨h1, ht, hw, hra, hrc, hrf, hB, ⟨n1, n2, n3⟩, inj⟩ := id hT
  have nth : ∀ t, t < 80 → th ≠ bx t := fun t q => mne h1 (hB t q) (by intro h; cases h)
  have ntk : ∀ t, t < 80 → tk ≠ bx t := fun t q => mne ht (hB t q) (by intro h; cases h)
  have nwh : ∀ t, t < 80 → wh ≠ bx t := fun t q => mne hw (hB t q) (by intro h; cases h)
  have nra : ∀ t, t < 80 → ra ≠ bx t := fun t q => mne hra (hB t q) (by intro h; cases h)
  have nrc : ∀ t, t < 80 → rc ≠ bx t := fun t q => mne hrc (hB t q) (by intro h; cases h)
  refine lv_iconst (v := iI 0) hx hb dX3_settle_0 rfl ?_
  refine lv_istore_n (lv' := [(1, .int (iI 0)), (0, .ref th)]) hx hb dX3_settle_1 rfl hl (by decide) rfl (fun ls hl => ?_)
  have loop2 : ∀ (fuel : Nat) (i : Int) (M1 : mM) (H : Heap) (locs : List Loc) (ls : Array Slot), (0 ≤ i) → (i ≤ 80) → (∀ t, t < 80 → M1 (bx t) = some (BF (fun (t : Nat) (k : Nat) => if (t : Int) < i then q4 0 63 0 63 k else F t k) t)) → (∀ a, (∀ t, t < 80 → a ≠ bx t) → M1 a = M a) → (80 - i).toNat < fuel → mG D b M1 s H → va_S (mF b) s.heap H locs → lv_has ls 2 [(1, .int (iI i)), (0, .ref th)] → W p l e ({ frames := 2, cells := 0, slots := 0, locals := 37 } : Room) s m args below meth c H locs 0 0 Q (F0 m 2 ls []) := by
    intro fuel
    induction fuel with
    | zero => intro i M1 H locs ls hi0 hi1 hB1 hF1 hm; exact absurd hm (Nat.not_lt_zero _)
    | succ fuel ih2 =>
      intro i M1 H locs ls hi0 hi1 hB1 hF1 hm hG hS hl
      refine lv_iload_n hx hb dX3_settle_2 rfl (lv_at hl 0 rfl) ?_
      refine lv_bipush (v := iI 80) hx hb dX3_settle_3 (by decide) ?_
      refine m_icmp_ge (tgt := 23) hx hb dX3_settle_5 (by decide) ⟨by omega, by omega⟩ ⟨by omega, by omega⟩ (fun c5 => ?_) (fun c5 => ?_)
      · refine lv_iconst (v := iI 0) hx hb dX3_settle_23 rfl ?_
        refine lv_istore_n (lv' := [(1, .int (iI 0)), (0, .ref th)]) hx hb dX3_settle_24 rfl hl (by decide) rfl (fun ls hl => ?_)
        have loop25 : ∀ (fuel : Nat) (i : Int) (M2 : mM) (H : Heap) (locs : List Loc) (ls : Array Slot), (0 ≤ i) → (i ≤ n) → (∀ t, t < 80 → M2 (bx t) = some (BF (siF vt vw vr i.toNat) t)) → (∀ a, (∀ t, t < 80 → a ≠ bx t) → M2 a = M a) → (n - i).toNat < fuel → mG D b M2 s H → va_S (mF b) s.heap H locs → lv_has ls 2 [(1, .int (iI i)), (0, .ref th)] → W p l e ({ frames := 2, cells := 0, slots := 0, locals := 37 } : Room) s m args below meth c H locs 0 0 Q (F0 m 25 ls []) := by
          intro fuel
          induction fuel with
          | zero => intro i M2 H locs ls hj0 hj1 hB2 hF2 hm; exact absurd hm (Nat.not_lt_zero _)
          | succ fuel ih25 =>
            intro i M2 H locs ls hj0 hj1 hB2 hF2 hm hG hS hl
            have hR : in63 (siF vt vw vr i.toNat) := (siF_rg (fun k hk => (sok k (by omega)).2))
            refine lv_iload_n hx hb dX3_settle_25 rfl (lv_at hl 0 rfl) ?_
            refine lv_aload_n hx hb dX3_settle_26 rfl (lv_at hl 1 rfl) ?_
            refine m_get (ci := 3) (v := .int (iI n)) (C := RX3) (T := TX3) (N := 7) hx hb hts (by decide +kernel) hown K hG ((hF2 th nth).trans h1) rfl 5 (by decide) (by decide +kernel) rfl dX3_settle_27 ?_
            refine m_icmp_ge (tgt := 77) hx hb dX3_settle_30 (by decide) ⟨by omega, by omega⟩ ⟨by omega, by omega⟩ (fun c30 => ?_) (fun c30 => ?_)
            · refine lv_iconst (v := iI 1) hx hb dX3_settle_77 rfl ?_
              refine lv_istore_n (lv' := [(1, .int (iI 1)), (0, .ref th)]) hx hb dX3_settle_78 rfl hl (by decide) rfl (fun ls hl => ?_)
              have loop79 : ∀ (fuel : Nat) (i : Int) (M3 : mM) (H : Heap) (locs : List Loc) (ls : Array Slot), (1 ≤ i) → (i ≤ 80) → (∀ t, t < 80 → M3 (bx t) = some (BF (fwF sp (siF vt vw vr n.toNat) (i - 1).toNat) t)) → (∀ a, (∀ t, t < 80 → a ≠ bx t) → M3 a = M a) → (80 - i).toNat < fuel → mG D b M3 s H → va_S (mF b) s.heap H locs → lv_has ls 2 [(1, .int (iI i)), (0, .ref th)] → W p l e ({ frames := 2, cells := 0, slots := 0, locals := 37 } : Room) s m args below meth c H locs 0 0 Q (F0 m 79 ls []) := by
                intro fuel
                induction fuel with
                | zero => intro i M3 H locs ls hk0 hk1 hB3 hF3 hm; exact absurd hm (Nat.not_lt_zero _)
                | succ fuel ih79 =>
                  intro i M3 H locs ls hk0 hk1 hB3 hF3 hm hG hS hl
                  have hR : in63 (fwF sp (siF vt vw vr n.toNat) (i - 1).toNat) := fwF_rg hsp0 (siF_rg (fun k hk => (sok k (by omega)).2)) _
                  refine lv_iload_n hx hb dX3_settle_79 rfl (lv_at hl 0 rfl) ?_
                  refine lv_bipush (v := iI 80) hx hb dX3_settle_80 (by decide) ?_
                  refine m_icmp_ge (tgt := 112) hx hb dX3_settle_82 (by decide) ⟨by omega, by omega⟩ ⟨by omega, by omega⟩ (fun c82 => ?_) (fun c82 => ?_)
                  · refine lv_bipush (v := iI 78) hx hb dX3_settle_112 (by decide) ?_
                    refine lv_istore_n (lv' := [(1, .int (iI 78)), (0, .ref th)]) hx hb dX3_settle_114 rfl hl (by decide) rfl (fun ls hl => ?_)
                    have loop115 : ∀ (fuel : Nat) (i : Int) (M4 : mM) (H : Heap) (locs : List Loc) (ls : Array Slot), (-1 ≤ i) → (i ≤ 78) → (∀ t, t < 80 → M4 (bx t) = some (BF (bwF sp (fwF sp (siF vt vw vr n.toNat) 79) (78 - i).toNat) t)) → (∀ a, (∀ t, t < 80 → a ≠ bx t) → M4 a = M a) → (i + 1).toNat < fuel → mG D b M4 s H → va_S (mF b) s.heap H locs → lv_has ls 2 [(1, .int (iI i)), (0, .ref th)] → W p l e ({ frames := 2, cells := 0, slots := 0, locals := 37 } : Room) s m args below meth c H locs 0 0 Q (F0 m 115 ls []) := by
                      intro fuel
                      induction fuel with
                      | zero => intro i M4 H locs ls hm0 hm1 hB4 hF4 hm; exact absurd hm (Nat.not_lt_zero _)
                      | succ fuel ih115 =>
                        intro i M4 H locs ls hm0 hm1 hB4 hF4 hm hG hS hl
                        have hR : in63 (bwF sp (fwF sp (siF vt vw vr n.toNat) 79) (78 - i).toNat) := bwF_rg hsp0 (fwF_rg hsp0 (siF_rg (fun k hk => (sok k (by omega)).2)) _) _
                        refine lv_iload_n hx hb dX3_settle_115 rfl (lv_at hl 0 rfl) ?_
                        refine m_if_lt (tgt := 146) hx hb dX3_settle_116 (by decide) ⟨by omega, by omega⟩ (fun c116 => ?_) (fun c116 => ?_)
                        · exact m_vret hx hb hr hlk hQ hG hS (Nat.le_of_ble_eq_true rfl) (Nat.le_of_ble_eq_true rfl) dX3_settle_146 ⟨⟨(hF4 th nth).trans h1, (hF4 tk ntk).trans ht, (hF4 wh nwh).trans hw, (hF4 ra nra).trans hra, (hF4 rc nrc).trans hrc, hrf, (by unfold stF; rw [show (bwF sp (fwF sp (siF vt vw vr n.toNat) 79) 79) = bwF sp (fwF sp (siF vt vw vr n.toNat) 79) (78 - i).toNat by rw [show (78 - i).toNat = 79 by omega]]; exact hB4), ⟨n1, n2, n3⟩, inj⟩, hF4⟩
                        · refine lv_aload_n hx hb dX3_settle_119 rfl (lv_at hl 1 rfl) ?_
                          refine m_get (ci := 3) (v := .ref rc) (C := RX3) (T := TX3) (N := 7) hx hb hts (by decide +kernel) hown K hG ((hF4 th nth).trans h1) rfl 4 (by decide) (by decide +kernel) rfl dX3_settle_120 ?_
                          refine lv_iload_n hx hb dX3_settle_123 rfl (lv_at hl 0 rfl) ?_
                          refine m_aald hx hb hG ((hF4 rc nrc).trans hrc) i.toNat (by omega) (by omega) (by decide) (hrf i.toNat (by omega)) dX3_settle_124 ?_
                          refine lv_aload_n hx hb dX3_settle_125 rfl (lv_at hl 1 rfl) ?_
                          refine m_get (ci := 3) (v := .ref rc) (C := RX3) (T := TX3) (N := 7) hx hb hts (by decide +kernel) hown K hG ((hF4 th nth).trans h1) rfl 4 (by decide) (by decide +kernel) rfl dX3_settle_126 ?_
                          refine lv_iload_n hx hb dX3_settle_129 rfl (lv_at hl 0 rfl) ?_
                          refine lv_iconst (v := iI 1) hx hb dX3_settle_130 rfl ?_
                          refine m_iadd hx hb dX3_settle_131 ?_
                          refine m_aald hx hb hG ((hF4 rc nrc).trans hrc) ((i + 1).toNat) (by omega) (by omega) (by decide) (hrf ((i + 1).toNat) (by omega)) dX3_settle_132 ?_
                          refine lv_aload_n hx hb dX3_settle_133 rfl (lv_at hl 1 rfl) ?_
                          refine m_get (ci := 3) (v := .int (iI sp)) (C := RX3) (T := TX3) (N := 7) hx hb hts (by decide +kernel) hown K hG ((hF4 th nth).trans h1) rfl 0 (by decide) (by decide +kernel) rfl dX3_settle_134 ?_
                          refine m_callfv (m_runV (a := bx i.toNat) (As := [.ref (bx ((i + 1).toNat)), .int (iI sp)]) (rest := []) ⟨hx, hb, hml, hown, hts⟩ (c_X0_keepNear l D b _ (bx i.toNat) ((bwF sp (fwF sp (siF vt vw vr n.toNat) 79) (78 - i).toNat) i.toNat 0) ((bwF sp (fwF sp (siF vt vw vr n.toNat) 79) (78 - i).toNat) i.toNat 1) ((bwF sp (fwF sp (siF vt vw vr n.toNat) 79) (78 - i).toNat) i.toNat 2) ((bwF sp (fwF sp (siF vt vw vr n.toNat) 79) (78 - i).toNat) i.toNat 3) (hB4 i.toNat (by omega)) (sm63 (hR i.toNat 0)) (sm63 (hR i.toNat 1)) (sm63 (hR i.toNat 2)) (sm63 (hR i.toNat 3)) (bx ((i + 1).toNat)) ((bwF sp (fwF sp (siF vt vw vr n.toNat) 79) (78 - i).toNat) ((i + 1).toNat) 0) ((bwF sp (fwF sp (siF vt vw vr n.toNat) 79) (78 - i).toNat) ((i + 1).toNat) 1) ((bwF sp (fwF sp (siF vt vw vr n.toNat) 79) (78 - i).toNat) ((i + 1).toNat) 2) ((bwF sp (fwF sp (siF vt vw vr n.toNat) 79) (78 - i).toNat) ((i + 1).toNat) 3) sp (hB4 ((i + 1).toNat) (by omega)) (sm63 (hR ((i + 1).toNat) 0)) (sm63 (hR ((i + 1).toNat) 1)) (sm63 (hR ((i + 1).toNat) 2)) (sm63 (hR ((i + 1).toNat) 3)) (by omega) (fun z => absurd (inj ((i + 1).toNat) i.toNat (by omega) (by omega) z) (by omega))) (cwV 2 hts gX3_settle_X0_keepNear rfl rfl rfl (by decide +kernel) ⟨Nat.le_of_ble_eq_true rfl, Nat.le_of_ble_eq_true rfl⟩) K hG (hB4 i.toNat (by omega)) rfl rfl rfl hl.1 rfl (Nat.le_of_ble_eq_true rfl) dX3_settle_137 ⟨Nat.le_of_ble_eq_true rfl, Nat.le_of_ble_eq_true rfl⟩) hS (fun H locs hG hS => ?_)
                          have hG : mG D b (mset M4 (bx i.toNat) (.inr (0, [.int (iI (max ((bwF sp (fwF sp (siF vt vw vr n.toNat) 79) (78 - i).toNat) i.toNat 0) ((bwF sp (fwF sp (siF vt vw vr n.toNat) 79) (78 - i).toNat) ((i + 1).toNat) 0 - sp))), .int (iI (min ((bwF sp (fwF sp (siF vt vw vr n.toNat) 79) (78 - i).toNat) i.toNat 1) ((bwF sp (fwF sp (siF vt vw vr n.toNat) 79) (78 - i).toNat) ((i + 1).toNat) 1 + sp))), .int (iI (max ((bwF sp (fwF sp (siF vt vw vr n.toNat) 79) (78 - i).toNat) i.toNat 2) ((bwF sp (fwF sp (siF vt vw vr n.toNat) 79) (78 - i).toNat) ((i + 1).toNat) 2 - sp))), .int (iI (min ((bwF sp (fwF sp (siF vt vw vr n.toNat) 79) (78 - i).toNat) i.toNat 3) ((bwF sp (fwF sp (siF vt vw vr n.toNat) 79) (78 - i).toNat) ((i + 1).toNat) 3 + sp)))]))) s H := hG
                          refine m_iinc (lv' := [(1, .int (iI (i + (-1)))), (0, .ref th)]) (k := 0) hx hb dX3_settle_140 hl rfl (by decide) rfl (fun ls hl => ?_)
                          refine lv_goto (tgt := 115) hx hb dX3_settle_143 (by decide) ?_
                          exact ih115 (i + (-1)) (mset M4 (bx i.toNat) (.inr (0, [.int (iI (max ((bwF sp (fwF sp (siF vt vw vr n.toNat) 79) (78 - i).toNat) i.toNat 0) ((bwF sp (fwF sp (siF vt vw vr n.toNat) 79) (78 - i).toNat) ((i + 1).toNat) 0 - sp))), .int (iI (min ((bwF sp (fwF sp (siF vt vw vr n.toNat) 79) (78 - i).toNat) i.toNat 1) ((bwF sp (fwF sp (siF vt vw vr n.toNat) 79) (78 - i).toNat) ((i + 1).toNat) 1 + sp))), .int (iI (max ((bwF sp (fwF sp (siF vt vw vr n.toNat) 79) (78 - i).toNat) i.toNat 2) ((bwF sp (fwF sp (siF vt vw vr n.toNat) 79) (78 - i).toNat) ((i + 1).toNat) 2 - sp))), .int (iI (min ((bwF sp (fwF sp (siF vt vw vr n.toNat) 79) (78 - i).toNat) i.toNat 3) ((bwF sp (fwF sp (siF vt vw vr n.toNat) 79) (78 - i).toNat) ((i + 1).toNat) 3 + sp)))]))) _ _ _ (by omega) (by omega) (by rw [show (78 - (i + (-1))).toNat = (78 - i).toNat + 1 by omega]; have h9 := bxs_set (v := neF (bwF sp (fwF sp (siF vt vw vr n.toNat) 79) (78 - i).toNat) i.toNat (i + 1).toNat sp) inj hB4 (k := i.toNat) (by omega); rw [bwF, show 78 - (78 - i).toNat = i.toNat by omega, show i.toNat + 1 = (i + 1).toNat by omega]; exact h9) (bxs_fr hF4 (by omega)) (by omega) hG hS (lv_sub hl [0, 1] rfl)
                    exact loop115 _ 78 M3 _ _ _ (by omega) (by omega) (by rw [show (79 : Nat) = (i - 1).toNat by omega]; exact hB3) hF3 (Nat.lt_succ_self _) hG hS (lv_sub hl [0, 1] rfl)
                  · refine lv_aload_n hx hb dX3_settle_85 rfl (lv_at hl 1 rfl) ?_
                    refine m_get (ci := 3) (v := .ref rc) (C := RX3) (T := TX3) (N := 7) hx hb hts (by decide +kernel) hown K hG ((hF3 th nth).trans h1) rfl 4 (by decide) (by decide +kernel) rfl dX3_settle_86 ?_
                    refine lv_iload_n hx hb dX3_settle_89 rfl (lv_at hl 0 rfl) ?_
                    refine m_aald hx hb hG ((hF3 rc nrc).trans hrc) i.toNat (by omega) (by omega) (by decide) (hrf i.toNat (by omega)) dX3_settle_90 ?_
                    refine lv_aload_n hx hb dX3_settle_91 rfl (lv_at hl 1 rfl) ?_
                    refine m_get (ci := 3) (v := .ref rc) (C := RX3) (T := TX3) (N := 7) hx hb hts (by decide +kernel) hown K hG ((hF3 th nth).trans h1) rfl 4 (by decide) (by decide +kernel) rfl dX3_settle_92 ?_
                    refine lv_iload_n hx hb dX3_settle_95 rfl (lv_at hl 0 rfl) ?_
                    refine lv_iconst (v := iI 1) hx hb dX3_settle_96 rfl ?_
                    refine m_isub hx hb dX3_settle_97 ?_
                    refine m_aald hx hb hG ((hF3 rc nrc).trans hrc) ((i - 1).toNat) (by omega) (by omega) (by decide) (hrf ((i - 1).toNat) (by omega)) dX3_settle_98 ?_
                    refine lv_aload_n hx hb dX3_settle_99 rfl (lv_at hl 1 rfl) ?_
                    refine m_get (ci := 3) (v := .int (iI sp)) (C := RX3) (T := TX3) (N := 7) hx hb hts (by decide +kernel) hown K hG ((hF3 th nth).trans h1) rfl 0 (by decide) (by decide +kernel) rfl dX3_settle_100 ?_
                    refine m_callfv (m_runV (a := bx i.toNat) (As := [.ref (bx ((i - 1).toNat)), .int (iI sp)]) (rest := []) ⟨hx, hb, hml, hown, hts⟩ (c_X0_keepNear l D b _ (bx i.toNat) ((fwF sp (siF vt vw vr n.toNat) (i - 1).toNat) i.toNat 0) ((fwF sp (siF vt vw vr n.toNat) (i - 1).toNat) i.toNat 1) ((fwF sp (siF vt vw vr n.toNat) (i - 1).toNat) i.toNat 2) ((fwF sp (siF vt vw vr n.toNat) (i - 1).toNat) i.toNat 3) (hB3 i.toNat (by omega)) (sm63 (hR i.toNat 0)) (sm63 (hR i.toNat 1)) (sm63 (hR i.toNat 2)) (sm63 (hR i.toNat 3)) (bx ((i - 1).toNat)) ((fwF sp (siF vt vw vr n.toNat) (i - 1).toNat) ((i - 1).toNat) 0) ((fwF sp (siF vt vw vr n.toNat) (i - 1).toNat) ((i - 1).toNat) 1) ((fwF sp (siF vt vw vr n.toNat) (i - 1).toNat) ((i - 1).toNat) 2) ((fwF sp (siF vt vw vr n.toNat) (i - 1).toNat) ((i - 1).toNat) 3) sp (hB3 ((i - 1).toNat) (by omega)) (sm63 (hR ((i - 1).toNat) 0)) (sm63 (hR ((i - 1).toNat) 1)) (sm63 (hR ((i - 1).toNat) 2)) (sm63 (hR ((i - 1).toNat) 3)) (by omega) (fun z => absurd (inj ((i - 1).toNat) i.toNat (by omega) (by omega) z) (by omega))) (cwV 2 hts gX3_settle_X0_keepNear rfl rfl rfl (by decide +kernel) ⟨Nat.le_of_ble_eq_true rfl, Nat.le_of_ble_eq_true rfl⟩) K hG (hB3 i.toNat (by omega)) rfl rfl rfl hl.1 rfl (Nat.le_of_ble_eq_true rfl) dX3_settle_103 ⟨Nat.le_of_ble_eq_true rfl, Nat.le_of_ble_eq_true rfl⟩) hS (fun H locs hG hS => ?_)
                    have hG : mG D b (mset M3 (bx i.toNat) (.inr (0, [.int (iI (max ((fwF sp (siF vt vw vr n.toNat) (i - 1).toNat) i.toNat 0) ((fwF sp (siF vt vw vr n.toNat) (i - 1).toNat) ((i - 1).toNat) 0 - sp))), .int (iI (min ((fwF sp (siF vt vw vr n.toNat) (i - 1).toNat) i.toNat 1) ((fwF sp (siF vt vw vr n.toNat) (i - 1).toNat) ((i - 1).toNat) 1 + sp))), .int (iI (max ((fwF sp (siF vt vw vr n.toNat) (i - 1).toNat) i.toNat 2) ((fwF sp (siF vt vw vr n.toNat) (i - 1).toNat) ((i - 1).toNat) 2 - sp))), .int (iI (min ((fwF sp (siF vt vw vr n.toNat) (i - 1).toNat) i.toNat 3) ((fwF sp (siF vt vw vr n.toNat) (i - 1).toNat) ((i - 1).toNat) 3 + sp)))]))) s H := hG
                    refine m_iinc (lv' := [(1, .int (iI (i + 1))), (0, .ref th)]) (k := 0) hx hb dX3_settle_106 hl rfl (by decide) rfl (fun ls hl => ?_)
                    refine lv_goto (tgt := 79) hx hb dX3_settle_109 (by decide) ?_
                    exact ih79 (i + 1) (mset M3 (bx i.toNat) (.inr (0, [.int (iI (max ((fwF sp (siF vt vw vr n.toNat) (i - 1).toNat) i.toNat 0) ((fwF sp (siF vt vw vr n.toNat) (i - 1).toNat) ((i - 1).toNat) 0 - sp))), .int (iI (min ((fwF sp (siF vt vw vr n.toNat) (i - 1).toNat) i.toNat 1) ((fwF sp (siF vt vw vr n.toNat) (i - 1).toNat) ((i - 1).toNat) 1 + sp))), .int (iI (max ((fwF sp (siF vt vw vr n.toNat) (i - 1).toNat) i.toNat 2) ((fwF sp (siF vt vw vr n.toNat) (i - 1).toNat) ((i - 1).toNat) 2 - sp))), .int (iI (min ((fwF sp (siF vt vw vr n.toNat) (i - 1).toNat) i.toNat 3) ((fwF sp (siF vt vw vr n.toNat) (i - 1).toNat) ((i - 1).toNat) 3 + sp)))]))) _ _ _ (by omega) (by omega) (by rw [show (i + 1 - 1).toNat = (i - 1).toNat + 1 by omega]; have h9 := bxs_set (v := neF (fwF sp (siF vt vw vr n.toNat) (i - 1).toNat) i.toNat (i - 1).toNat sp) inj hB3 (k := i.toNat) (by omega); rw [fwF, show (i - 1).toNat + 1 = i.toNat by omega]; exact h9) (bxs_fr hF3 (by omega)) (by omega) hG hS (lv_sub hl [0, 1] rfl)
              exact loop79 _ 1 M2 _ _ _ (by omega) (by omega) (by rw [show n.toNat = i.toNat by omega]; exact hB2) hF2 (Nat.lt_succ_self _) hG hS (lv_sub hl [0, 1] rfl)
            · have so := sok i.toNat (by omega)
              obtain ⟨⟨so1, so2⟩, ⟨so3, so4⟩, so5, so6⟩ := so
              refine lv_aload_n hx hb dX3_settle_33 rfl (lv_at hl 1 rfl) ?_
              refine m_get (ci := 3) (v := .ref rc) (C := RX3) (T := TX3) (N := 7) hx hb hts (by decide +kernel) hown K hG ((hF2 th nth).trans h1) rfl 4 (by decide) (by decide +kernel) rfl dX3_settle_34 ?_
              refine lv_aload_n hx hb dX3_settle_37 rfl (lv_at hl 1 rfl) ?_
              refine m_get (ci := 3) (v := .ref tk) (C := RX3) (T := TX3) (N := 7) hx hb hts (by decide +kernel) hown K hG ((hF2 th nth).trans h1) rfl 1 (by decide) (by decide +kernel) rfl dX3_settle_38 ?_
              refine lv_iload_n hx hb dX3_settle_41 rfl (lv_at hl 0 rfl) ?_
              refine m_iald hx hb hG ((hF2 tk ntk).trans ht) i.toNat (by omega) (by omega) (by decide) dX3_settle_42 ?_
              refine m_aald hx hb hG ((hF2 rc nrc).trans hrc) ((vt i.toNat).toNat) (by omega) (by omega) (by decide) (hrf ((vt i.toNat).toNat) (by omega)) dX3_settle_43 ?_
              refine lv_aload_n hx hb dX3_settle_44 rfl (lv_at hl 1 rfl) ?_
              refine m_get (ci := 3) (v := .ref wh) (C := RX3) (T := TX3) (N := 7) hx hb hts (by decide +kernel) hown K hG ((hF2 th nth).trans h1) rfl 2 (by decide) (by decide +kernel) rfl dX3_settle_45 ?_
              refine lv_iload_n hx hb dX3_settle_48 rfl (lv_at hl 0 rfl) ?_
              refine m_iald hx hb hG ((hF2 wh nwh).trans hw) i.toNat (by omega) (by omega) (by decide) dX3_settle_49 ?_
              refine m_callfi (m_runSN (As := [.int (iI (vw i.toNat))]) (rest := [.ref (bx ((vt i.toNat).toNat))]) ⟨hx, hb, hml, hown, hts⟩ (c_X4_xOf l D b _ (vw i.toNat) (by omega) (by omega)) ⟨va_cnB 1 hts gX3_settle_X4_xOf_n63 rfl rfl rfl K.2.2.2.1.1 (hts _ (by decide +kernel : Cond.initialized RX4 ∈ wsX3_settle)) (by decide +kernel) ⟨Nat.le_of_ble_eq_true rfl, Nat.le_of_ble_eq_true rfl⟩, hts _ (by decide +kernel : Cond.static yX4_xOf ∈ wsX3_settle), trivial⟩ K hG rfl hl.1 rfl (Nat.le_of_ble_eq_true rfl) dX3_settle_50 ⟨Nat.le_of_ble_eq_true rfl, Nat.le_of_ble_eq_true rfl⟩) hS (fun H locs hG hS => ?_)
              have hG : mG D b M2 s H := hG
              refine lv_aload_n hx hb dX3_settle_53 rfl (lv_at hl 1 rfl) ?_
              refine m_get (ci := 3) (v := .ref wh) (C := RX3) (T := TX3) (N := 7) hx hb hts (by decide +kernel) hown K hG ((hF2 th nth).trans h1) rfl 2 (by decide) (by decide +kernel) rfl dX3_settle_54 ?_
              refine lv_iload_n hx hb dX3_settle_57 rfl (lv_at hl 0 rfl) ?_
              refine m_iald hx hb hG ((hF2 wh nwh).trans hw) i.toNat (by omega) (by omega) (by decide) dX3_settle_58 ?_
              refine m_callfi (m_runSN (As := [.int (iI (vw i.toNat))]) (rest := [.int (iI ((vw i.toNat) / 64)), .ref (bx ((vt i.toNat).toNat))]) ⟨hx, hb, hml, hown, hts⟩ (c_X4_yOf l D b _ (vw i.toNat) (by omega) (by omega)) ⟨va_cnB 1 hts gX3_settle_X4_yOf_n67 rfl rfl rfl K.2.2.2.1.2 (hts _ (by decide +kernel : Cond.initialized RX4 ∈ wsX3_settle)) (by decide +kernel) ⟨Nat.le_of_ble_eq_true rfl, Nat.le_of_ble_eq_true rfl⟩, hts _ (by decide +kernel : Cond.static yX4_yOf ∈ wsX3_settle), trivial⟩ K hG rfl hl.1 rfl (Nat.le_of_ble_eq_true rfl) dX3_settle_59 ⟨Nat.le_of_ble_eq_true rfl, Nat.le_of_ble_eq_true rfl⟩) hS (fun H locs hG hS => ?_)
              have hG : mG D b M2 s H := hG
              refine lv_aload_n hx hb dX3_settle_62 rfl (lv_at hl 1 rfl) ?_
              refine m_get (ci := 3) (v := .ref ra) (C := RX3) (T := TX3) (N := 7) hx hb hts (by decide +kernel) hown K hG ((hF2 th nth).trans h1) rfl 3 (by decide) (by decide +kernel) rfl dX3_settle_63 ?_
              refine lv_iload_n hx hb dX3_settle_66 rfl (lv_at hl 0 rfl) ?_
              refine m_iald hx hb hG ((hF2 ra nra).trans hra) i.toNat (by omega) (by omega) (by decide) dX3_settle_67 ?_
              refine m_callfv (m_runV (a := bx ((vt i.toNat).toNat)) (As := [.int (iI ((vw i.toNat) / 64)), .int (iI ((vw i.toNat) % 64)), .int (iI (vr i.toNat))]) (rest := []) ⟨hx, hb, hml, hown, hts⟩ (c_X0_keepAround l D b _ (bx ((vt i.toNat).toNat)) ((siF vt vw vr i.toNat) ((vt i.toNat).toNat) 0) ((siF vt vw vr i.toNat) ((vt i.toNat).toNat) 1) ((siF vt vw vr i.toNat) ((vt i.toNat).toNat) 2) ((siF vt vw vr i.toNat) ((vt i.toNat).toNat) 3) (hB2 ((vt i.toNat).toNat) (by omega)) (sm63 (hR ((vt i.toNat).toNat) 0)) (sm63 (hR ((vt i.toNat).toNat) 1)) (sm63 (hR ((vt i.toNat).toNat) 2)) (sm63 (hR ((vt i.toNat).toNat) 3)) ((vw i.toNat) / 64) ((vw i.toNat) % 64) (vr i.toNat) (by omega) (by omega) (by omega)) (cwV 3 hts gX3_settle_X0_keepAround rfl rfl rfl (by decide +kernel) ⟨Nat.le_of_ble_eq_true rfl, Nat.le_of_ble_eq_true rfl⟩) K hG (hB2 ((vt i.toNat).toNat) (by omega)) rfl rfl rfl hl.1 rfl (Nat.le_of_ble_eq_true rfl) dX3_settle_68 ⟨Nat.le_of_ble_eq_true rfl, Nat.le_of_ble_eq_true rfl⟩) hS (fun H locs hG hS => ?_)
              have hG : mG D b (mset M2 (bx ((vt i.toNat).toNat)) (.inr (0, [.int (iI (max ((siF vt vw vr i.toNat) ((vt i.toNat).toNat) 0) ((vw i.toNat) / 64 - (vr i.toNat)))), .int (iI (min ((siF vt vw vr i.toNat) ((vt i.toNat).toNat) 1) ((vw i.toNat) / 64 + (vr i.toNat)))), .int (iI (max ((siF vt vw vr i.toNat) ((vt i.toNat).toNat) 2) ((vw i.toNat) % 64 - (vr i.toNat)))), .int (iI (min ((siF vt vw vr i.toNat) ((vt i.toNat).toNat) 3) ((vw i.toNat) % 64 + (vr i.toNat))))]))) s H := hG
              refine m_iinc (lv' := [(1, .int (iI (i + 1))), (0, .ref th)]) (k := 0) hx hb dX3_settle_71 hl rfl (by decide) rfl (fun ls hl => ?_)
              refine lv_goto (tgt := 25) hx hb dX3_settle_74 (by decide) ?_
              exact ih25 (i + 1) (mset M2 (bx ((vt i.toNat).toNat)) (.inr (0, [.int (iI (max ((siF vt vw vr i.toNat) ((vt i.toNat).toNat) 0) ((vw i.toNat) / 64 - (vr i.toNat)))), .int (iI (min ((siF vt vw vr i.toNat) ((vt i.toNat).toNat) 1) ((vw i.toNat) / 64 + (vr i.toNat)))), .int (iI (max ((siF vt vw vr i.toNat) ((vt i.toNat).toNat) 2) ((vw i.toNat) % 64 - (vr i.toNat)))), .int (iI (min ((siF vt vw vr i.toNat) ((vt i.toNat).toNat) 3) ((vw i.toNat) % 64 + (vr i.toNat))))]))) _ _ _ (by omega) (by omega) (by rw [show (i + 1).toNat = i.toNat + 1 by omega]; exact bxs_set (v := arF (siF vt vw vr i.toNat) (vt i.toNat).toNat (vw i.toNat / 64) (vw i.toNat % 64) (vr i.toNat)) inj hB2 (by omega)) (bxs_fr hF2 (by omega)) (by omega) hG hS (lv_sub hl [0, 1] rfl)
        exact loop25 _ 0 M1 _ _ _ (by omega) (by omega) (fun t q => (hB1 t q).trans (congrArg some (BF_congr (fun k => if_pos (show (t : Int) < i by omega))))) hF1 (Nat.lt_succ_self _) hG hS (lv_sub hl [0, 1] rfl)
      · refine lv_aload_n hx hb dX3_settle_8 rfl (lv_at hl 1 rfl) ?_
        refine m_get (ci := 3) (v := .ref rc) (C := RX3) (T := TX3) (N := 7) hx hb hts (by decide +kernel) hown K hG ((hF1 th nth).trans h1) rfl 4 (by decide) (by decide +kernel) rfl dX3_settle_9 ?_
        refine lv_iload_n hx hb dX3_settle_12 rfl (lv_at hl 0 rfl) ?_
        refine m_aald hx hb hG ((hF1 rc nrc).trans hrc) i.toNat (by omega) (by omega) (by decide) (hrf i.toNat (by omega)) dX3_settle_13 ?_
        refine m_callfv (m_runV (a := bx i.toNat) (As := []) (rest := []) ⟨hx, hb, hml, hown, hts⟩ (c_X0_setToField l D b _ (bx i.toNat) ((fun (t : Nat) (k : Nat) => if (t : Int) < i then q4 0 63 0 63 k else F t k) i.toNat 0) ((fun (t : Nat) (k : Nat) => if (t : Int) < i then q4 0 63 0 63 k else F t k) i.toNat 1) ((fun (t : Nat) (k : Nat) => if (t : Int) < i then q4 0 63 0 63 k else F t k) i.toNat 2) ((fun (t : Nat) (k : Nat) => if (t : Int) < i then q4 0 63 0 63 k else F t k) i.toNat 3) (hB1 i.toNat (by omega))) (cwV 0 hts gX3_settle_X0_setToField rfl rfl rfl (by decide +kernel) ⟨Nat.le_of_ble_eq_true rfl, Nat.le_of_ble_eq_true rfl⟩) K hG (hB1 i.toNat (by omega)) rfl rfl rfl hl.1 rfl (Nat.le_of_ble_eq_true rfl) dX3_settle_14 ⟨Nat.le_of_ble_eq_true rfl, Nat.le_of_ble_eq_true rfl⟩) hS (fun H locs hG hS => ?_)
        have hG : mG D b (mset M1 (bx i.toNat) (.inr (0, [.int (iI 0), .int (iI 63), .int (iI 0), .int (iI 63)]))) s H := hG
        refine m_iinc (lv' := [(1, .int (iI (i + 1))), (0, .ref th)]) (k := 0) hx hb dX3_settle_17 hl rfl (by decide) rfl (fun ls hl => ?_)
        refine lv_goto (tgt := 2) hx hb dX3_settle_20 (by decide) ?_
        exact ih2 (i + 1) (mset M1 (bx i.toNat) (.inr (0, [.int (iI 0), .int (iI 63), .int (iI 0), .int (iI 63)]))) _ _ _ (by omega) (by omega) (by rw [← fld_up F hi0]; exact bxs_set (v := q4 0 63 0 63) inj hB1 (by omega)) (bxs_fr hF1 (by omega)) (by omega) hG hS (lv_sub hl [0, 1] rfl)
  exact loop2 _ 0 M _ _ _ (by omega) (by omega) (fun t q => (hB t q).trans (congrArg some (BF_congr (fun k => (if_neg (show ¬ ((t : Int) < 0) by omega)).symm)))) (fun a _ => rfl) (Nat.lt_succ_self _) hG hS (lv_sub hl [0, 1] rfl)

set_option maxHeartbeats 4000000 in
set_option maxRecDepth 100000 in
theorem c_X3_canMove (l : Launch) (D : va_G) (b : Nat) (M : mM) (th tk wh ra rc : Nat) (rf : Nat → Option Nat) (bx : Nat → Nat) (sp n j : Int) (vt vw vr : Nat → Int) (F : Nat → Nat → Int) (hT : ThOk M th tk wh ra rc rf bx sp n j vt vw vr F) (hR : in63 F) : Met l yX3_canMove wsX3_canMove ({ frames := 1, cells := 0, slots := 0, locals := 20 } : Room) (mPc [.ref th] D b M) (mQi D b (fI (tf (∀ t : Nat, t < 80 → neB F t)) M)) 0 0 (mF b) := by
  refine m_met (cc := cX3_canMove) (maxL := 2) (ret := (some .boolean)) (by decide) rfl (Nat.le_of_ble_eq_true rfl) ?_
  intro p e s m args below meth c Q ls hx hb hml hr hts hown hlk hnm hQ K hG hS hl
  have hown : s.vm.findClass RX3 = some m.cls := hown
  have hl : lv_has ls 2 [(0, .ref th)] := hl
  obtain ⟨h1, ht, hw, hra, hrc, hrf, hB, ⟨n1, n2, n3⟩, inj⟩ := id hT
  have nth : ∀ t, t < 80 → th ≠ bx t := fun t q => mne h1 (hB t q) (by intro h; cases h)
  have ntk : ∀ t, t < 80 → tk ≠ bx t := fun t q => mne ht (hB t q) (by intro h; cases h)
  have nwh : ∀ t, t < 80 → wh ≠ bx t := fun t q => mne hw (hB t q) (by intro h; cases h)
  have nra : ∀ t, t < 80 → ra ≠ bx t := fun t q => mne hra (hB t q) (by intro h; cases h)
  have nrc : ∀ t, t < 80 → rc ≠ bx t := fun t q => mne hrc (hB t q) (by intro h; cases h)
  refine lv_iconst (v := iI 0) hx hb dX3_canMove_0 rfl ?_
  refine lv_istore_n (lv' := [(1, .int (iI 0)), (0, .ref th)]) hx hb dX3_canMove_1 rfl hl (by decide) rfl (fun ls hl => ?_)
  have loop2 : ∀ (fuel : Nat) (i : Int) (H : Heap) (locs : List Loc) (ls : Array Slot), (0 ≤ i) → (i ≤ 80) → (∀ t : Nat, (t : Int) < i → neB F t) → (80 - i).toNat < fuel → mG D b M s H → va_S (mF b) s.heap H locs → lv_has ls 2 [(1, .int (iI i)), (0, .ref th)] → W p l e ({ frames := 1, cells := 0, slots := 0, locals := 20 } : Room) s m args below meth c H locs 0 0 Q (F0 m 2 ls []) := by
    intro fuel
    induction fuel with
    | zero => intro i H locs ls hi0 hi1 hA hm; exact absurd hm (Nat.not_lt_zero _)
    | succ fuel ih2 =>
      intro i H locs ls hi0 hi1 hA hm hG hS hl
      refine lv_iload_n hx hb dX3_canMove_2 rfl (lv_at hl 0 rfl) ?_
      refine lv_bipush (v := iI 80) hx hb dX3_canMove_3 (by decide) ?_
      refine m_icmp_ge (tgt := 28) hx hb dX3_canMove_5 (by decide) ⟨by omega, by omega⟩ ⟨by omega, by omega⟩ (fun c5 => ?_) (fun c5 => ?_)
      · refine lv_iconst (v := iI 1) hx hb dX3_canMove_28 rfl ?_
        exact m_zret hx hb hr hlk hQ hG hS (Nat.le_of_ble_eq_true rfl) (Nat.le_of_ble_eq_true rfl) dX3_canMove_29 (Or.inr rfl) ⟨congrArg iI (tf_t (fun t h => hA t (by omega))).symm, rfl⟩
      · refine lv_aload_n hx hb dX3_canMove_8 rfl (lv_at hl 1 rfl) ?_
        refine m_get (ci := 3) (v := .ref rc) (C := RX3) (T := TX3) (N := 7) hx hb hts (by decide +kernel) hown K hG h1 rfl 4 (by decide) (by decide +kernel) rfl dX3_canMove_9 ?_
        refine lv_iload_n hx hb dX3_canMove_12 rfl (lv_at hl 0 rfl) ?_
        refine m_aald hx hb hG hrc i.toNat (by omega) (by omega) (by decide) (hrf i.toNat (by omega)) dX3_canMove_13 ?_
        refine m_callfi (m_runV (a := bx i.toNat) (As := []) (rest := []) ⟨hx, hb, hml, hown, hts⟩ (c_X0_isEmpty l D b _ (bx i.toNat) (F i.toNat 0) (F i.toNat 1) (F i.toNat 2) (F i.toNat 3) (hB i.toNat (by omega)) (sm63 (hR i.toNat 0)) (sm63 (hR i.toNat 1)) (sm63 (hR i.toNat 2)) (sm63 (hR i.toNat 3))) (cwV 0 hts gX3_canMove_X0_isEmpty rfl rfl rfl (by decide +kernel) ⟨Nat.le_of_ble_eq_true rfl, Nat.le_of_ble_eq_true rfl⟩) K hG (hB i.toNat (by omega)) rfl rfl rfl hl.1 rfl (Nat.le_of_ble_eq_true rfl) dX3_canMove_14 ⟨Nat.le_of_ble_eq_true rfl, Nat.le_of_ble_eq_true rfl⟩) hS (fun H locs hG hS => ?_)
        have hG : mG D b M s H := hG
        refine m_ifb_eq (tgt := 22) hx hb dX3_canMove_17 (by decide) (fun c17 => ?_) (fun c17 => ?_)
        · refine m_iinc (lv' := [(1, .int (iI (i + 1))), (0, .ref th)]) (k := 0) hx hb dX3_canMove_22 hl rfl (by decide) rfl (fun ls hl => ?_)
          refine lv_goto (tgt := 2) hx hb dX3_canMove_25 (by decide) ?_
          exact ih2 (i + 1) _ _ _ (by omega) (by omega) (fun t h => by rcases Int.lt_or_le (t : Int) i with q | q; exact hA t q; rw [show t = i.toNat by omega]; exact ⟨by omega, by omega⟩) (by omega) hG hS (lv_sub hl [0, 1] rfl)
        · refine lv_iconst (v := iI 0) hx hb dX3_canMove_20 rfl ?_
          exact m_zret hx hb hr hlk hQ hG hS (Nat.le_of_ble_eq_true rfl) (Nat.le_of_ble_eq_true rfl) dX3_canMove_21 (Or.inl rfl) ⟨congrArg iI (tf_f (fun q => by have := q i.toNat (by omega); omega)).symm, rfl⟩
  exact loop2 _ 0 _ _ _ (by omega) (by omega) (fun t h => absurd h (by omega)) (Nat.lt_succ_self _) hG hS (lv_sub hl [0, 1] rfl)

set_option maxHeartbeats 4000000 in
set_option maxRecDepth 100000 in
theorem c_X3_dropSight (l : Launch) (D : va_G) (b : Nat) (M : mM) (th tk wh ra rc : Nat) (rf : Nat → Option Nat) (bx : Nat → Nat) (sp n j : Int) (vt vw vr : Nat → Int) (F : Nat → Nat → Int) (hT : ThOk M th tk wh ra rc rf bx sp n j vt vw vr F) (hn0 : 0 ≤ n) (hn1 : n ≤ 12) (hsp0 : 0 ≤ sp) (hsp1 : sp ≤ 7) (sok : sOk n vt vw vr) : Met l yX3_dropSight wsX3_dropSight ({ frames := 3, cells := 0, slots := 0, locals := 58 } : Room) (mPc [.ref th] D b M) (mQi D b (fun r M1 => (n ≤ 0 ∧ r = iI 0 ∧ M1 = M) ∨ (0 < n ∧ r = iI 1 ∧ ThOk M1 th tk wh ra rc rf bx sp (n - 1) j vt vw vr (stF sp vt vw vr (n - 1).toNat) ∧ ∀ a, a ≠ th → (∀ t, t < 80 → a ≠ bx t) → M1 a = M a))) 0 0 (mF b) := by
  refine m_met (cc := cX3_dropSight) (maxL := 1) (ret := (some .boolean)) (by decide) rfl (Nat.le_of_ble_eq_true rfl) ?_
  intro p e s m args below meth c Q ls hx hb hml hr hts hown hlk hnm hQ K hG hS hl
  have hown : s.vm.findClass RX3 = some m.cls := hown
  have hl : lv_has ls 1 [(0, .ref th)] := hl
  obtain ⟨h1, ht, hw, hra, hrc, hrf, hB, ⟨n1, n2, n3⟩, inj⟩ := id hT
  have nth : ∀ t, t < 80 → th ≠ bx t := fun t q => mne h1 (hB t q) (by intro h; cases h)
  have ntk : ∀ t, t < 80 → tk ≠ bx t := fun t q => mne ht (hB t q) (by intro h; cases h)
  have nwh : ∀ t, t < 80 → wh ≠ bx t := fun t q => mne hw (hB t q) (by intro h; cases h)
  have nra : ∀ t, t < 80 → ra ≠ bx t := fun t q => mne hra (hB t q) (by intro h; cases h)
  have nrc : ∀ t, t < 80 → rc ≠ bx t := fun t q => mne hrc (hB t q) (by intro h; cases h)
  refine lv_aload_n hx hb dX3_dropSight_0 rfl (lv_at hl 0 rfl) ?_
  refine m_get (ci := 3) (v := .int (iI n)) (C := RX3) (T := TX3) (N := 7) hx hb hts (by decide +kernel) hown K hG h1 rfl 5 (by decide) (by decide +kernel) rfl dX3_dropSight_1 ?_
  refine m_if_gt (tgt := 9) hx hb dX3_dropSight_4 (by decide) ⟨by omega, by omega⟩ (fun c4 => ?_) (fun c4 => ?_)
  · refine lv_aload_n hx hb dX3_dropSight_9 rfl (lv_at hl 0 rfl) ?_
    refine lv_dup hx hb dX3_dropSight_10 rfl ?_
    refine m_get (ci := 3) (v := .int (iI n)) (C := RX3) (T := TX3) (N := 7) hx hb hts (by decide +kernel) hown K hG h1 rfl 5 (by decide) (by decide +kernel) rfl dX3_dropSight_11 ?_
    refine lv_iconst (v := iI 1) hx hb dX3_dropSight_14 rfl ?_
    refine m_isub hx hb dX3_dropSight_15 ?_
    refine m_put (ci := 3) (v := .int (iI (n - 1))) (ty := .int) (fs' := [.int (iI sp), .ref tk, .ref wh, .ref ra, .ref rc, .int (iI (n - 1)), .int (iI j)]) (C := RX3) (T := TX3) (N := 7) hx hb hts (by decide +kernel) tyX3 tyX3_ok nmX3 hown K hG hS h1 rfl 5 (by decide) (by decide +kernel) rfl (by decide +kernel) rfl rfl (Nat.le_of_ble_eq_true rfl) rfl dX3_dropSight_16 (fun H locs hG hS => ?_)
    have hG : mG D b (mset M th (.inr (3, [.int (iI sp), .ref tk, .ref wh, .ref ra, .ref rc, .int (iI (n - 1)), .int (iI j)]))) s H := hG
    refine lv_aload_n hx hb dX3_dropSight_19 rfl (lv_at hl 0 rfl) ?_
    refine m_callv (m_runV (a := th) (As := []) (rest := []) ⟨hx, hb, hml, hown, hts⟩ (c_X3_settle l D b _ th tk wh ra rc rf bx sp (n - 1) j vt vw vr F ⟨mset_self, ((mset_ne (mne ht h1 (by intro h; cases h))).trans ht), ((mset_ne (mne hw h1 (by intro h; cases h))).trans hw), ((mset_ne (mne hra h1 (by intro h; cases h))).trans hra), ((mset_ne (mne hrc h1 (by intro h; cases h))).trans hrc), hrf, (fun t q => ((mset_ne (Ne.symm (nth t (by omega)))).trans (hB t (by omega)))), ⟨n1, n2, n3⟩, inj⟩ (by omega) (by omega) hsp0 hsp1 (sOk_le sok (by omega))) (cwV 0 hts gX3_dropSight_X3_settle rfl rfl rfl (by decide +kernel) ⟨Nat.le_of_ble_eq_true rfl, Nat.le_of_ble_eq_true rfl⟩) K hG mset_self rfl rfl rfl hl.1 rfl (Nat.le_of_ble_eq_true rfl) dX3_dropSight_20 ⟨Nat.le_of_ble_eq_true rfl, Nat.le_of_ble_eq_true rfl⟩) hS (fun M2 H locs hw3 hG hS => ?_)
    obtain ⟨hT2, hF2⟩ := hw3
    obtain ⟨h1_2, ht_2, hw_2, hra_2, hrc_2, -, hB_2, -, -⟩ := id hT2
    refine lv_iconst (v := iI 1) hx hb dX3_dropSight_23 rfl ?_
    exact m_zret hx hb hr hlk hQ hG hS (Nat.le_of_ble_eq_true rfl) (Nat.le_of_ble_eq_true rfl) dX3_dropSight_24 (Or.inr rfl) (Or.inr ⟨by omega, rfl, hT2, fun a h8 h9 => (hF2 a h9).trans (mset_ne h8)⟩)
  · refine lv_iconst (v := iI 0) hx hb dX3_dropSight_7 rfl ?_
    exact m_zret hx hb hr hlk hQ hG hS (Nat.le_of_ble_eq_true rfl) (Nat.le_of_ble_eq_true rfl) dX3_dropSight_8 (Or.inl rfl) (Or.inl ⟨by omega, rfl, rfl⟩)

set_option maxHeartbeats 4000000 in
set_option maxRecDepth 100000 in
theorem c_X3_takeSight (l : Launch) (D : va_G) (b : Nat) (M : mM) (th tk wh ra rc : Nat) (rf : Nat → Option Nat) (bx : Nat → Nat) (sp n j : Int) (vt vw vr : Nat → Int) (F : Nat → Nat → Int) (hT : ThOk M th tk wh ra rc rf bx sp n j vt vw vr F) (hn0 : 0 ≤ n) (hn1 : n ≤ 12) (hsp0 : 0 ≤ sp) (hsp1 : sp ≤ 7) (sok : sOk n vt vw vr) (t0 w0 r0 : Int) (ht0 : 0 ≤ t0) (ht1 : t0 < 80) (hw0 : 0 ≤ w0) (hw1 : w0 < 4096) (hr0 : 0 ≤ r0) (hr1 : r0 < 64) : Met l yX3_takeSight wsX3_takeSight ({ frames := 3, cells := 0, slots := 0, locals := 58 } : Room) (mPc [.ref th, .int (iI t0), .int (iI w0), .int (iI r0)] D b M) (mQi D b (fun r M1 => (∀ a, a ≠ th → a ≠ tk → a ≠ wh → a ≠ ra → (∀ t, t < 80 → a ≠ bx t) → M1 a = M a) ∧ ((12 ≤ n ∧ r = iI 0 ∧ M1 = M) ∨ (n < 12 ∧ (∀ t : Nat, t < 80 → neB (stF sp (va_up vt n.toNat t0) (va_up vw n.toNat w0) (va_up vr n.toNat r0) (n + 1).toNat) t) ∧ r = iI 1 ∧ ThOk M1 th tk wh ra rc rf bx sp (n + 1) (j) (va_up vt n.toNat t0) (va_up vw n.toNat w0) (va_up vr n.toNat r0) (stF sp (va_up vt n.toNat t0) (va_up vw n.toNat w0) (va_up vr n.toNat r0) (n + 1).toNat)) ∨ (n < 12 ∧ ¬ (∀ t : Nat, t < 80 → neB (stF sp (va_up vt n.toNat t0) (va_up vw n.toNat w0) (va_up vr n.toNat r0) (n + 1).toNat) t) ∧ r = iI 0 ∧ ThOk M1 th tk wh ra rc rf bx sp (n) (j + 1) (va_up vt n.toNat t0) (va_up vw n.toNat w0) (va_up vr n.toNat r0) (stF sp (va_up vt n.toNat t0) (va_up vw n.toNat w0) (va_up vr n.toNat r0) n.toNat))))) 0 0 (mF b) := by
  refine m_met (cc := cX3_takeSight) (maxL := 4) (ret := (some .boolean)) (by decide) rfl (Nat.le_of_ble_eq_true rfl) ?_
  intro p e s m args below meth c Q ls hx hb hml hr hts hown hlk hnm hQ K hG hS hl
  have hown : s.vm.findClass RX3 = some m.cls := hown
  have hl : lv_has ls 4 [(0, .ref th), (1, .int (iI t0)), (2, .int (iI w0)), (3, .int (iI r0))] := hl
  obtain ⟨h1, ht, hw, hra, hrc, hrf, hB, ⟨n1, n2, n3⟩, inj⟩ := id hT
  have nth : ∀ t, t < 80 → th ≠ bx t := fun t q => mne h1 (hB t q) (by intro h; cases h)
  have ntk : ∀ t, t < 80 → tk ≠ bx t := fun t q => mne ht (hB t q) (by intro h; cases h)
  have nwh : ∀ t, t < 80 → wh ≠ bx t := fun t q => mne hw (hB t q) (by intro h; cases h)
  have nra : ∀ t, t < 80 → ra ≠ bx t := fun t q => mne hra (hB t q) (by intro h; cases h)
  have nrc : ∀ t, t < 80 → rc ≠ bx t := fun t q => mne hrc (hB t q) (by intro h; cases h)
  refine lv_aload_n hx hb dX3_takeSight_0 rfl (lv_at hl 0 rfl) ?_
  refine m_get (ci := 3) (v := .int (iI n)) (C := RX3) (T := TX3) (N := 7) hx hb hts (by decide +kernel) hown K hG h1 rfl 5 (by decide) (by decide +kernel) rfl dX3_takeSight_1 ?_
  refine lv_bipush (v := iI 12) hx hb dX3_takeSight_4 (by decide) ?_
  refine m_icmp_lt (tgt := 11) hx hb dX3_takeSight_6 (by decide) ⟨by omega, by omega⟩ ⟨by omega, by omega⟩ (fun c6 => ?_) (fun c6 => ?_)
  · refine lv_aload_n hx hb dX3_takeSight_11 rfl (lv_at hl 0 rfl) ?_
    refine m_get (ci := 3) (v := .ref tk) (C := RX3) (T := TX3) (N := 7) hx hb hts (by decide +kernel) hown K hG h1 rfl 1 (by decide) (by decide +kernel) rfl dX3_takeSight_12 ?_
    refine lv_aload_n hx hb dX3_takeSight_15 rfl (lv_at hl 0 rfl) ?_
    refine m_get (ci := 3) (v := .int (iI n)) (C := RX3) (T := TX3) (N := 7) hx hb hts (by decide +kernel) hown K hG h1 rfl 5 (by decide) (by decide +kernel) rfl dX3_takeSight_16 ?_
    refine lv_iload_n hx hb dX3_takeSight_19 rfl (lv_at hl 1 rfl) ?_
    refine m_iast hx hb hG hS ht n.toNat (by omega) (by omega) (by decide) dX3_takeSight_20 (fun H locs hG hS => ?_)
    have hG : mG D b (mset M tk (aI 12 (va_up vt n.toNat t0))) s H := hG
    refine lv_aload_n hx hb dX3_takeSight_21 rfl (lv_at hl 0 rfl) ?_
    refine m_get (ci := 3) (v := .ref wh) (C := RX3) (T := TX3) (N := 7) hx hb hts (by decide +kernel) hown K hG ((mset_ne (mne h1 ht (by intro h; cases h))).trans h1) rfl 2 (by decide) (by decide +kernel) rfl dX3_takeSight_22 ?_
    refine lv_aload_n hx hb dX3_takeSight_25 rfl (lv_at hl 0 rfl) ?_
    refine m_get (ci := 3) (v := .int (iI n)) (C := RX3) (T := TX3) (N := 7) hx hb hts (by decide +kernel) hown K hG ((mset_ne (mne h1 ht (by intro h; cases h))).trans h1) rfl 5 (by decide) (by decide +kernel) rfl dX3_takeSight_26 ?_
    refine lv_iload_n hx hb dX3_takeSight_29 rfl (lv_at hl 2 rfl) ?_
    refine m_iast hx hb hG hS ((mset_ne (Ne.symm n1)).trans hw) n.toNat (by omega) (by omega) (by decide) dX3_takeSight_30 (fun H locs hG hS => ?_)
    have hG : mG D b (mset (mset M tk (aI 12 (va_up vt n.toNat t0))) wh (aI 12 (va_up vw n.toNat w0))) s H := hG
    refine lv_aload_n hx hb dX3_takeSight_31 rfl (lv_at hl 0 rfl) ?_
    refine m_get (ci := 3) (v := .ref ra) (C := RX3) (T := TX3) (N := 7) hx hb hts (by decide +kernel) hown K hG ((mset_ne (mne h1 hw (by intro h; cases h))).trans ((mset_ne (mne h1 ht (by intro h; cases h))).trans h1)) rfl 3 (by decide) (by decide +kernel) rfl dX3_takeSight_32 ?_
    refine lv_aload_n hx hb dX3_takeSight_35 rfl (lv_at hl 0 rfl) ?_
    refine m_get (ci := 3) (v := .int (iI n)) (C := RX3) (T := TX3) (N := 7) hx hb hts (by decide +kernel) hown K hG ((mset_ne (mne h1 hw (by intro h; cases h))).trans ((mset_ne (mne h1 ht (by intro h; cases h))).trans h1)) rfl 5 (by decide) (by decide +kernel) rfl dX3_takeSight_36 ?_
    refine lv_iload_n hx hb dX3_takeSight_39 rfl (lv_at hl 3 rfl) ?_
    refine m_iast hx hb hG hS ((mset_ne (Ne.symm n3)).trans ((mset_ne (Ne.symm n2)).trans hra)) n.toNat (by omega) (by omega) (by decide) dX3_takeSight_40 (fun H locs hG hS => ?_)
    have hG : mG D b (mset (mset (mset M tk (aI 12 (va_up vt n.toNat t0))) wh (aI 12 (va_up vw n.toNat w0))) ra (aI 12 (va_up vr n.toNat r0))) s H := hG
    refine lv_aload_n hx hb dX3_takeSight_41 rfl (lv_at hl 0 rfl) ?_
    refine lv_dup hx hb dX3_takeSight_42 rfl ?_
    refine m_get (ci := 3) (v := .int (iI n)) (C := RX3) (T := TX3) (N := 7) hx hb hts (by decide +kernel) hown K hG ((mset_ne (mne h1 hra (by intro h; cases h))).trans ((mset_ne (mne h1 hw (by intro h; cases h))).trans ((mset_ne (mne h1 ht (by intro h; cases h))).trans h1))) rfl 5 (by decide) (by decide +kernel) rfl dX3_takeSight_43 ?_
    refine lv_iconst (v := iI 1) hx hb dX3_takeSight_46 rfl ?_
    refine m_iadd hx hb dX3_takeSight_47 ?_
    refine m_put (ci := 3) (v := .int (iI (n + 1))) (ty := .int) (fs' := [.int (iI sp), .ref tk, .ref wh, .ref ra, .ref rc, .int (iI (n + 1)), .int (iI j)]) (C := RX3) (T := TX3) (N := 7) hx hb hts (by decide +kernel) tyX3 tyX3_ok nmX3 hown K hG hS ((mset_ne (mne h1 hra (by intro h; cases h))).trans ((mset_ne (mne h1 hw (by intro h; cases h))).trans ((mset_ne (mne h1 ht (by intro h; cases h))).trans h1))) rfl 5 (by decide) (by decide +kernel) rfl (by decide +kernel) rfl rfl (Nat.le_of_ble_eq_true rfl) rfl dX3_takeSight_48 (fun H locs hG hS => ?_)
    have hG : mG D b (mset (mset (mset (mset M tk (aI 12 (va_up vt n.toNat t0))) wh (aI 12 (va_up vw n.toNat w0))) ra (aI 12 (va_up vr n.toNat r0))) th (.inr (3, [.int (iI sp), .ref tk, .ref wh, .ref ra, .ref rc, .int (iI (n + 1)), .int (iI j)]))) s H := hG
    have sok1 := sOk_up sok hn0 (t := t0) (w := w0) (r := r0) ⟨ht0, ht1⟩ ⟨hw0, hw1⟩ ⟨hr0, hr1⟩
    refine lv_aload_n hx hb dX3_takeSight_51 rfl (lv_at hl 0 rfl) ?_
    refine m_callv (m_runV (a := th) (As := []) (rest := []) ⟨hx, hb, hml, hown, hts⟩ (c_X3_settle l D b _ th tk wh ra rc rf bx sp (n + 1) j (va_up vt n.toNat t0) (va_up vw n.toNat w0) (va_up vr n.toNat r0) F ⟨mset_self, ((mset_ne (mne ht h1 (by intro h; cases h))).trans ((mset_ne n2).trans ((mset_ne n1).trans mset_self))), ((mset_ne (mne hw h1 (by intro h; cases h))).trans ((mset_ne n3).trans mset_self)), ((mset_ne (mne hra h1 (by intro h; cases h))).trans mset_self), ((mset_ne (mne hrc h1 (by intro h; cases h))).trans ((mset_ne (mne hrc hra (by intro h; cases h))).trans ((mset_ne (mne hrc hw (by intro h; cases h))).trans ((mset_ne (mne hrc ht (by intro h; cases h))).trans hrc)))), hrf, (fun t q => ((mset_ne (Ne.symm (nth t (by omega)))).trans ((mset_ne (Ne.symm (nra t (by omega)))).trans ((mset_ne (Ne.symm (nwh t (by omega)))).trans ((mset_ne (Ne.symm (ntk t (by omega)))).trans (hB t (by omega))))))), ⟨n1, n2, n3⟩, inj⟩ (by omega) (by omega) hsp0 hsp1 (sOk_le sok1 (by omega))) (cwV 0 hts gX3_takeSight_X3_settle rfl rfl rfl (by decide +kernel) ⟨Nat.le_of_ble_eq_true rfl, Nat.le_of_ble_eq_true rfl⟩) K hG mset_self rfl rfl rfl hl.1 rfl (Nat.le_of_ble_eq_true rfl) dX3_takeSight_52 ⟨Nat.le_of_ble_eq_true rfl, Nat.le_of_ble_eq_true rfl⟩) hS (fun M2 H locs hw3 hG hS => ?_)
    obtain ⟨hT2, hF2⟩ := hw3
    obtain ⟨h1_2, ht_2, hw_2, hra_2, hrc_2, -, hB_2, -, -⟩ := id hT2
    have hR_2 : in63 (stF sp (va_up vt n.toNat t0) (va_up vw n.toNat w0) (va_up vr n.toNat r0) (n + 1).toNat) := stF_rg hsp0 (fun k hk => (sok1 k (by omega)).2)
    refine lv_aload_n hx hb dX3_takeSight_55 rfl (lv_at hl 0 rfl) ?_
    refine m_callfi (m_runV (a := th) (As := []) (rest := []) ⟨hx, hb, hml, hown, hts⟩ (c_X3_canMove l D b _ th tk wh ra rc rf bx sp (n + 1) j (va_up vt n.toNat t0) (va_up vw n.toNat w0) (va_up vr n.toNat r0) (stF sp (va_up vt n.toNat t0) (va_up vw n.toNat w0) (va_up vr n.toNat r0) (n + 1).toNat) ⟨h1_2, ht_2, hw_2, hra_2, hrc_2, hrf, (fun t q => (hB_2 t (by omega))), ⟨n1, n2, n3⟩, inj⟩ hR_2) (cwV 0 hts gX3_takeSight_X3_canMove rfl rfl rfl (by decide +kernel) ⟨Nat.le_of_ble_eq_true rfl, Nat.le_of_ble_eq_true rfl⟩) K hG h1_2 rfl rfl rfl hl.1 rfl (Nat.le_of_ble_eq_true rfl) dX3_takeSight_56 ⟨Nat.le_of_ble_eq_true rfl, Nat.le_of_ble_eq_true rfl⟩) hS (fun H locs hG hS => ?_)
    have hG : mG D b M2 s H := hG
    refine m_ift_ne (tgt := 88) hx hb dX3_takeSight_59 (by decide) (fun c59 => ?_) (fun c59 => ?_)
    · refine lv_iconst (v := iI 1) hx hb dX3_takeSight_88 rfl ?_
      exact m_zret hx hb hr hlk hQ hG hS (Nat.le_of_ble_eq_true rfl) (Nat.le_of_ble_eq_true rfl) dX3_takeSight_89 (Or.inr rfl) ⟨fun a g1 g2 g3 g4 g5 => (hF2 a g5).trans ((mset_ne g1).trans ((mset_ne g4).trans ((mset_ne g3).trans (mset_ne g2)))), Or.inr (Or.inl ⟨by omega, c59, rfl, hT2⟩)⟩
    · refine lv_aload_n hx hb dX3_takeSight_62 rfl (lv_at hl 0 rfl) ?_
      refine lv_dup hx hb dX3_takeSight_63 rfl ?_
      refine m_get (ci := 3) (v := .int (iI (n + 1))) (C := RX3) (T := TX3) (N := 7) hx hb hts (by decide +kernel) hown K hG h1_2 rfl 5 (by decide) (by decide +kernel) rfl dX3_takeSight_64 ?_
      refine lv_iconst (v := iI 1) hx hb dX3_takeSight_67 rfl ?_
      refine m_isub hx hb dX3_takeSight_68 ?_
      refine m_put (ci := 3) (v := .int (iI ((n + 1) - 1))) (ty := .int) (fs' := [.int (iI sp), .ref tk, .ref wh, .ref ra, .ref rc, .int (iI ((n + 1) - 1)), .int (iI j)]) (C := RX3) (T := TX3) (N := 7) hx hb hts (by decide +kernel) tyX3 tyX3_ok nmX3 hown K hG hS h1_2 rfl 5 (by decide) (by decide +kernel) rfl (by decide +kernel) rfl rfl (Nat.le_of_ble_eq_true rfl) rfl dX3_takeSight_69 (fun H locs hG hS => ?_)
      have hG : mG D b (mset M2 th (.inr (3, [.int (iI sp), .ref tk, .ref wh, .ref ra, .ref rc, .int (iI ((n + 1) - 1)), .int (iI j)]))) s H := hG
      refine lv_aload_n hx hb dX3_takeSight_72 rfl (lv_at hl 0 rfl) ?_
      refine lv_dup hx hb dX3_takeSight_73 rfl ?_
      refine m_get (ci := 3) (v := .int (iI j)) (C := RX3) (T := TX3) (N := 7) hx hb hts (by decide +kernel) hown K hG mset_self rfl 6 (by decide) (by decide +kernel) rfl dX3_takeSight_74 ?_
      refine lv_iconst (v := iI 1) hx hb dX3_takeSight_77 rfl ?_
      refine m_iadd hx hb dX3_takeSight_78 ?_
      refine m_put (ci := 3) (v := .int (iI (j + 1))) (ty := .int) (fs' := [.int (iI sp), .ref tk, .ref wh, .ref ra, .ref rc, .int (iI ((n + 1) - 1)), .int (iI (j + 1))]) (C := RX3) (T := TX3) (N := 7) hx hb hts (by decide +kernel) tyX3 tyX3_ok nmX3 hown K hG hS mset_self rfl 6 (by decide) (by decide +kernel) rfl (by decide +kernel) rfl rfl (Nat.le_of_ble_eq_true rfl) rfl dX3_takeSight_79 (fun H locs hG hS => ?_)
      rw [mset_mset] at hG
      have hG : mG D b (mset M2 th (.inr (3, [.int (iI sp), .ref tk, .ref wh, .ref ra, .ref rc, .int (iI ((n + 1) - 1)), .int (iI (j + 1))]))) s H := hG
      refine lv_aload_n hx hb dX3_takeSight_82 rfl (lv_at hl 0 rfl) ?_
      refine m_callv (m_runV (a := th) (As := []) (rest := []) ⟨hx, hb, hml, hown, hts⟩ (c_X3_settle l D b _ th tk wh ra rc rf bx sp ((n + 1) - 1) (j + 1) (va_up vt n.toNat t0) (va_up vw n.toNat w0) (va_up vr n.toNat r0) (stF sp (va_up vt n.toNat t0) (va_up vw n.toNat w0) (va_up vr n.toNat r0) (n + 1).toNat) ⟨mset_self, ((mset_ne (mne ht_2 h1_2 (by intro h; cases h))).trans ht_2), ((mset_ne (mne hw_2 h1_2 (by intro h; cases h))).trans hw_2), ((mset_ne (mne hra_2 h1_2 (by intro h; cases h))).trans hra_2), ((mset_ne (mne hrc_2 h1_2 (by intro h; cases h))).trans hrc_2), hrf, (fun t q => ((mset_ne (Ne.symm (nth t (by omega)))).trans (hB_2 t (by omega)))), ⟨n1, n2, n3⟩, inj⟩ (by omega) (by omega) hsp0 hsp1 (sOk_le sok1 (by omega))) (cwV 0 hts gX3_takeSight_X3_settle rfl rfl rfl (by decide +kernel) ⟨Nat.le_of_ble_eq_true rfl, Nat.le_of_ble_eq_true rfl⟩) K hG mset_self rfl rfl rfl hl.1 rfl (Nat.le_of_ble_eq_true rfl) dX3_takeSight_83 ⟨Nat.le_of_ble_eq_true rfl, Nat.le_of_ble_eq_true rfl⟩) hS (fun M5 H locs hw6 hG hS => ?_)
      obtain ⟨hT5, hF5⟩ := hw6
      obtain ⟨h1_5, ht_5, hw_5, hra_5, hrc_5, -, hB_5, -, -⟩ := id hT5
      refine lv_iconst (v := iI 0) hx hb dX3_takeSight_86 rfl ?_
      exact m_zret hx hb hr hlk hQ hG hS (Nat.le_of_ble_eq_true rfl) (Nat.le_of_ble_eq_true rfl) dX3_takeSight_87 (Or.inl rfl) ⟨fun a g1 g2 g3 g4 g5 => (hF5 a g5).trans ((mset_ne g1).trans ((hF2 a g5).trans ((mset_ne g1).trans ((mset_ne g4).trans ((mset_ne g3).trans (mset_ne g2)))))), Or.inr (Or.inr ⟨by omega, c59, rfl, (by have h9 := hT5; rw [show n + 1 - 1 = n by omega] at h9; exact h9)⟩)⟩
  · refine lv_iconst (v := iI 0) hx hb dX3_takeSight_9 rfl ?_
    exact m_zret hx hb hr hlk hQ hG hS (Nat.le_of_ble_eq_true rfl) (Nat.le_of_ble_eq_true rfl) dX3_takeSight_10 (Or.inl rfl) ⟨fun a _ _ _ _ _ => rfl, Or.inl ⟨by omega, rfl, rfl⟩⟩

set_option maxHeartbeats 4000000 in
set_option maxRecDepth 100000 in
theorem c_X3_advance (l : Launch) (D : va_G) (b : Nat) (M : mM) (th tk wh ra rc : Nat) (rf : Nat → Option Nat) (bx : Nat → Nat) (sp n j : Int) (vt vw vr : Nat → Int) (F : Nat → Nat → Int) (hT : ThOk M th tk wh ra rc rf bx sp n j vt vw vr F) (hsp0 : 0 ≤ sp) (hsp1 : sp ≤ 7) (h r : Nat) (S : Nat → Nat → Bool) (hp : M h = some (Pl r)) (h2 : M r = some (aL 64 S)) (t0 : Int) (ht0 : 0 ≤ t0) (ht1 : t0 < 80) (hR : in63 F) (hne : neB F t0.toNat) : Met l yX3_advance wsX3_advance ({ frames := 2, cells := 0, slots := 0, locals := 45 } : Room) (mPc [.ref th, .ref h, .int (iI t0)] D b M) (mQv D b (fun M1 => ∃ T : Nat → Nat → Bool, M1 = mset M r (aL 64 T) ∧ ∀ a c : Nat, a < 64 → c < 64 → (T a c = true ↔ ((F t0.toNat 0 ≤ (a : Int) ∧ (a : Int) ≤ F t0.toNat 1) ∧ (F t0.toNat 2 ≤ (c : Int) ∧ (c : Int) ≤ F t0.toNat 3)) ∧ wide sp.toNat S a c))) 0 0 (mF b) := by
  refine m_met (cc := cX3_advance) (maxL := 3) (ret := none) (by decide) rfl (Nat.le_of_ble_eq_true rfl) ?_
  intro p e s m args below meth c Q ls hx hb hml hr hts hown hlk hnm hQ K hG hS hl
  have hown : s.vm.findClass RX3 = some m.cls := hown
  have hl : lv_has ls 3 [(0, .ref th), (1, .ref h), (2, .int (iI t0))] := hl
  obtain ⟨h1, ht, hw, hra, hrc, hrf, hB, ⟨n1, n2, n3⟩, inj⟩ := id hT
  have nth : ∀ t, t < 80 → th ≠ bx t := fun t q => mne h1 (hB t q) (by intro h; cases h)
  have ntk : ∀ t, t < 80 → tk ≠ bx t := fun t q => mne ht (hB t q) (by intro h; cases h)
  have nwh : ∀ t, t < 80 → wh ≠ bx t := fun t q => mne hw (hB t q) (by intro h; cases h)
  have nra : ∀ t, t < 80 → ra ≠ bx t := fun t q => mne hra (hB t q) (by intro h; cases h)
  have nrc : ∀ t, t < 80 → rc ≠ bx t := fun t q => mne hrc (hB t q) (by intro h; cases h)
  refine lv_aload_n hx hb dX3_advance_0 rfl (lv_at hl 1 rfl) ?_
  refine lv_aload_n hx hb dX3_advance_1 rfl (lv_at hl 0 rfl) ?_
  refine m_get (ci := 3) (v := .int (iI sp)) (C := RX3) (T := TX3) (N := 7) hx hb hts (by decide +kernel) hown K hG h1 rfl 0 (by decide) (by decide +kernel) rfl dX3_advance_2 ?_
  refine m_callv (m_runV (a := h) (As := [.int (iI sp)]) (rest := []) ⟨hx, hb, hml, hown, hts⟩ (c_X1_widen l D b _ h r S hp h2 sp (by omega) (by omega)) (cwV 1 hts gX3_advance_X1_widen rfl rfl rfl (by decide +kernel) ⟨Nat.le_of_ble_eq_true rfl, Nat.le_of_ble_eq_true rfl⟩) K hG hp rfl rfl rfl hl.1 rfl (Nat.le_of_ble_eq_true rfl) dX3_advance_5 ⟨Nat.le_of_ble_eq_true rfl, Nat.le_of_ble_eq_true rfl⟩) hS (fun M2 H locs hw3 hG hS => ?_)
  obtain ⟨T1, hwM, hT1⟩ := hw3
  rw [hwM] at hG
  have hv1 := (hR t0.toNat 0).1
  have hv2 := hne.1
  have hv3 := (hR t0.toNat 1).2
  have hv4 := (hR t0.toNat 2).1
  have hv5 := hne.2
  have hv6 := (hR t0.toNat 3).2
  refine lv_aload_n hx hb dX3_advance_8 rfl (lv_at hl 1 rfl) ?_
  refine lv_aload_n hx hb dX3_advance_9 rfl (lv_at hl 0 rfl) ?_
  refine m_get (ci := 3) (v := .ref rc) (C := RX3) (T := TX3) (N := 7) hx hb hts (by decide +kernel) hown K hG ((mset_ne (mne h1 h2 (by intro h; cases h))).trans h1) rfl 4 (by decide) (by decide +kernel) rfl dX3_advance_10 ?_
  refine lv_iload_n hx hb dX3_advance_13 rfl (lv_at hl 2 rfl) ?_
  refine m_aald hx hb hG ((mset_ne (mne hrc h2 (by intro h; cases h))).trans hrc) t0.toNat (by omega) (by omega) (by decide) (hrf t0.toNat (by omega)) dX3_advance_14 ?_
  refine m_callfv (m_runV (a := h) (As := [.ref (bx t0.toNat)]) (rest := []) ⟨hx, hb, hml, hown, hts⟩ (c_X1_keep l D b _ h r T1 ((mset_ne (mne hp h2 (by intro h; cases h))).trans hp) mset_self (bx t0.toNat) (F t0.toNat 0) (F t0.toNat 1) (F t0.toNat 2) (F t0.toNat 3) ((mset_ne (mne (hB t0.toNat (by omega)) h2 (by intro h; cases h))).trans (hB t0.toNat (by omega))) hv1 hv2 hv3 hv4 hv5 hv6) (cwV 1 hts gX3_advance_X1_keep rfl rfl rfl (by decide +kernel) ⟨Nat.le_of_ble_eq_true rfl, Nat.le_of_ble_eq_true rfl⟩) K hG ((mset_ne (mne hp h2 (by intro h; cases h))).trans hp) rfl rfl rfl hl.1 rfl (Nat.le_of_ble_eq_true rfl) dX3_advance_15 ⟨Nat.le_of_ble_eq_true rfl, Nat.le_of_ble_eq_true rfl⟩) hS (fun H locs hG hS => ?_)
  rw [mset_mset] at hG
  have hG : mG D b (mset M r (aL 64 (fun (a c : Nat) => if (a : Int) < 64 then (decide (F t0.toNat 0 ≤ (a : Int) ∧ (a : Int) ≤ F t0.toNat 1) && (T1 a c && decide (F t0.toNat 2 ≤ (c : Int) ∧ (c : Int) ≤ F t0.toNat 3))) else T1 a c))) s H := hG
  exact m_vret hx hb hr hlk hQ hG hS (Nat.le_of_ble_eq_true rfl) (Nat.le_of_ble_eq_true rfl) dX3_advance_18 ⟨_, rfl, fun a c ha hc => by rw [if_pos (by omega), ← hT1 a c ha hc]; simp only [Bool.and_eq_true, decide_eq_true_eq]; constructor; rintro ⟨g1, g2, g3⟩; exact ⟨⟨g1, g3⟩, g2⟩; rintro ⟨⟨g1, g3⟩, g2⟩; exact ⟨g1, g2, g3⟩⟩

