abbrev Ta (lv : Nat) (f g : Int) : mE := .inr (2, [.ref lv, .int (iI f), .int (iI g)])
def TaOk (M : mM) (ta lv : Nat) (lf : Nat → Option Nat) (pk rk : Nat → Nat) (f g : Int) (S : Nat → Nat → Nat → Bool) : Prop :=
  M ta = some (Ta lv f g) ∧ M lv = some (aQ RX1 81 lf) ∧ (∀ k, k < 81 → lf k = some (pk k)) ∧ (∀ k, k < 81 → M (pk k) = some (Pl (rk k))) ∧ (∀ k, k < 81 → M (rk k) = some (aL 64 (S k))) ∧ (∀ k k2, k < 81 → k2 < 81 → rk k = rk k2 → k = k2)
theorem ThOk_fr {M M1 : mM} {th tk wh ra rc : Nat} {rf : Nat → Option Nat} {bx : Nat → Nat} {sp n j : Int} {vt vw vr : Nat → Int} {F : Nat → Nat → Int} (h : ThOk M th tk wh ra rc rf bx sp n j vt vw vr F) (hk : ∀ a v, M a = some v → (∀ S : Nat → Nat → Bool, v ≠ aL 64 S) → (∀ f2 g2 l2, v ≠ Ta l2 f2 g2) → M1 a = M a) : ThOk M1 th tk wh ra rc rf bx sp n j vt vw vr F := by
  obtain ⟨h1, h2, h3, h4, h5, h6, h7, h8, h9⟩ := h
  exact ⟨(hk _ _ h1 (by intro _ z; cases z) (by intro _ _ _ z; cases z)).trans h1, (hk _ _ h2 (by intro _ z; cases z) (by intro _ _ _ z; cases z)).trans h2, (hk _ _ h3 (by intro _ z; cases z) (by intro _ _ _ z; cases z)).trans h3, (hk _ _ h4 (by intro _ z; cases z) (by intro _ _ _ z; cases z)).trans h4, (hk _ _ h5 (by intro _ z; cases z) (by intro _ _ _ z; cases z)).trans h5, h6, fun t q => (hk _ _ (h7 t q) (by intro _ z; cases z) (by intro _ _ _ z; cases z)).trans (h7 t q), h8, h9⟩
theorem rks_set {M : mM} {rk : Nat → Nat} {S : Nat → Nat → Nat → Bool} (inj : ∀ k k2, k < 81 → k2 < 81 → rk k = rk k2 → k = k2) (h : ∀ k, k < 81 → M (rk k) = some (aL 64 (S k))) {i : Nat} (hi : i < 81) {T : Nat → Nat → Bool} : ∀ k, k < 81 → mset M (rk i) (aL 64 T) (rk k) = some (aL 64 (va_up S i T k)) := by
  intro k hk
  by_cases g : k = i
  · subst g; rw [mset_self, va_up_self]
  · rw [mset_ne (fun z => g (inj k i hk hi z)), h k hk, va_up_ne _ _ g]
theorem rks_fr {M M0 : mM} {rk : Nat → Nat} (h : ∀ a, (∀ k, k < 81 → a ≠ rk k) → M a = M0 a) {i : Nat} (hi : i < 81) {v : mE} : ∀ a, (∀ k, k < 81 → a ≠ rk k) → mset M (rk i) v a = M0 a := fun a ha => by rw [mset_ne (ha i hi)]; exact h a ha
abbrev inB (F : Nat → Nat → Int) (t x y : Nat) : Prop := (F t 0 ≤ (x : Int) ∧ (x : Int) ≤ F t 1) ∧ (F t 2 ≤ (y : Int) ∧ (y : Int) ≤ F t 3)

set_option maxHeartbeats 4000000 in
set_option maxRecDepth 100000 in
theorem c_X2_narrow (l : Launch) (D : va_G) (b : Nat) (M : mM) (ta lv : Nat) (lf : Nat → Option Nat) (pk rk : Nat → Nat) (f g : Int) (S : Nat → Nat → Nat → Bool) (hA : TaOk M ta lv lf pk rk f g S) (hf : 0 ≤ f) (hfg : f ≤ g) (hg : g ≤ 80) (o : Nat) (w x y z : Int) (h3 : M o = some (Bx w x y z)) (hw : 0 ≤ w) (hwx : w ≤ x) (hx0 : x ≤ 63) (hy : 0 ≤ y) (hyz : y ≤ z) (hz : z ≤ 63) : Met l yX2_narrow wsX2_narrow ({ frames := 2, cells := 0, slots := 0, locals := 44 } : Room) (mPc [.ref ta, .ref o] D b M) (mQv D b (fun M1 => ∃ f1 g1 : Int, TaOk M1 ta lv lf pk rk f1 g1 S ∧ (∀ a, a ≠ ta → M1 a = M a) ∧ f ≤ f1 ∧ f1 ≤ g1 ∧ g1 ≤ g ∧ (∀ k : Nat, f ≤ k → (k : Int) < f1 → ∀ a c : Nat, a < 64 → c < 64 → S k a c = false) ∧ (f1 < g → ∃ a c : Nat, a < 64 ∧ c < 64 ∧ S f1.toNat a c = true) ∧ (∀ k : Nat, g1 ≤ k → (k : Int) < g → ∀ a c : Nat, w ≤ a → (a : Int) ≤ x → y ≤ c → (c : Int) ≤ z → S k a c = true))) 0 0 (mF b) := by
  refine m_met (cc := cX2_narrow) (maxL := 2) (ret := none) (by decide) rfl (Nat.le_of_ble_eq_true rfl) ?_
  intro p e s m args below meth c Q ls hx hb hml hr hts hown hlk hnm hQ K hG hS hl
  have hown : s.vm.findClass RX2 = some m.cls := hown
  have hl : lv_has ls 2 [(0, .ref ta), (1, .ref o)] := hl
  obtain ⟨a1, a2, hlf, hpk, hrk, injr⟩ := id hA
  have nta : ∀ k, k < 81 → ta ≠ rk k := fun k q => mne a1 (hrk k q) (by intro h; cases h)
  have nlv : ∀ k, k < 81 → lv ≠ rk k := fun k q => mne a2 (hrk k q) (by intro h; cases h)
  have npk : ∀ j k, j < 81 → k < 81 → pk j ≠ rk k := fun j k q q2 => mne (hpk j q) (hrk k q2) (by intro h; cases h)
  have loop0 : ∀ (fuel : Nat) (f1 : Int) (H : Heap) (locs : List Loc) (ls : Array Slot), (f ≤ f1) → (f1 ≤ g) → (∀ k : Nat, f ≤ k → (k : Int) < f1 → ∀ a c : Nat, a < 64 → c < 64 → S k a c = false) → (g - f1).toNat < fuel → mG D b (mset M ta (.inr (2, [.ref lv, .int (iI f1), .int (iI g)]))) s H → va_S (mF b) s.heap H locs → lv_has ls 2 [(0, .ref ta), (1, .ref o)] → W p l e ({ frames := 2, cells := 0, slots := 0, locals := 44 } : Room) s m args below meth c H locs 0 0 Q (F0 m 0 ls []) := by
    intro fuel
    induction fuel with
    | zero => intro f1 H locs ls hf0 hf1 hE hm; exact absurd hm (Nat.not_lt_zero _)
    | succ fuel ih0 =>
      intro f1 H locs ls hf0 hf1 hE hm hG hS hl
      refine lv_aload_n hx hb dX2_narrow_0 rfl (lv_at hl 0 rfl) ?_
      refine m_get (ci := 2) (v := .int (iI f1)) (C := RX2) (T := TX2) (N := 3) hx hb hts (by decide +kernel) hown K hG mset_self rfl 1 (by decide) (by decide +kernel) rfl dX2_narrow_1 ?_
      refine lv_aload_n hx hb dX2_narrow_4 rfl (lv_at hl 0 rfl) ?_
      refine m_get (ci := 2) (v := .int (iI g)) (C := RX2) (T := TX2) (N := 3) hx hb hts (by decide +kernel) hown K hG mset_self rfl 2 (by decide) (by decide +kernel) rfl dX2_narrow_5 ?_
      refine m_icmp_ge (tgt := 39) hx hb dX2_narrow_8 (by decide) ⟨by omega, by omega⟩ ⟨by omega, by omega⟩ (fun c8 => ?_) (fun c8 => ?_)
      · have hN : f1 < g → ∃ a c : Nat, a < 64 ∧ c < 64 ∧ S f1.toNat a c = true := fun h => absurd h (by omega)
        have loop39 : ∀ (fuel : Nat) (g1 : Int) (H : Heap) (locs : List Loc) (ls : Array Slot), (f1 ≤ g1) → (g1 ≤ g) → (∀ k : Nat, g1 ≤ k → (k : Int) < g → ∀ a c : Nat, w ≤ a → (a : Int) ≤ x → y ≤ c → (c : Int) ≤ z → S k a c = true) → (g1 - f1).toNat < fuel → mG D b (mset M ta (.inr (2, [.ref lv, .int (iI f1), .int (iI g1)]))) s H → va_S (mF b) s.heap H locs → lv_has ls 2 [(0, .ref ta), (1, .ref o)] → W p l e ({ frames := 2, cells := 0, slots := 0, locals := 44 } : Room) s m args below meth c H locs 0 0 Q (F0 m 39 ls []) := by
          intro fuel
          induction fuel with
          | zero => intro g1 H locs ls hg0 hg1 hC hm; exact absurd hm (Nat.not_lt_zero _)
          | succ fuel ih39 =>
            intro g1 H locs ls hg0 hg1 hC hm hG hS hl
            refine lv_aload_n hx hb dX2_narrow_39 rfl (lv_at hl 0 rfl) ?_
            refine m_get (ci := 2) (v := .int (iI g1)) (C := RX2) (T := TX2) (N := 3) hx hb hts (by decide +kernel) hown K hG mset_self rfl 2 (by decide) (by decide +kernel) rfl dX2_narrow_40 ?_
            refine lv_aload_n hx hb dX2_narrow_43 rfl (lv_at hl 0 rfl) ?_
            refine m_get (ci := 2) (v := .int (iI f1)) (C := RX2) (T := TX2) (N := 3) hx hb hts (by decide +kernel) hown K hG mset_self rfl 1 (by decide) (by decide +kernel) rfl dX2_narrow_44 ?_
            refine m_icmp_le (tgt := 81) hx hb dX2_narrow_47 (by decide) ⟨by omega, by omega⟩ ⟨by omega, by omega⟩ (fun c47 => ?_) (fun c47 => ?_)
            · exact m_vret hx hb hr hlk hQ hG hS (Nat.le_of_ble_eq_true rfl) (Nat.le_of_ble_eq_true rfl) dX2_narrow_81 ⟨f1, g1, ⟨mset_self, (mset_ne (mne a2 a1 (by intro h; cases h))).trans a2, hlf, (fun k q => (mset_ne (mne (hpk k q) a1 (by intro h; cases h))).trans (hpk k q)), (fun k q => (mset_ne (nta k q).symm).trans (hrk k q)), injr⟩, (fun a q => mset_ne q), hf0, hg0, hg1, hE, hN, hC⟩
            · refine lv_aload_n hx hb dX2_narrow_50 rfl (lv_at hl 0 rfl) ?_
              refine m_get (ci := 2) (v := .ref lv) (C := RX2) (T := TX2) (N := 3) hx hb hts (by decide +kernel) hown K hG mset_self rfl 0 (by decide) (by decide +kernel) rfl dX2_narrow_51 ?_
              refine lv_aload_n hx hb dX2_narrow_54 rfl (lv_at hl 0 rfl) ?_
              refine m_get (ci := 2) (v := .int (iI g1)) (C := RX2) (T := TX2) (N := 3) hx hb hts (by decide +kernel) hown K hG mset_self rfl 2 (by decide) (by decide +kernel) rfl dX2_narrow_55 ?_
              refine lv_iconst (v := iI 1) hx hb dX2_narrow_58 rfl ?_
              refine m_isub hx hb dX2_narrow_59 ?_
              refine m_aald hx hb hG ((mset_ne (mne a2 a1 (by intro h; cases h))).trans a2) ((g1 - 1).toNat) (by omega) (by omega) (by decide) (hlf ((g1 - 1).toNat) (by omega)) dX2_narrow_60 ?_
              refine lv_aload_n hx hb dX2_narrow_61 rfl (lv_at hl 1 rfl) ?_
              refine m_callfi (m_runV (a := pk ((g1 - 1).toNat)) (As := [.ref o]) (rest := []) ⟨hx, hb, hml, hown, hts⟩ (c_X1_covers l D b _ (pk ((g1 - 1).toNat)) (rk ((g1 - 1).toNat)) (S ((g1 - 1).toNat)) ((mset_ne (mne (hpk ((g1 - 1).toNat) (by omega)) a1 (by intro h; cases h))).trans (hpk ((g1 - 1).toNat) (by omega))) ((mset_ne (Ne.symm (nta ((g1 - 1).toNat) (by omega)))).trans (hrk ((g1 - 1).toNat) (by omega))) o w x y z ((mset_ne (mne h3 a1 (by intro h; cases h))).trans h3) (by omega) (by omega) (by omega) (by omega) (by omega) (by omega)) (cwV 1 hts gX2_narrow_X1_covers rfl rfl rfl (by decide +kernel) ⟨Nat.le_of_ble_eq_true rfl, Nat.le_of_ble_eq_true rfl⟩) K hG ((mset_ne (mne (hpk ((g1 - 1).toNat) (by omega)) a1 (by intro h; cases h))).trans (hpk ((g1 - 1).toNat) (by omega))) rfl rfl rfl hl.1 rfl (Nat.le_of_ble_eq_true rfl) dX2_narrow_62 ⟨Nat.le_of_ble_eq_true rfl, Nat.le_of_ble_eq_true rfl⟩) hS (fun H locs hG hS => ?_)
              have hG : mG D b (mset M ta (.inr (2, [.ref lv, .int (iI f1), .int (iI g1)]))) s H := hG
              refine m_ift_eq (tgt := 81) hx hb dX2_narrow_65 (by decide) (fun c65 => ?_) (fun c65 => ?_)
              · exact m_vret hx hb hr hlk hQ hG hS (Nat.le_of_ble_eq_true rfl) (Nat.le_of_ble_eq_true rfl) dX2_narrow_81 ⟨f1, g1, ⟨mset_self, (mset_ne (mne a2 a1 (by intro h; cases h))).trans a2, hlf, (fun k q => (mset_ne (mne (hpk k q) a1 (by intro h; cases h))).trans (hpk k q)), (fun k q => (mset_ne (nta k q).symm).trans (hrk k q)), injr⟩, (fun a q => mset_ne q), hf0, hg0, hg1, hE, hN, hC⟩
              · refine lv_aload_n hx hb dX2_narrow_68 rfl (lv_at hl 0 rfl) ?_
                refine lv_dup hx hb dX2_narrow_69 rfl ?_
                refine m_get (ci := 2) (v := .int (iI g1)) (C := RX2) (T := TX2) (N := 3) hx hb hts (by decide +kernel) hown K hG mset_self rfl 2 (by decide) (by decide +kernel) rfl dX2_narrow_70 ?_
                refine lv_iconst (v := iI 1) hx hb dX2_narrow_73 rfl ?_
                refine m_isub hx hb dX2_narrow_74 ?_
                refine m_put (ci := 2) (v := .int (iI (g1 - 1))) (ty := .int) (fs' := [.ref lv, .int (iI f1), .int (iI (g1 - 1))]) (C := RX2) (T := TX2) (N := 3) hx hb hts (by decide +kernel) tyX2 tyX2_ok nmX2 hown K hG hS mset_self rfl 2 (by decide) (by decide +kernel) rfl (by decide +kernel) rfl rfl (Nat.le_of_ble_eq_true rfl) rfl dX2_narrow_75 (fun H locs hG hS => ?_)
                rw [mset_mset] at hG
                have hG : mG D b (mset M ta (.inr (2, [.ref lv, .int (iI f1), .int (iI (g1 - 1))]))) s H := hG
                refine lv_goto (tgt := 39) hx hb dX2_narrow_78 (by decide) ?_
                exact ih39 (g1 - 1) _ _ _ (by omega) (by omega) (fun k q1 q2 => by rcases Int.lt_or_le (k : Int) g1 with q | q; rw [show k = (g1 - 1).toNat by omega]; exact c65; exact hC k q q2) (by omega) hG hS (lv_sub hl [0, 1] rfl)
        exact loop39 _ g _ _ _ (by omega) (by omega) (fun k h9 h8 => absurd h8 (by omega)) (Nat.lt_succ_self _) hG hS (lv_sub hl [0, 1] rfl)
      · refine lv_aload_n hx hb dX2_narrow_11 rfl (lv_at hl 0 rfl) ?_
        refine m_get (ci := 2) (v := .ref lv) (C := RX2) (T := TX2) (N := 3) hx hb hts (by decide +kernel) hown K hG mset_self rfl 0 (by decide) (by decide +kernel) rfl dX2_narrow_12 ?_
        refine lv_aload_n hx hb dX2_narrow_15 rfl (lv_at hl 0 rfl) ?_
        refine m_get (ci := 2) (v := .int (iI f1)) (C := RX2) (T := TX2) (N := 3) hx hb hts (by decide +kernel) hown K hG mset_self rfl 1 (by decide) (by decide +kernel) rfl dX2_narrow_16 ?_
        refine m_aald hx hb hG ((mset_ne (mne a2 a1 (by intro h; cases h))).trans a2) f1.toNat (by omega) (by omega) (by decide) (hlf f1.toNat (by omega)) dX2_narrow_19 ?_
        refine m_callfi (m_runV (a := pk f1.toNat) (As := []) (rest := []) ⟨hx, hb, hml, hown, hts⟩ (c_X1_isEmpty l D b _ (pk f1.toNat) (rk f1.toNat) (S f1.toNat) ((mset_ne (mne (hpk f1.toNat (by omega)) a1 (by intro h; cases h))).trans (hpk f1.toNat (by omega))) ((mset_ne (Ne.symm (nta f1.toNat (by omega)))).trans (hrk f1.toNat (by omega)))) (cwV 0 hts gX2_narrow_X1_isEmpty rfl rfl rfl (by decide +kernel) ⟨Nat.le_of_ble_eq_true rfl, Nat.le_of_ble_eq_true rfl⟩) K hG ((mset_ne (mne (hpk f1.toNat (by omega)) a1 (by intro h; cases h))).trans (hpk f1.toNat (by omega))) rfl rfl rfl hl.1 rfl (Nat.le_of_ble_eq_true rfl) dX2_narrow_20 ⟨Nat.le_of_ble_eq_true rfl, Nat.le_of_ble_eq_true rfl⟩) hS (fun H locs hG hS => ?_)
        have hG : mG D b (mset M ta (.inr (2, [.ref lv, .int (iI f1), .int (iI g)]))) s H := hG
        refine m_ift_eq (tgt := 39) hx hb dX2_narrow_23 (by decide) (fun c23 => ?_) (fun c23 => ?_)
        · have hN : f1 < g → ∃ a c : Nat, a < 64 ∧ c < 64 ∧ S f1.toNat a c = true := fun _ => by rcases Classical.em (∃ a c : Nat, a < 64 ∧ c < 64 ∧ S f1.toNat a c = true) with q | q; exact q; exact absurd (fun a c g1 g2 => by rcases h9 : S f1.toNat a c with _ | _; rfl; exact absurd ⟨a, c, g1, g2, h9⟩ q) c23
          have loop39 : ∀ (fuel : Nat) (g1 : Int) (H : Heap) (locs : List Loc) (ls : Array Slot), (f1 ≤ g1) → (g1 ≤ g) → (∀ k : Nat, g1 ≤ k → (k : Int) < g → ∀ a c : Nat, w ≤ a → (a : Int) ≤ x → y ≤ c → (c : Int) ≤ z → S k a c = true) → (g1 - f1).toNat < fuel → mG D b (mset M ta (.inr (2, [.ref lv, .int (iI f1), .int (iI g1)]))) s H → va_S (mF b) s.heap H locs → lv_has ls 2 [(0, .ref ta), (1, .ref o)] → W p l e ({ frames := 2, cells := 0, slots := 0, locals := 44 } : Room) s m args below meth c H locs 0 0 Q (F0 m 39 ls []) := by
            intro fuel
            induction fuel with
            | zero => intro g1 H locs ls hg0 hg1 hC hm; exact absurd hm (Nat.not_lt_zero _)
            | succ fuel ih39 =>
              intro g1 H locs ls hg0 hg1 hC hm hG hS hl
              refine lv_aload_n hx hb dX2_narrow_39 rfl (lv_at hl 0 rfl) ?_
              refine m_get (ci := 2) (v := .int (iI g1)) (C := RX2) (T := TX2) (N := 3) hx hb hts (by decide +kernel) hown K hG mset_self rfl 2 (by decide) (by decide +kernel) rfl dX2_narrow_40 ?_
              refine lv_aload_n hx hb dX2_narrow_43 rfl (lv_at hl 0 rfl) ?_
              refine m_get (ci := 2) (v := .int (iI f1)) (C := RX2) (T := TX2) (N := 3) hx hb hts (by decide +kernel) hown K hG mset_self rfl 1 (by decide) (by decide +kernel) rfl dX2_narrow_44 ?_
              refine m_icmp_le (tgt := 81) hx hb dX2_narrow_47 (by decide) ⟨by omega, by omega⟩ ⟨by omega, by omega⟩ (fun c47 => ?_) (fun c47 => ?_)
              · exact m_vret hx hb hr hlk hQ hG hS (Nat.le_of_ble_eq_true rfl) (Nat.le_of_ble_eq_true rfl) dX2_narrow_81 ⟨f1, g1, ⟨mset_self, (mset_ne (mne a2 a1 (by intro h; cases h))).trans a2, hlf, (fun k q => (mset_ne (mne (hpk k q) a1 (by intro h; cases h))).trans (hpk k q)), (fun k q => (mset_ne (nta k q).symm).trans (hrk k q)), injr⟩, (fun a q => mset_ne q), hf0, hg0, hg1, hE, hN, hC⟩
              · refine lv_aload_n hx hb dX2_narrow_50 rfl (lv_at hl 0 rfl) ?_
                refine m_get (ci := 2) (v := .ref lv) (C := RX2) (T := TX2) (N := 3) hx hb hts (by decide +kernel) hown K hG mset_self rfl 0 (by decide) (by decide +kernel) rfl dX2_narrow_51 ?_
                refine lv_aload_n hx hb dX2_narrow_54 rfl (lv_at hl 0 rfl) ?_
                refine m_get (ci := 2) (v := .int (iI g1)) (C := RX2) (T := TX2) (N := 3) hx hb hts (by decide +kernel) hown K hG mset_self rfl 2 (by decide) (by decide +kernel) rfl dX2_narrow_55 ?_
                refine lv_iconst (v := iI 1) hx hb dX2_narrow_58 rfl ?_
                refine m_isub hx hb dX2_narrow_59 ?_
                refine m_aald hx hb hG ((mset_ne (mne a2 a1 (by intro h; cases h))).trans a2) ((g1 - 1).toNat) (by omega) (by omega) (by decide) (hlf ((g1 - 1).toNat) (by omega)) dX2_narrow_60 ?_
                refine lv_aload_n hx hb dX2_narrow_61 rfl (lv_at hl 1 rfl) ?_
                refine m_callfi (m_runV (a := pk ((g1 - 1).toNat)) (As := [.ref o]) (rest := []) ⟨hx, hb, hml, hown, hts⟩ (c_X1_covers l D b _ (pk ((g1 - 1).toNat)) (rk ((g1 - 1).toNat)) (S ((g1 - 1).toNat)) ((mset_ne (mne (hpk ((g1 - 1).toNat) (by omega)) a1 (by intro h; cases h))).trans (hpk ((g1 - 1).toNat) (by omega))) ((mset_ne (Ne.symm (nta ((g1 - 1).toNat) (by omega)))).trans (hrk ((g1 - 1).toNat) (by omega))) o w x y z ((mset_ne (mne h3 a1 (by intro h; cases h))).trans h3) (by omega) (by omega) (by omega) (by omega) (by omega) (by omega)) (cwV 1 hts gX2_narrow_X1_covers rfl rfl rfl (by decide +kernel) ⟨Nat.le_of_ble_eq_true rfl, Nat.le_of_ble_eq_true rfl⟩) K hG ((mset_ne (mne (hpk ((g1 - 1).toNat) (by omega)) a1 (by intro h; cases h))).trans (hpk ((g1 - 1).toNat) (by omega))) rfl rfl rfl hl.1 rfl (Nat.le_of_ble_eq_true rfl) dX2_narrow_62 ⟨Nat.le_of_ble_eq_true rfl, Nat.le_of_ble_eq_true rfl⟩) hS (fun H locs hG hS => ?_)
                have hG : mG D b (mset M ta (.inr (2, [.ref lv, .int (iI f1), .int (iI g1)]))) s H := hG
                refine m_ift_eq (tgt := 81) hx hb dX2_narrow_65 (by decide) (fun c65 => ?_) (fun c65 => ?_)
                · exact m_vret hx hb hr hlk hQ hG hS (Nat.le_of_ble_eq_true rfl) (Nat.le_of_ble_eq_true rfl) dX2_narrow_81 ⟨f1, g1, ⟨mset_self, (mset_ne (mne a2 a1 (by intro h; cases h))).trans a2, hlf, (fun k q => (mset_ne (mne (hpk k q) a1 (by intro h; cases h))).trans (hpk k q)), (fun k q => (mset_ne (nta k q).symm).trans (hrk k q)), injr⟩, (fun a q => mset_ne q), hf0, hg0, hg1, hE, hN, hC⟩
                · refine lv_aload_n hx hb dX2_narrow_68 rfl (lv_at hl 0 rfl) ?_
                  refine lv_dup hx hb dX2_narrow_69 rfl ?_
                  refine m_get (ci := 2) (v := .int (iI g1)) (C := RX2) (T := TX2) (N := 3) hx hb hts (by decide +kernel) hown K hG mset_self rfl 2 (by decide) (by decide +kernel) rfl dX2_narrow_70 ?_
                  refine lv_iconst (v := iI 1) hx hb dX2_narrow_73 rfl ?_
                  refine m_isub hx hb dX2_narrow_74 ?_
                  refine m_put (ci := 2) (v := .int (iI (g1 - 1))) (ty := .int) (fs' := [.ref lv, .int (iI f1), .int (iI (g1 - 1))]) (C := RX2) (T := TX2) (N := 3) hx hb hts (by decide +kernel) tyX2 tyX2_ok nmX2 hown K hG hS mset_self rfl 2 (by decide) (by decide +kernel) rfl (by decide +kernel) rfl rfl (Nat.le_of_ble_eq_true rfl) rfl dX2_narrow_75 (fun H locs hG hS => ?_)
                  rw [mset_mset] at hG
                  have hG : mG D b (mset M ta (.inr (2, [.ref lv, .int (iI f1), .int (iI (g1 - 1))]))) s H := hG
                  refine lv_goto (tgt := 39) hx hb dX2_narrow_78 (by decide) ?_
                  exact ih39 (g1 - 1) _ _ _ (by omega) (by omega) (fun k q1 q2 => by rcases Int.lt_or_le (k : Int) g1 with q | q; rw [show k = (g1 - 1).toNat by omega]; exact c65; exact hC k q q2) (by omega) hG hS (lv_sub hl [0, 1] rfl)
          exact loop39 _ g _ _ _ (by omega) (by omega) (fun k h9 h8 => absurd h8 (by omega)) (Nat.lt_succ_self _) hG hS (lv_sub hl [0, 1] rfl)
        · refine lv_aload_n hx hb dX2_narrow_26 rfl (lv_at hl 0 rfl) ?_
          refine lv_dup hx hb dX2_narrow_27 rfl ?_
          refine m_get (ci := 2) (v := .int (iI f1)) (C := RX2) (T := TX2) (N := 3) hx hb hts (by decide +kernel) hown K hG mset_self rfl 1 (by decide) (by decide +kernel) rfl dX2_narrow_28 ?_
          refine lv_iconst (v := iI 1) hx hb dX2_narrow_31 rfl ?_
          refine m_iadd hx hb dX2_narrow_32 ?_
          refine m_put (ci := 2) (v := .int (iI (f1 + 1))) (ty := .int) (fs' := [.ref lv, .int (iI (f1 + 1)), .int (iI g)]) (C := RX2) (T := TX2) (N := 3) hx hb hts (by decide +kernel) tyX2 tyX2_ok nmX2 hown K hG hS mset_self rfl 1 (by decide) (by decide +kernel) rfl (by decide +kernel) rfl rfl (Nat.le_of_ble_eq_true rfl) rfl dX2_narrow_33 (fun H locs hG hS => ?_)
          rw [mset_mset] at hG
          have hG : mG D b (mset M ta (.inr (2, [.ref lv, .int (iI (f1 + 1)), .int (iI g)]))) s H := hG
          refine lv_goto (tgt := 0) hx hb dX2_narrow_36 (by decide) ?_
          exact ih0 (f1 + 1) _ _ _ (by omega) (by omega) (fun k g1 g2 => by rcases Int.lt_or_le (k : Int) f1 with q | q; exact hE k g1 q; rw [show k = f1.toNat by omega]; exact c23) (by omega) hG hS (lv_sub hl [0, 1] rfl)
  exact loop0 _ f _ _ _ (by omega) (by omega) (fun k h9 h8 => absurd h8 (by omega)) (Nat.lt_succ_self _) (by rw [mset_id a1]; exact hG) hS (lv_sub hl [0, 1] rfl)

set_option maxHeartbeats 4000000 in
set_option maxRecDepth 100000 in
theorem c_X2_countTick (l : Launch) (D : va_G) (b : Nat) (M : mM) (ta lv : Nat) (lf : Nat → Option Nat) (pk rk : Nat → Nat) (f g : Int) (S : Nat → Nat → Nat → Bool) (hA : TaOk M ta lv lf pk rk f g S) (hf : 0 ≤ f) (hfg : f ≤ g) (hg : g ≤ 79) (p2 r2 : Nat) (S2 : Nat → Nat → Bool) (g1 : M p2 = some (Pl r2)) (g2 : M r2 = some (aL 64 S2)) (nr2 : ∀ k, k < 81 → r2 ≠ rk k) : Met l yX2_countTick wsX2_countTick ({ frames := 1, cells := 0, slots := 0, locals := 25 } : Room) (mPc [.ref ta, .ref p2] D b M) (mQv D b (fun M1 => ∃ S1 : Nat → Nat → Nat → Bool, TaOk M1 ta lv lf pk rk f (g + 1) S1 ∧ (∀ a, a ≠ ta → (∀ k, k < 81 → a ≠ rk k) → M1 a = M a) ∧ (∀ k : Nat, f < k → (k : Int) ≤ g → ∀ x y : Nat, x < 64 → S1 k x y = ((S k x y && !S2 x y) || (S (k - 1) x y && S2 x y))) ∧ (∀ x y : Nat, x < 64 → S1 f.toNat x y = (S f.toNat x y && !S2 x y)))) 0 0 (mF b) := by
  refine m_met (cc := cX2_countTick) (maxL := 3) (ret := none) (by decide) rfl (Nat.le_of_ble_eq_true rfl) ?_
  intro p e s m args below meth c Q ls hx hb hml hr hts hown hlk hnm hQ K hG hS hl
  have hown : s.vm.findClass RX2 = some m.cls := hown
  have hl : lv_has ls 3 [(0, .ref ta), (1, .ref p2)] := hl
  obtain ⟨a1, a2, hlf, hpk, hrk, injr⟩ := id hA
  have nta : ∀ k, k < 81 → ta ≠ rk k := fun k q => mne a1 (hrk k q) (by intro h; cases h)
  have nlv : ∀ k, k < 81 → lv ≠ rk k := fun k q => mne a2 (hrk k q) (by intro h; cases h)
  have npk : ∀ j k, j < 81 → k < 81 → pk j ≠ rk k := fun j k q q2 => mne (hpk j q) (hrk k q2) (by intro h; cases h)
  have np2 : ∀ k, k < 81 → p2 ≠ rk k := fun k q => mne g1 (hrk k q) (by intro h; cases h)
  refine lv_aload_n hx hb dX2_countTick_0 rfl (lv_at hl 0 rfl) ?_
  refine m_get (ci := 2) (v := .int (iI g)) (C := RX2) (T := TX2) (N := 3) hx hb hts (by decide +kernel) hown K hG a1 rfl 2 (by decide) (by decide +kernel) rfl dX2_countTick_1 ?_
  refine lv_istore_n (lv' := [(2, .int (iI g)), (0, .ref ta), (1, .ref p2)]) hx hb dX2_countTick_4 rfl hl (by decide) rfl (fun ls hl => ?_)
  have loop5 : ∀ (fuel : Nat) (i : Int) (M1 : mM) (S1 : Nat → Nat → Nat → Bool) (H : Heap) (locs : List Loc) (ls : Array Slot), (f ≤ i) → (i ≤ g) → (∀ k, k < 81 → M1 (rk k) = some (aL 64 (S1 k))) → (∀ a, (∀ k, k < 81 → a ≠ rk k) → M1 a = M a) → (∀ k : Nat, i < k → (k : Int) ≤ g → ∀ x y : Nat, x < 64 → S1 k x y = ((S k x y && !S2 x y) || (S (k - 1) x y && S2 x y))) → (∀ k : Nat, (k : Int) ≤ i → S1 k = S k) → (i - f).toNat < fuel → mG D b M1 s H → va_S (mF b) s.heap H locs → lv_has ls 3 [(2, .int (iI i)), (0, .ref ta), (1, .ref p2)] → W p l e ({ frames := 1, cells := 0, slots := 0, locals := 25 } : Room) s m args below meth c H locs 0 0 Q (F0 m 5 ls []) := by
    intro fuel
    induction fuel with
    | zero => intro i M1 S1 H locs ls hi0 hi1 hr1 hF1 hU hV hm; exact absurd hm (Nat.not_lt_zero _)
    | succ fuel ih5 =>
      intro i M1 S1 H locs ls hi0 hi1 hr1 hF1 hU hV hm hG hS hl
      refine lv_iload_n hx hb dX2_countTick_5 rfl (lv_at hl 0 rfl) ?_
      refine lv_aload_n hx hb dX2_countTick_6 rfl (lv_at hl 1 rfl) ?_
      refine m_get (ci := 2) (v := .int (iI f)) (C := RX2) (T := TX2) (N := 3) hx hb hts (by decide +kernel) hown K hG ((hF1 ta nta).trans a1) rfl 1 (by decide) (by decide +kernel) rfl dX2_countTick_7 ?_
      refine m_icmp_le (tgt := 37) hx hb dX2_countTick_10 (by decide) ⟨by omega, by omega⟩ ⟨by omega, by omega⟩ (fun c10 => ?_) (fun c10 => ?_)
      · refine lv_aload_n hx hb dX2_countTick_37 rfl (lv_at hl 1 rfl) ?_
        refine m_get (ci := 2) (v := .ref lv) (C := RX2) (T := TX2) (N := 3) hx hb hts (by decide +kernel) hown K hG ((hF1 ta nta).trans a1) rfl 0 (by decide) (by decide +kernel) rfl dX2_countTick_38 ?_
        refine lv_aload_n hx hb dX2_countTick_41 rfl (lv_at hl 1 rfl) ?_
        refine m_get (ci := 2) (v := .int (iI f)) (C := RX2) (T := TX2) (N := 3) hx hb hts (by decide +kernel) hown K hG ((hF1 ta nta).trans a1) rfl 1 (by decide) (by decide +kernel) rfl dX2_countTick_42 ?_
        refine m_aald hx hb hG ((hF1 lv nlv).trans a2) f.toNat (by omega) (by omega) (by decide) (hlf f.toNat (by omega)) dX2_countTick_45 ?_
        refine lv_aload_n hx hb dX2_countTick_46 rfl (lv_at hl 2 rfl) ?_
        refine m_callfv (m_runV (a := pk f.toNat) (As := [.ref p2]) (rest := []) ⟨hx, hb, hml, hown, hts⟩ (c_X1_drop l D b _ (pk f.toNat) (rk f.toNat) (S1 f.toNat) ((hF1 (pk f.toNat) (fun k q => npk f.toNat k (by omega) q)).trans (hpk f.toNat (by omega))) (hr1 f.toNat (by omega)) p2 r2 S2 ((hF1 p2 np2).trans g1) ((hF1 r2 nr2).trans g2) (nr2 f.toNat (by omega))) (cwV 1 hts gX2_countTick_X1_drop rfl rfl rfl (by decide +kernel) ⟨Nat.le_of_ble_eq_true rfl, Nat.le_of_ble_eq_true rfl⟩) K hG ((hF1 (pk f.toNat) (fun k q => npk f.toNat k (by omega) q)).trans (hpk f.toNat (by omega))) rfl rfl rfl hl.1 rfl (Nat.le_of_ble_eq_true rfl) dX2_countTick_47 ⟨Nat.le_of_ble_eq_true rfl, Nat.le_of_ble_eq_true rfl⟩) hS (fun H locs hG hS => ?_)
        have hG : mG D b (mset M1 (rk f.toNat) (aL 64 (fun (a c : Nat) => if (a : Int) < 64 then ((S1 f.toNat) a c && !S2 a c) else (S1 f.toNat) a c))) s H := hG
        refine lv_aload_n hx hb dX2_countTick_50 rfl (lv_at hl 1 rfl) ?_
        refine m_get (ci := 2) (v := .int (iI g)) (C := RX2) (T := TX2) (N := 3) hx hb hts (by decide +kernel) hown K hG ((mset_ne (nta f.toNat (by omega))).trans ((hF1 ta nta).trans a1)) rfl 2 (by decide) (by decide +kernel) rfl dX2_countTick_51 ?_
        refine lv_bipush (v := iI 80) hx hb dX2_countTick_54 (by decide) ?_
        refine m_icmp_ge (tgt := 69) hx hb dX2_countTick_56 (by decide) ⟨by omega, by omega⟩ ⟨by omega, by omega⟩ (fun c56 => ?_) (fun c56 => ?_)
        · exact m_vret hx hb hr hlk hQ hG hS (Nat.le_of_ble_eq_true rfl) (Nat.le_of_ble_eq_true rfl) dX2_countTick_69 (absurd c56 (by omega))
        · refine lv_aload_n hx hb dX2_countTick_59 rfl (lv_at hl 1 rfl) ?_
          refine lv_dup hx hb dX2_countTick_60 rfl ?_
          refine m_get (ci := 2) (v := .int (iI g)) (C := RX2) (T := TX2) (N := 3) hx hb hts (by decide +kernel) hown K hG ((mset_ne (nta f.toNat (by omega))).trans ((hF1 ta nta).trans a1)) rfl 2 (by decide) (by decide +kernel) rfl dX2_countTick_61 ?_
          refine lv_iconst (v := iI 1) hx hb dX2_countTick_64 rfl ?_
          refine m_iadd hx hb dX2_countTick_65 ?_
          refine m_put (ci := 2) (v := .int (iI (g + 1))) (ty := .int) (fs' := [.ref lv, .int (iI f), .int (iI (g + 1))]) (C := RX2) (T := TX2) (N := 3) hx hb hts (by decide +kernel) tyX2 tyX2_ok nmX2 hown K hG hS ((mset_ne (nta f.toNat (by omega))).trans ((hF1 ta nta).trans a1)) rfl 2 (by decide) (by decide +kernel) rfl (by decide +kernel) rfl rfl (Nat.le_of_ble_eq_true rfl) rfl dX2_countTick_66 (fun H locs hG hS => ?_)
          have hG : mG D b (mset (mset M1 (rk f.toNat) (aL 64 (fun (a c : Nat) => if (a : Int) < 64 then ((S1 f.toNat) a c && !S2 a c) else (S1 f.toNat) a c))) ta (.inr (2, [.ref lv, .int (iI f), .int (iI (g + 1))]))) s H := hG
          exact m_vret hx hb hr hlk hQ hG hS (Nat.le_of_ble_eq_true rfl) (Nat.le_of_ble_eq_true rfl) dX2_countTick_69 ⟨va_up S1 f.toNat _, ⟨mset_self, ((mset_ne (mne a2 a1 (by intro h; cases h))).trans ((mset_ne (nlv f.toNat (by omega))).trans ((hF1 lv nlv).trans a2))), hlf, (fun k q => (mset_ne (mne (hpk k q) a1 (by intro h; cases h))).trans ((mset_ne (npk k f.toNat q (by omega))).trans ((hF1 (pk k) (fun k2 q2 => npk k k2 q q2)).trans (hpk k q)))), (fun k q => (mset_ne (nta k q).symm).trans (rks_set injr hr1 (by omega) k q)), injr⟩, (fun a q q2 => (mset_ne q).trans ((mset_ne (q2 f.toNat (by omega))).trans (hF1 a q2))), (fun k q1 q2 x y hx9 => by rw [va_up_ne _ _ (by omega)]; exact hU k (by omega) q2 x y hx9), (fun x y hx9 => by rw [va_up_self]; rw [if_pos (by omega), hV _ (by omega)])⟩
      · refine lv_aload_n hx hb dX2_countTick_13 rfl (lv_at hl 1 rfl) ?_
        refine m_get (ci := 2) (v := .ref lv) (C := RX2) (T := TX2) (N := 3) hx hb hts (by decide +kernel) hown K hG ((hF1 ta nta).trans a1) rfl 0 (by decide) (by decide +kernel) rfl dX2_countTick_14 ?_
        refine lv_iload_n hx hb dX2_countTick_17 rfl (lv_at hl 0 rfl) ?_
        refine m_aald hx hb hG ((hF1 lv nlv).trans a2) i.toNat (by omega) (by omega) (by decide) (hlf i.toNat (by omega)) dX2_countTick_18 ?_
        refine lv_aload_n hx hb dX2_countTick_19 rfl (lv_at hl 2 rfl) ?_
        refine lv_aload_n hx hb dX2_countTick_20 rfl (lv_at hl 1 rfl) ?_
        refine m_get (ci := 2) (v := .ref lv) (C := RX2) (T := TX2) (N := 3) hx hb hts (by decide +kernel) hown K hG ((hF1 ta nta).trans a1) rfl 0 (by decide) (by decide +kernel) rfl dX2_countTick_21 ?_
        refine lv_iload_n hx hb dX2_countTick_24 rfl (lv_at hl 0 rfl) ?_
        refine lv_iconst (v := iI 1) hx hb dX2_countTick_25 rfl ?_
        refine m_isub hx hb dX2_countTick_26 ?_
        refine m_aald hx hb hG ((hF1 lv nlv).trans a2) ((i - 1).toNat) (by omega) (by omega) (by decide) (hlf ((i - 1).toNat) (by omega)) dX2_countTick_27 ?_
        refine m_callfv (m_runV (a := pk i.toNat) (As := [.ref p2, .ref (pk ((i - 1).toNat))]) (rest := []) ⟨hx, hb, hml, hown, hts⟩ (c_X1_takeWithin l D b _ (pk i.toNat) (rk i.toNat) (S1 i.toNat) ((hF1 (pk i.toNat) (fun k q => npk i.toNat k (by omega) q)).trans (hpk i.toNat (by omega))) (hr1 i.toNat (by omega)) p2 r2 S2 ((hF1 p2 np2).trans g1) ((hF1 r2 nr2).trans g2) (nr2 i.toNat (by omega)) (pk ((i - 1).toNat)) (rk ((i - 1).toNat)) (S1 ((i - 1).toNat)) ((hF1 (pk ((i - 1).toNat)) (fun k q => npk ((i - 1).toNat) k (by omega) q)).trans (hpk ((i - 1).toNat) (by omega))) (hr1 ((i - 1).toNat) (by omega)) (fun z => absurd (injr ((i - 1).toNat) i.toNat (by omega) (by omega) z) (by omega))) (cwV 2 hts gX2_countTick_X1_takeWithin rfl rfl rfl (by decide +kernel) ⟨Nat.le_of_ble_eq_true rfl, Nat.le_of_ble_eq_true rfl⟩) K hG ((hF1 (pk i.toNat) (fun k q => npk i.toNat k (by omega) q)).trans (hpk i.toNat (by omega))) rfl rfl rfl hl.1 rfl (Nat.le_of_ble_eq_true rfl) dX2_countTick_28 ⟨Nat.le_of_ble_eq_true rfl, Nat.le_of_ble_eq_true rfl⟩) hS (fun H locs hG hS => ?_)
        have hG : mG D b (mset M1 (rk i.toNat) (aL 64 (fun (a c : Nat) => if (a : Int) < 64 then (((S1 i.toNat) a c && !S2 a c) || ((S1 ((i - 1).toNat)) a c && S2 a c)) else (S1 i.toNat) a c))) s H := hG
        refine m_iinc (lv' := [(2, .int (iI (i + (-1)))), (0, .ref ta), (1, .ref p2)]) (k := 0) hx hb dX2_countTick_31 hl rfl (by decide) rfl (fun ls hl => ?_)
        refine lv_goto (tgt := 5) hx hb dX2_countTick_34 (by decide) ?_
        exact ih5 (i + (-1)) (mset M1 (rk i.toNat) (aL 64 (fun (a c : Nat) => if (a : Int) < 64 then (((S1 i.toNat) a c && !S2 a c) || ((S1 ((i - 1).toNat)) a c && S2 a c)) else (S1 i.toNat) a c))) (va_up S1 i.toNat (fun (a c : Nat) => if (a : Int) < 64 then (((S1 i.toNat) a c && !S2 a c) || ((S1 ((i - 1).toNat)) a c && S2 a c)) else (S1 i.toNat) a c)) _ _ _ (by omega) (by omega) (rks_set injr hr1 (by omega)) (rks_fr hF1 (by omega)) (fun k q1 q2 x y hx9 => by by_cases g9 : k = i.toNat; rw [g9, va_up_self]; rw [if_pos (by omega), hV _ (by omega), hV _ (by omega), show (i - 1).toNat = i.toNat - 1 by omega]; rw [va_up_ne _ _ g9]; exact hU k (by omega) q2 x y hx9) (fun k q => by rw [va_up_ne _ _ (by omega)]; exact hV k (by omega)) (by omega) hG hS (lv_sub hl [0, 1, 2] rfl)
  exact loop5 _ g M S _ _ _ (by omega) (by omega) hrk (fun a _ => rfl) (fun k q1 q2 => absurd q1 (by omega)) (fun k _ => rfl) (Nat.lt_succ_self _) hG hS (lv_sub hl [0, 1, 2] rfl)

