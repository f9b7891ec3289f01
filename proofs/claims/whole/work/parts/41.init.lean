theorem mset_swap {M : mM} {q a : Nat} {w v : mE} (h : q ≠ a) : mset (mset M q w) a v = mset (mset M a v) q w := mset_comm M h w v
theorem mset_none {M : mM} {x q : Nat} {v : mE} (h : mset M x v q = none) : M q = none := by
  by_cases e : q = x
  · rw [e, mset_self] at h; cases h
  · rw [mset_ne e] at h; exact h
theorem msome {M : mM} {x : Nat} {v : mE} (h : M x = some v) : M x ≠ none := fun z => by rw [z] at h; cases h
theorem mnew {M M1 : mM} {o q : Nat} {v : mE} (h : ∀ a, a ≠ o → M a ≠ none → M1 a = M a) (ho : M1 o = some v) (hq : M1 q = none) : M q = none := by
  rcases Classical.em (M q = none) with z | z
  · exact z
  · exact absurd ((h q (fun e => by rw [e, ho] at hq; cases hq) z).symm.trans hq) z
theorem mold {M M1 : mM} {o q a : Nat} (h : ∀ a, a ≠ o → M a ≠ none → M1 a = M a) (hq : M1 q = none) (h1 : a ≠ o) (h2 : M a ≠ none) : a ≠ q := fun z => h2 (by rw [← h a h1 h2, z]; exact hq)
theorem va_some {f : Nat → Option Nat} {g : Nat → Nat} {i : Int} {q : Nat} (h : ∀ t : Nat, (t : Int) < i → f t = some (g t)) : ∀ t : Nat, (t : Int) < i + 1 → va_up f i.toNat (some q) t = some (va_up g i.toNat q t) := fun t ht => by
  by_cases e : t = i.toNat
  · rw [e, va_up_self, va_up_self]
  · rw [va_up_ne _ _ e, va_up_ne _ _ e]; exact h t (by omega)
theorem va_inj {g : Nat → Nat} {i : Int} {q : Nat} (h : ∀ t t2 : Nat, (t : Int) < i → (t2 : Int) < i → g t = g t2 → t = t2) (hq : ∀ t : Nat, (t : Int) < i → g t ≠ q) : ∀ t t2 : Nat, (t : Int) < i + 1 → (t2 : Int) < i + 1 → va_up g i.toNat q t = va_up g i.toNat q t2 → t = t2 := fun t t2 h1 h2 he => by
  by_cases e : t = i.toNat
  · by_cases e2 : t2 = i.toNat
    · omega
    · rw [e, va_up_self, va_up_ne _ _ e2] at he; exact absurd he.symm (hq t2 (by omega))
  · by_cases e2 : t2 = i.toNat
    · rw [e2, va_up_self, va_up_ne _ _ e] at he; exact absurd he (hq t (by omega))
    · rw [va_up_ne _ _ e, va_up_ne _ _ e2] at he; exact h t t2 (by omega) (by omega) he
theorem stF_0 {s : Int} (hs : 0 ≤ s) {vt vw vr : Nat → Int} {t : Nat} (ht : t < 80) : BF (stF s vt vw vr 0) t = Bx 0 63 0 63 := by
  have e := stF_eq (s := s) (vt := vt) (vw := vw) (vr := vr) (n := 0) hs (fun k hk => absurd hk (Nat.not_lt_zero k)) ht
  show Bx _ _ _ _ = _
  rw [e.1, e.2.1, e.2.2.1, e.2.2.2]
  rfl

set_option maxHeartbeats 4000000 in
set_option maxRecDepth 100000 in
theorem c_X3_init (l : Launch) (D : va_G) (b : Nat) (M : mM) (th : Nat) (sp : Int) (hsp : 0 ≤ sp) (h0 : M th = some (.inr (3, [.int (iI 0), .null, .null, .null, .null, .int (iI 0), .int (iI 0)]))) : Met l yX3_init wsX3_init ({ frames := 2, cells := 84, slots := 436, locals := 36 } : Room) (mPc [.ref th, .int (iI sp)] D b M) (mQv D b (fun M1 => ∃ (tk wh ra rc : Nat) (rf : Nat → Option Nat) (bx : Nat → Nat), ThOk M1 th tk wh ra rc rf bx sp 0 0 (fun _ => 0) (fun _ => 0) (fun _ => 0) (stF sp (fun _ => 0) (fun _ => 0) (fun _ => 0) 0) ∧ (∀ a, a ≠ th → M a ≠ none → M1 a = M a) ∧ (M tk = none ∧ M wh = none ∧ M ra = none ∧ M rc = none) ∧ ∀ t, t < 80 → M (bx t) = none)) 84 436 (mF b) := by
  refine m_met (cc := cX3_init) (maxL := 3) (ret := none) (by decide) rfl (Nat.le_of_ble_eq_true rfl) ?_
  intro p e s m args below meth c Q ls hx hb hml hr hts hown hlk hnm hQ K hG hS hl
  have hown : s.vm.findClass RX3 = some m.cls := hown
  have hl : lv_has ls 3 [(0, .ref th), (1, .int (iI sp))] := hl
  refine lv_aload_n hx hb dX3_init_0 rfl (lv_at hl 0 rfl) ?_
  refine W.objInit hx hb hown (hts (.methodLink RX3 3 objectInit) (by decide +kernel)) (hts (.instanceMethod objectInit) (by decide +kernel)) (hts (.code objectInit ⟨#[0xb1]⟩ 1 none) (by decide +kernel)) rfl (by rw [hml]; exact hl.1) rfl dX3_init_1 (Nat.le_of_ble_eq_true rfl) (Nat.le_of_ble_eq_true rfl) ?_
  refine W.eq (g2 := F0 m 4 ls []) rfl ?_
  refine lv_aload_n hx hb dX3_init_4 rfl (lv_at hl 0 rfl) ?_
  refine lv_iload_n hx hb dX3_init_5 rfl (lv_at hl 1 rfl) ?_
  refine m_putF (ci := 3) (v := .int (iI sp)) (ty := .int) (fs' := [.int (iI sp), .null, .null, .null, .null, .int (iI 0), .int (iI 0)]) (C := RX3) (T := TX3) (N := 7) hx hb hts (by decide +kernel) tyX3 tyX3_ok nmX3 hown K hG hS h0 rfl 0 (by decide) (by decide +kernel) rfl hnm rfl (by decide +kernel) rfl rfl (Nat.le_of_ble_eq_true rfl) rfl dX3_init_6 (fun H locs hG hS => ?_)
  have hG : mG D b (mset M th (.inr (3, [.int (iI sp), .null, .null, .null, .null, .int (iI 0), .int (iI 0)]))) s H := hG
  refine lv_aload_n hx hb dX3_init_9 rfl (lv_at hl 0 rfl) ?_
  refine lv_bipush (v := iI 12) hx hb dX3_init_10 (by decide) ?_
  refine m_newa_i (N' := 12) hx hb hts (by decide +kernel) hG hS rfl (by decide) (Nat.le_of_ble_eq_true rfl) (Nat.le_of_ble_eq_true rfl) dX3_init_12 (fun q1 H hq1 hG hS => ?_)
  have ne2 : th ≠ q1 := mfresh hq1 mset_self
  have hG : mG D b (mset (mset M th (.inr (3, [.int (iI sp), .null, .null, .null, .null, .int (iI 0), .int (iI 0)]))) q1 (aI 12 (fun _ => 0))) s H := hG
  refine m_putF (ci := 3) (v := .ref q1) (ty := .array .int) (fs' := [.int (iI sp), .ref q1, .null, .null, .null, .int (iI 0), .int (iI 0)]) (C := RX3) (T := TX3) (N := 7) hx hb hts (by decide +kernel) tyX3 tyX3_ok nmX3 hown K hG hS ((mset_ne ne2).trans mset_self) rfl 1 (by decide) (by decide +kernel) rfl hnm rfl (by decide +kernel) rfl rfl (Nat.le_of_ble_eq_true rfl) rfl dX3_init_14 (fun H locs hG hS => ?_)
  rw [mset_skip ne2] at hG
  have hG : mG D b (mset (mset M th (.inr (3, [.int (iI sp), .ref q1, .null, .null, .null, .int (iI 0), .int (iI 0)]))) q1 (aI 12 (fun _ => 0))) s H := hG
  refine lv_aload_n hx hb dX3_init_17 rfl (lv_at hl 0 rfl) ?_
  refine lv_bipush (v := iI 12) hx hb dX3_init_18 (by decide) ?_
  refine m_newa_i (N' := 12) hx hb hts (by decide +kernel) hG hS rfl (by decide) (Nat.le_of_ble_eq_true rfl) (Nat.le_of_ble_eq_true rfl) dX3_init_20 (fun q3 H hq3 hG hS => ?_)
  have ne4 : th ≠ q3 := mfresh hq3 ((mset_ne ne2).trans mset_self)
  have ne5 : q1 ≠ q3 := mfresh hq3 mset_self
  have hG : mG D b (mset (mset (mset M th (.inr (3, [.int (iI sp), .ref q1, .null, .null, .null, .int (iI 0), .int (iI 0)]))) q1 (aI 12 (fun _ => 0))) q3 (aI 12 (fun _ => 0))) s H := hG
  refine m_putF (ci := 3) (v := .ref q3) (ty := .array .int) (fs' := [.int (iI sp), .ref q1, .ref q3, .null, .null, .int (iI 0), .int (iI 0)]) (C := RX3) (T := TX3) (N := 7) hx hb hts (by decide +kernel) tyX3 tyX3_ok nmX3 hown K hG hS ((mset_ne ne4).trans ((mset_ne ne2).trans mset_self)) rfl 2 (by decide) (by decide +kernel) rfl hnm rfl (by decide +kernel) rfl rfl (Nat.le_of_ble_eq_true rfl) rfl dX3_init_22 (fun H locs hG hS => ?_)
  rw [mset_swap (Ne.symm ne4), mset_swap (Ne.symm ne2), mset_mset] at hG
  have hG : mG D b (mset (mset (mset M th (.inr (3, [.int (iI sp), .ref q1, .ref q3, .null, .null, .int (iI 0), .int (iI 0)]))) q1 (aI 12 (fun _ => 0))) q3 (aI 12 (fun _ => 0))) s H := hG
  refine lv_aload_n hx hb dX3_init_25 rfl (lv_at hl 0 rfl) ?_
  refine lv_bipush (v := iI 12) hx hb dX3_init_26 (by decide) ?_
  refine m_newa_i (N' := 12) hx hb hts (by decide +kernel) hG hS rfl (by decide) (Nat.le_of_ble_eq_true rfl) (Nat.le_of_ble_eq_true rfl) dX3_init_28 (fun q6 H hq6 hG hS => ?_)
  have ne7 : th ≠ q6 := mfresh hq6 ((mset_ne ne4).trans ((mset_ne ne2).trans mset_self))
  have ne8 : q1 ≠ q6 := mfresh hq6 ((mset_ne ne5).trans mset_self)
  have ne9 : q3 ≠ q6 := mfresh hq6 mset_self
  have hG : mG D b (mset (mset (mset (mset M th (.inr (3, [.int (iI sp), .ref q1, .ref q3, .null, .null, .int (iI 0), .int (iI 0)]))) q1 (aI 12 (fun _ => 0))) q3 (aI 12 (fun _ => 0))) q6 (aI 12 (fun _ => 0))) s H := hG
  refine m_putF (ci := 3) (v := .ref q6) (ty := .array .int) (fs' := [.int (iI sp), .ref q1, .ref q3, .ref q6, .null, .int (iI 0), .int (iI 0)]) (C := RX3) (T := TX3) (N := 7) hx hb hts (by decide +kernel) tyX3 tyX3_ok nmX3 hown K hG hS ((mset_ne ne7).trans ((mset_ne ne4).trans ((mset_ne ne2).trans mset_self))) rfl 3 (by decide) (by decide +kernel) rfl hnm rfl (by decide +kernel) rfl rfl (Nat.le_of_ble_eq_true rfl) rfl dX3_init_30 (fun H locs hG hS => ?_)
  rw [mset_swap (Ne.symm ne7), mset_swap (Ne.symm ne4), mset_swap (Ne.symm ne2), mset_mset] at hG
  have hG : mG D b (mset (mset (mset (mset M th (.inr (3, [.int (iI sp), .ref q1, .ref q3, .ref q6, .null, .int (iI 0), .int (iI 0)]))) q1 (aI 12 (fun _ => 0))) q3 (aI 12 (fun _ => 0))) q6 (aI 12 (fun _ => 0))) s H := hG
  refine lv_aload_n hx hb dX3_init_33 rfl (lv_at hl 0 rfl) ?_
  refine lv_bipush (v := iI 80) hx hb dX3_init_34 (by decide) ?_
  refine m_newq (C := RX0) (N' := 80) hx hb hts hown (by decide +kernel) K.2.2.2.2.1 hG hS rfl (by decide) (Nat.le_of_ble_eq_true rfl) (Nat.le_of_ble_eq_true rfl) dX3_init_36 (fun q10 H hq10 hG hS => ?_)
  have ne11 : th ≠ q10 := mfresh hq10 ((mset_ne ne7).trans ((mset_ne ne4).trans ((mset_ne ne2).trans mset_self)))
  have ne12 : q1 ≠ q10 := mfresh hq10 ((mset_ne ne8).trans ((mset_ne ne5).trans mset_self))
  have ne13 : q3 ≠ q10 := mfresh hq10 ((mset_ne ne9).trans mset_self)
  have ne14 : q6 ≠ q10 := mfresh hq10 mset_self
  have hG : mG D b (mset (mset (mset (mset (mset M th (.inr (3, [.int (iI sp), .ref q1, .ref q3, .ref q6, .null, .int (iI 0), .int (iI 0)]))) q1 (aI 12 (fun _ => 0))) q3 (aI 12 (fun _ => 0))) q6 (aI 12 (fun _ => 0))) q10 (aQ RX0 80 (fun _ => none))) s H := hG
  refine m_putF (ci := 3) (v := .ref q10) (ty := .array (.object "OverLine$Box")) (fs' := [.int (iI sp), .ref q1, .ref q3, .ref q6, .ref q10, .int (iI 0), .int (iI 0)]) (C := RX3) (T := TX3) (N := 7) hx hb hts (by decide +kernel) tyX3 tyX3_ok nmX3 hown K hG hS ((mset_ne ne11).trans ((mset_ne ne7).trans ((mset_ne ne4).trans ((mset_ne ne2).trans mset_self)))) rfl 4 (by decide) (by decide +kernel) rfl hnm rfl (by decide +kernel) rfl rfl (Nat.le_of_ble_eq_true rfl) rfl dX3_init_39 (fun H locs hG hS => ?_)
  rw [mset_swap (Ne.symm ne11), mset_swap (Ne.symm ne7), mset_swap (Ne.symm ne4), mset_swap (Ne.symm ne2), mset_mset] at hG
  have hG : mG D b (mset (mset (mset (mset (mset M th (.inr (3, [.int (iI sp), .ref q1, .ref q3, .ref q6, .ref q10, .int (iI 0), .int (iI 0)]))) q1 (aI 12 (fun _ => 0))) q3 (aI 12 (fun _ => 0))) q6 (aI 12 (fun _ => 0))) q10 (aQ RX0 80 (fun _ => none))) s H := hG
  refine lv_iconst (v := iI 0) hx hb dX3_init_42 rfl ?_
  refine lv_istore_n (lv' := [(2, .int (iI 0)), (0, .ref th), (1, .int (iI sp))]) hx hb dX3_init_43 rfl hl (by decide) rfl (fun ls hl => ?_)
  obtain ⟨M2, hM2⟩ : ∃ M2, M2 = (mset (mset (mset (mset (mset M th (.inr (3, [.int (iI sp), .ref q1, .ref q3, .ref q6, .ref q10, .int (iI 0), .int (iI 0)]))) q1 (aI 12 (fun _ => 0))) q3 (aI 12 (fun _ => 0))) q6 (aI 12 (fun _ => 0))) q10 (aQ RX0 80 (fun _ => none))) := ⟨_, rfl⟩
  have k1 : M2 th = some (.inr (3, [.int (iI sp), .ref q1, .ref q3, .ref q6, .ref q10, .int (iI 0), .int (iI 0)])) := by rw [hM2]; exact ((mset_ne ne11).trans ((mset_ne ne7).trans ((mset_ne ne4).trans ((mset_ne ne2).trans mset_self))))
  have k2 : M2 q1 = some (aI 12 (fun _ => 0)) := by rw [hM2]; exact ((mset_ne ne12).trans ((mset_ne ne8).trans ((mset_ne ne5).trans mset_self)))
  have k3 : M2 q3 = some (aI 12 (fun _ => 0)) := by rw [hM2]; exact ((mset_ne ne13).trans ((mset_ne ne9).trans mset_self))
  have k4 : M2 q6 = some (aI 12 (fun _ => 0)) := by rw [hM2]; exact ((mset_ne ne14).trans mset_self)
  have k5 : M2 q10 = some (aQ RX0 80 (fun _ => none)) := by rw [hM2]; exact mset_self
  have hG : mG D b M2 s H := by rw [hM2]; exact hG
  have k6 : ∀ a, a ≠ th → M a ≠ none → M2 a = M a := (fun a g1 g2 => by rw [hM2]; exact (mset_ne (fun z9 => g2 (by rw [z9]; exact (mset_none (mset_none (mset_none (mset_none hq10))))))).trans ((mset_ne (fun z9 => g2 (by rw [z9]; exact (mset_none (mset_none (mset_none hq6)))))).trans ((mset_ne (fun z9 => g2 (by rw [z9]; exact (mset_none (mset_none hq3))))).trans ((mset_ne (fun z9 => g2 (by rw [z9]; exact (mset_none hq1)))).trans (mset_ne g1)))))
  have k70 : M q1 = none := (mset_none hq1)
  have k71 : M q3 = none := (mset_none (mset_none hq3))
  have k72 : M q6 = none := (mset_none (mset_none (mset_none hq6)))
  have k73 : M q10 = none := (mset_none (mset_none (mset_none (mset_none hq10))))
  have loop44 : ∀ (fuel : Nat) (i : Int) (M1 : mM) (rf : Nat → Option Nat) (bx : Nat → Nat) (H : Heap) (locs : List Loc) (ls : Array Slot), (0 ≤ i) → (i ≤ 80) → (M1 th = some (.inr (3, [.int (iI sp), .ref q1, .ref q3, .ref q6, .ref q10, .int (iI 0), .int (iI 0)]))) → (M1 q1 = some (aI 12 (fun _ => 0))) → (M1 q3 = some (aI 12 (fun _ => 0))) → (M1 q6 = some (aI 12 (fun _ => 0))) → (M1 q10 = some (aQ RX0 80 rf)) → (∀ t : Nat, (t : Int) < i → rf t = some (bx t)) → (∀ t : Nat, (t : Int) < i → M1 (bx t) = some (Bx 0 63 0 63)) → (∀ a, a ≠ th → M a ≠ none → M1 a = M a) → (∀ t : Nat, (t : Int) < i → M (bx t) = none) → (∀ t t2 : Nat, (t : Int) < i → (t2 : Int) < i → bx t = bx t2 → t = t2) → (80 - i).toNat < fuel → mG D b M1 s H → va_S (mF b) s.heap H locs → lv_has ls 3 [(2, .int (iI i)), (0, .ref th), (1, .int (iI sp))] → W p l e ({ frames := 2, cells := 84, slots := 436, locals := 36 } : Room) s m args below meth c H locs (4 + i.toNat) (116 + 4 * i.toNat) Q (F0 m 44 ls []) := by
    intro fuel
    induction fuel with
    | zero => intro i M1 rf bx H locs ls hi0 hi1 f1 f2 f3 f4 f5 f6 f7 f8 f9 f10 hm; exact absurd hm (Nat.not_lt_zero _)
    | succ fuel ih44 =>
      intro i M1 rf bx H locs ls hi0 hi1 f1 f2 f3 f4 f5 f6 f7 f8 f9 f10 hm hG hS hl
      refine lv_iload_n hx hb dX3_init_44 rfl (lv_at hl 0 rfl) ?_
      refine lv_bipush (v := iI 80) hx hb dX3_init_45 (by decide) ?_
      refine m_icmp_ge (tgt := 75) hx hb dX3_init_47 (by decide) ⟨by omega, by omega⟩ ⟨by omega, by omega⟩ (fun c47 => ?_) (fun c47 => ?_)
      · refine lv_aload_n hx hb dX3_init_75 rfl (lv_at hl 1 rfl) ?_
        refine lv_iconst (v := iI 0) hx hb dX3_init_76 rfl ?_
        refine m_put (ci := 3) (v := .int (iI 0)) (ty := .int) (fs' := [.int (iI sp), .ref q1, .ref q3, .ref q6, .ref q10, .int (iI 0), .int (iI 0)]) (C := RX3) (T := TX3) (N := 7) hx hb hts (by decide +kernel) tyX3 tyX3_ok nmX3 hown K hG hS f1 rfl 5 (by decide) (by decide +kernel) rfl (by decide +kernel) rfl rfl (Nat.le_of_ble_eq_true rfl) rfl dX3_init_77 (fun H locs hG hS => ?_)
        have hG : mG D b (mset M1 th (.inr (3, [.int (iI sp), .ref q1, .ref q3, .ref q6, .ref q10, .int (iI 0), .int (iI 0)]))) s H := hG
        refine lv_aload_n hx hb dX3_init_80 rfl (lv_at hl 1 rfl) ?_
        refine lv_iconst (v := iI 0) hx hb dX3_init_81 rfl ?_
        refine m_put (ci := 3) (v := .int (iI 0)) (ty := .int) (fs' := [.int (iI sp), .ref q1, .ref q3, .ref q6, .ref q10, .int (iI 0), .int (iI 0)]) (C := RX3) (T := TX3) (N := 7) hx hb hts (by decide +kernel) tyX3 tyX3_ok nmX3 hown K hG hS mset_self rfl 6 (by decide) (by decide +kernel) rfl (by decide +kernel) rfl rfl (Nat.le_of_ble_eq_true rfl) rfl dX3_init_82 (fun H locs hG hS => ?_)
        rw [mset_mset] at hG
        have hG : mG D b (mset M1 th (.inr (3, [.int (iI sp), .ref q1, .ref q3, .ref q6, .ref q10, .int (iI 0), .int (iI 0)]))) s H := hG
        exact m_vret hx hb hr hlk hQ hG hS (by show _ ≤ 84; omega) (by show _ ≤ 436; omega) dX3_init_85 ⟨q1, q3, q6, q10, rf, bx, ⟨mset_self, ((mset_ne (Ne.symm ne2)).trans f2), ((mset_ne (Ne.symm ne4)).trans f3), ((mset_ne (Ne.symm ne7)).trans f4), ((mset_ne (Ne.symm ne11)).trans f5), (fun t h9 => f6 t (by omega)), (fun t h9 => by rw [stF_0 hsp h9]; exact (mset_ne (mne (f7 t (by omega)) f1 (by intro h; cases h))).trans (f7 t (by omega))), ⟨ne5, ne8, ne9⟩, (fun t t2 h8 h9 => f10 t t2 (by omega) (by omega))⟩, (fun a g1 g2 => (mset_ne g1).trans (f8 a g1 g2)), ⟨k70, k71, k72, k73⟩, (fun t h9 => f9 t (by omega))⟩
      · refine lv_aload_n hx hb dX3_init_50 rfl (lv_at hl 1 rfl) ?_
        refine m_get (ci := 3) (v := .ref q10) (C := RX3) (T := TX3) (N := 7) hx hb hts (by decide +kernel) hown K hG f1 rfl 4 (by decide) (by decide +kernel) rfl dX3_init_51 ?_
        refine lv_iload_n hx hb dX3_init_54 rfl (lv_at hl 0 rfl) ?_
        refine m_new (ci := 0) (fs := [.int (iI 0), .int (iI 0), .int (iI 0), .int (iI 0)]) (C := RX0) (T := TX0) (N := 4) hx hb hts (by decide +kernel) tyX0 tyX0_ok hown (by decide +kernel) (by decide +kernel) (by decide +kernel) K hG hS rfl (fun j hj => by rcases (show j = 0 ∨ j = 1 ∨ j = 2 ∨ j = 3 by omega) with rfl | rfl | rfl | rfl <;> rfl) (by show _ ≤ 84; omega) (by show _ ≤ 436; omega) dX3_init_55 (fun q15 H hq15 hG hS => ?_)
        have ne16 : th ≠ q15 := mfresh hq15 f1
        have ne17 : q1 ≠ q15 := mfresh hq15 f2
        have ne18 : q3 ≠ q15 := mfresh hq15 f3
        have ne19 : q6 ≠ q15 := mfresh hq15 f4
        have ne20 : q10 ≠ q15 := mfresh hq15 f5
        have hG : mG D b (mset M1 q15 (.inr (0, [.int (iI 0), .int (iI 0), .int (iI 0), .int (iI 0)]))) s H := hG
        refine lv_dup hx hb dX3_init_58 rfl ?_
        refine lv_iconst (v := iI 0) hx hb dX3_init_59 rfl ?_
        refine lv_bipush (v := iI 63) hx hb dX3_init_60 (by decide) ?_
        refine lv_iconst (v := iI 0) hx hb dX3_init_62 rfl ?_
        refine lv_bipush (v := iI 63) hx hb dX3_init_63 (by decide) ?_
        refine m_callfv (m_runI (a := q15) (As := [.int (iI 0), .int (iI 63), .int (iI 0), .int (iI 63)]) (rest := [.ref q15, .int (iI i), .ref q10]) ⟨hx, hb, hml, hown, hts⟩ (c_X0_init l D b _ q15 0 63 0 63 mset_self) (cwI 4 hts gX3_init_X0_init rfl rfl rfl (hts (.initialized RX0) (by decide +kernel)) (hts (.methodLink RX3 31 yX0_init) (by decide +kernel)) (hts (.instanceMethod yX0_init) (by decide +kernel)) rfl (by decide +kernel) ⟨Nat.le_of_ble_eq_true rfl, Nat.le_of_ble_eq_true rfl⟩) K hG rfl rfl hl.1 rfl (Nat.le_of_ble_eq_true rfl) dX3_init_65 ⟨by show _ ≤ 84; omega, by show _ ≤ 436; omega⟩) hS (fun H locs hG hS => ?_)
        rw [mset_mset] at hG
        have hG : mG D b (mset M1 q15 (.inr (0, [.int (iI 0), .int (iI 63), .int (iI 0), .int (iI 63)]))) s H := hG
        refine m_aast (r := (RX0, TX0, 4)) hx hb K hG hS ((mset_ne ne20).trans f5) mset_self rfl i.toNat (by omega) (by omega) (by decide) dX3_init_68 (fun H locs hG hS => ?_)
        have hG : mG D b (mset (mset M1 q15 (.inr (0, [.int (iI 0), .int (iI 63), .int (iI 0), .int (iI 63)]))) q10 (aQ RX0 80 (va_up rf i.toNat (some q15)))) s H := hG
        refine m_iinc (lv' := [(2, .int (iI (i + 1))), (0, .ref th), (1, .int (iI sp))]) (k := 0) hx hb dX3_init_69 hl rfl (by decide) rfl (fun ls hl => ?_)
        refine lv_goto (tgt := 44) hx hb dX3_init_72 (by decide) ?_
        exact W.widen (by omega) (by omega) (ih44 (i + 1) (mset (mset M1 q15 (.inr (0, [.int (iI 0), .int (iI 63), .int (iI 0), .int (iI 63)]))) q10 (aQ RX0 80 (va_up rf i.toNat (some q15)))) (va_up rf i.toNat (some q15)) (va_up bx i.toNat q15) _ _ _ (by omega) (by omega) ((mset_ne ne11).trans ((mset_ne ne16).trans f1)) ((mset_ne ne12).trans ((mset_ne ne17).trans f2)) ((mset_ne ne13).trans ((mset_ne ne18).trans f3)) ((mset_ne ne14).trans ((mset_ne ne19).trans f4)) mset_self (va_some f6) (fun t h9 => by by_cases e9 : t = i.toNat; rw [e9, va_up_self]; exact ((mset_ne (Ne.symm ne20)).trans mset_self); rw [va_up_ne _ _ e9]; exact (mset_ne (mne (f7 t (by omega)) f5 (by intro h; cases h))).trans ((mset_ne (mfresh hq15 (f7 t (by omega)))).trans (f7 t (by omega)))) (fun a g1 g2 => (mset_ne (fun z9 => g2 (by rw [z9]; exact k73))).trans ((mset_ne (mold f8 hq15 g1 g2)).trans (f8 a g1 g2))) (fun t h9 => by by_cases e9 : t = i.toNat; rw [e9, va_up_self]; exact mnew f8 f1 hq15; rw [va_up_ne _ _ e9]; exact f9 t (by omega)) (va_inj f10 (fun t h9 => mfresh hq15 (f7 t h9))) (by omega) hG hS (lv_sub hl [0, 1, 2] rfl))
  exact W.widen (by omega) (by omega) (loop44 _ 0 M2 (fun _ => none) (fun _ => 0) _ _ _ (by omega) (by omega) k1 k2 k3 k4 k5 (fun t h9 => absurd h9 (by omega)) (fun t h9 => absurd h9 (by omega)) k6 (fun t h9 => absurd h9 (by omega)) (fun t t2 h9 => absurd h9 (by omega)) (Nat.lt_succ_self _) hG hS (lv_sub hl [0, 1, 2] rfl))

set_option maxHeartbeats 4000000 in
set_option maxRecDepth 100000 in
theorem c_X2_init (l : Launch) (D : va_G) (b : Nat) (M : mM) (ta : Nat) (h0 : M ta = some (.inr (2, [.null, .int (iI 0), .int (iI 0)]))) : Met l yX2_init wsX2_init ({ frames := 2, cells := 163, slots := 5346, locals := 32 } : Room) (mPc [.ref ta] D b M) (mQv D b (fun M1 => ∃ (lv : Nat) (lf : Nat → Option Nat) (pk rk : Nat → Nat), TaOk M1 ta lv lf pk rk 0 0 (fun _ _ _ => false) ∧ (∀ a, a ≠ ta → M a ≠ none → M1 a = M a) ∧ M lv = none ∧ ∀ t, t < 81 → M (pk t) = none ∧ M (rk t) = none)) 163 5346 (mF b) := by
  refine m_met (cc := cX2_init) (maxL := 2) (ret := none) (by decide) rfl (Nat.le_of_ble_eq_true rfl) ?_
  intro p e s m args below meth c Q ls hx hb hml hr hts hown hlk hnm hQ K hG hS hl
  have hown : s.vm.findClass RX2 = some m.cls := hown
  have hl : lv_has ls 2 [(0, .ref ta)] := hl
  refine lv_aload_n hx hb dX2_init_0 rfl (lv_at hl 0 rfl) ?_
  refine W.objInit hx hb hown (hts (.methodLink RX2 3 objectInit) (by decide +kernel)) (hts (.instanceMethod objectInit) (by decide +kernel)) (hts (.code objectInit ⟨#[0xb1]⟩ 1 none) (by decide +kernel)) rfl (by rw [hml]; exact hl.1) rfl dX2_init_1 (Nat.le_of_ble_eq_true rfl) (Nat.le_of_ble_eq_true rfl) ?_
  refine W.eq (g2 := F0 m 4 ls []) rfl ?_
  refine lv_aload_n hx hb dX2_init_4 rfl (lv_at hl 0 rfl) ?_
  refine lv_bipush (v := iI 81) hx hb dX2_init_5 (by decide) ?_
  refine m_newq (C := RX1) (N' := 81) hx hb hts hown (by decide +kernel) K.2.2.2.2.2.1 hG hS rfl (by decide) (Nat.le_of_ble_eq_true rfl) (Nat.le_of_ble_eq_true rfl) dX2_init_7 (fun q1 H hq1 hG hS => ?_)
  have ne2 : ta ≠ q1 := mfresh hq1 h0
  have hG : mG D b (mset M q1 (aQ RX1 81 (fun _ => none))) s H := hG
  refine m_putF (ci := 2) (v := .ref q1) (ty := .array (.object "OverLine$Places")) (fs' := [.ref q1, .int (iI 0), .int (iI 0)]) (C := RX2) (T := TX2) (N := 3) hx hb hts (by decide +kernel) tyX2 tyX2_ok nmX2 hown K hG hS ((mset_ne ne2).trans h0) rfl 0 (by decide) (by decide +kernel) rfl hnm rfl (by decide +kernel) rfl rfl (Nat.le_of_ble_eq_true rfl) rfl dX2_init_10 (fun H locs hG hS => ?_)
  have hG : mG D b (mset (mset M q1 (aQ RX1 81 (fun _ => none))) ta (.inr (2, [.ref q1, .int (iI 0), .int (iI 0)]))) s H := hG
  refine lv_iconst (v := iI 0) hx hb dX2_init_13 rfl ?_
  refine lv_istore_n (lv' := [(1, .int (iI 0)), (0, .ref ta)]) hx hb dX2_init_14 rfl hl (by decide) rfl (fun ls hl => ?_)
  obtain ⟨M2, hM2⟩ : ∃ M2, M2 = (mset (mset M q1 (aQ RX1 81 (fun _ => none))) ta (.inr (2, [.ref q1, .int (iI 0), .int (iI 0)]))) := ⟨_, rfl⟩
  have k1 : M2 ta = some (.inr (2, [.ref q1, .int (iI 0), .int (iI 0)])) := by rw [hM2]; exact mset_self
  have k2 : M2 q1 = some (aQ RX1 81 (fun _ => none)) := by rw [hM2]; exact ((mset_ne (Ne.symm ne2)).trans mset_self)
  have hG : mG D b M2 s H := by rw [hM2]; exact hG
  have k7 : M q1 = none := hq1
  have k6 : ∀ a, a ≠ ta → M a ≠ none → M2 a = M a := fun a g1 g2 => by rw [hM2]; exact (mset_ne g1).trans (mset_ne (fun z9 => g2 (by rw [z9]; exact k7)))
  have loop15 : ∀ (fuel : Nat) (i : Int) (M1 : mM) (lf : Nat → Option Nat) (pk : Nat → Nat) (rk : Nat → Nat) (H : Heap) (locs : List Loc) (ls : Array Slot), (0 ≤ i) → (i ≤ 81) → (M1 ta = some (.inr (2, [.ref q1, .int (iI 0), .int (iI 0)]))) → (M1 q1 = some (aQ RX1 81 lf)) → (∀ t : Nat, (t : Int) < i → lf t = some (pk t)) → (∀ t : Nat, (t : Int) < i → M1 (pk t) = some (Pl (rk t)) ∧ M1 (rk t) = some (aL 64 (fun _ _ => false))) → (∀ a, a ≠ ta → M a ≠ none → M1 a = M a) → (∀ t : Nat, (t : Int) < i → M (pk t) = none ∧ M (rk t) = none) → (∀ t t2 : Nat, (t : Int) < i → (t2 : Int) < i → rk t = rk t2 → t = t2) → (81 - i).toNat < fuel → mG D b M1 s H → va_S (mF b) s.heap H locs → lv_has ls 2 [(1, .int (iI i)), (0, .ref ta)] → W p l e ({ frames := 2, cells := 163, slots := 5346, locals := 32 } : Room) s m args below meth c H locs (1 + 2 * i.toNat) (81 + 65 * i.toNat) Q (F0 m 15 ls []) := by
    intro fuel
    induction fuel with
    | zero => intro i M1 lf pk rk H locs ls hi0 hi1 f1 f2 f6 f7 f8 f9 f10 hm; exact absurd hm (Nat.not_lt_zero _)
    | succ fuel ih15 =>
      intro i M1 lf pk rk H locs ls hi0 hi1 f1 f2 f6 f7 f8 f9 f10 hm hG hS hl
      refine lv_iload_n hx hb dX2_init_15 rfl (lv_at hl 0 rfl) ?_
      refine lv_bipush (v := iI 80) hx hb dX2_init_16 (by decide) ?_
      refine m_icmp_gt (tgt := 40) hx hb dX2_init_18 (by decide) ⟨by omega, by omega⟩ ⟨by omega, by omega⟩ (fun c18 => ?_) (fun c18 => ?_)
      · refine lv_aload_n hx hb dX2_init_40 rfl (lv_at hl 1 rfl) ?_
        refine lv_iconst (v := iI 0) hx hb dX2_init_41 rfl ?_
        refine m_put (ci := 2) (v := .int (iI 0)) (ty := .int) (fs' := [.ref q1, .int (iI 0), .int (iI 0)]) (C := RX2) (T := TX2) (N := 3) hx hb hts (by decide +kernel) tyX2 tyX2_ok nmX2 hown K hG hS f1 rfl 1 (by decide) (by decide +kernel) rfl (by decide +kernel) rfl rfl (Nat.le_of_ble_eq_true rfl) rfl dX2_init_42 (fun H locs hG hS => ?_)
        have hG : mG D b (mset M1 ta (.inr (2, [.ref q1, .int (iI 0), .int (iI 0)]))) s H := hG
        refine lv_aload_n hx hb dX2_init_45 rfl (lv_at hl 1 rfl) ?_
        refine lv_iconst (v := iI 0) hx hb dX2_init_46 rfl ?_
        refine m_put (ci := 2) (v := .int (iI 0)) (ty := .int) (fs' := [.ref q1, .int (iI 0), .int (iI 0)]) (C := RX2) (T := TX2) (N := 3) hx hb hts (by decide +kernel) tyX2 tyX2_ok nmX2 hown K hG hS mset_self rfl 2 (by decide) (by decide +kernel) rfl (by decide +kernel) rfl rfl (Nat.le_of_ble_eq_true rfl) rfl dX2_init_47 (fun H locs hG hS => ?_)
        rw [mset_mset] at hG
        have hG : mG D b (mset M1 ta (.inr (2, [.ref q1, .int (iI 0), .int (iI 0)]))) s H := hG
        exact m_vret hx hb hr hlk hQ hG hS (by show _ ≤ 163; omega) (by show _ ≤ 5346; omega) dX2_init_50 ⟨q1, lf, pk, rk, ⟨mset_self, ((mset_ne (Ne.symm ne2)).trans f2), (fun t h9 => f6 t (by omega)), (fun t h9 => (mset_ne (mne (f7 t (by omega)).1 f1 (by intro h; cases h))).trans (f7 t (by omega)).1), (fun t h9 => (mset_ne (mne (f7 t (by omega)).2 f1 (by intro h; cases h))).trans (f7 t (by omega)).2), (fun t t2 h8 h9 => f10 t t2 (by omega) (by omega))⟩, (fun a g1 g2 => (mset_ne g1).trans (f8 a g1 g2)), k7, (fun t h9 => f9 t (by omega))⟩
      · refine lv_aload_n hx hb dX2_init_21 rfl (lv_at hl 1 rfl) ?_
        refine m_get (ci := 2) (v := .ref q1) (C := RX2) (T := TX2) (N := 3) hx hb hts (by decide +kernel) hown K hG f1 rfl 0 (by decide) (by decide +kernel) rfl dX2_init_22 ?_
        refine lv_iload_n hx hb dX2_init_25 rfl (lv_at hl 0 rfl) ?_
        refine m_new (ci := 1) (fs := [.null]) (C := RX1) (T := TX1) (N := 1) hx hb hts (by decide +kernel) tyX1 tyX1_ok hown (by decide +kernel) (by decide +kernel) (by decide +kernel) K hG hS rfl (fun j hj => by rcases (show j = 0 by omega) with rfl <;> rfl) (by show _ ≤ 163; omega) (by show _ ≤ 5346; omega) dX2_init_26 (fun q3 H hq3 hG hS => ?_)
        have ne4 : ta ≠ q3 := mfresh hq3 f1
        have ne5 : q1 ≠ q3 := mfresh hq3 f2
        have hG : mG D b (mset M1 q3 (.inr (1, [.null]))) s H := hG
        refine lv_dup hx hb dX2_init_29 rfl ?_
        refine m_callv (m_runI (a := q3) (As := []) (rest := [.ref q3, .int (iI i), .ref q1]) ⟨hx, hb, hml, hown, hts⟩ (c_X1_init l D b _ q3 mset_self) (cwI 0 hts gX2_init_X1_init rfl rfl rfl (hts (.initialized RX1) (by decide +kernel)) (hts (.methodLink RX2 17 yX1_init) (by decide +kernel)) (hts (.instanceMethod yX1_init) (by decide +kernel)) rfl (by decide +kernel) ⟨Nat.le_of_ble_eq_true rfl, Nat.le_of_ble_eq_true rfl⟩) K hG rfl rfl hl.1 rfl (Nat.le_of_ble_eq_true rfl) dX2_init_30 ⟨by show _ ≤ 163; omega, by show _ ≤ 5346; omega⟩) hS (fun M7 H locs hw8 hG hS => ?_)
        obtain ⟨z9, hz9, hwMz9⟩ := hw8
        have ne10 : ta ≠ z9 := mfresh hz9 ((mset_ne ne4).trans f1)
        have ne11 : q1 ≠ z9 := mfresh hz9 ((mset_ne ne5).trans f2)
        have ne12 : q3 ≠ z9 := mfresh hz9 mset_self
        rw [hwMz9, mset_skip ne12] at hG
        have hG : mG D b (mset (mset M1 q3 (.inr (1, [.ref z9]))) z9 (aL 64 (fun _ _ => false))) s H := hG
        refine m_aast (r := (RX1, TX1, 1)) hx hb K hG hS ((mset_ne ne11).trans ((mset_ne ne5).trans f2)) ((mset_ne ne12).trans mset_self) rfl i.toNat (by omega) (by omega) (by decide) dX2_init_33 (fun H locs hG hS => ?_)
        have hG : mG D b (mset (mset (mset M1 q3 (.inr (1, [.ref z9]))) z9 (aL 64 (fun _ _ => false))) q1 (aQ RX1 81 (va_up lf i.toNat (some q3)))) s H := hG
        refine m_iinc (lv' := [(1, .int (iI (i + 1))), (0, .ref ta)]) (k := 0) hx hb dX2_init_34 hl rfl (by decide) rfl (fun ls hl => ?_)
        refine lv_goto (tgt := 15) hx hb dX2_init_37 (by decide) ?_
        exact W.widen (by omega) (by omega) (ih15 (i + 1) (mset (mset (mset M1 q3 (.inr (1, [.ref z9]))) z9 (aL 64 (fun _ _ => false))) q1 (aQ RX1 81 (va_up lf i.toNat (some q3)))) (va_up lf i.toNat (some q3)) (va_up pk i.toNat q3) (va_up rk i.toNat z9) _ _ _ (by omega) (by omega) ((mset_ne ne2).trans ((mset_ne ne10).trans ((mset_ne ne4).trans f1))) mset_self (va_some f6) (fun t h9 => by by_cases e9 : t = i.toNat; rw [e9, va_up_self, va_up_self]; exact ⟨((mset_ne (Ne.symm ne5)).trans ((mset_ne ne12).trans mset_self)), ((mset_ne (Ne.symm ne11)).trans mset_self)⟩; rw [va_up_ne _ _ e9, va_up_ne _ _ e9]; have h7 := f7 t (by omega); exact ⟨(mset_ne (mne h7.1 f2 (by intro h; cases h))).trans ((mset_ne (mfresh (mset_none hz9) h7.1)).trans ((mset_ne (mfresh hq3 h7.1)).trans h7.1)), (mset_ne (mne h7.2 f2 (by intro h; cases h))).trans ((mset_ne (mfresh (mset_none hz9) h7.2)).trans ((mset_ne (mfresh hq3 h7.2)).trans h7.2))⟩) (fun a g1 g2 => (mset_ne (fun z9 => g2 (by rw [z9]; exact k7))).trans ((mset_ne (mold f8 (mset_none hz9) g1 g2)).trans ((mset_ne (mold f8 hq3 g1 g2)).trans (f8 a g1 g2)))) (fun t h9 => by by_cases e9 : t = i.toNat; rw [e9, va_up_self, va_up_self]; exact ⟨mnew f8 f1 hq3, mnew f8 f1 (mset_none hz9)⟩; rw [va_up_ne _ _ e9, va_up_ne _ _ e9]; exact f9 t (by omega)) (va_inj f10 (fun t h9 => mfresh (mset_none hz9) (f7 t h9).2)) (by omega) hG hS (lv_sub hl [0, 1] rfl))
  exact W.widen (by omega) (by omega) (loop15 _ 0 M2 (fun _ => none) (fun _ => 0) (fun _ => 0) _ _ _ (by omega) (by omega) k1 k2 (fun t h9 => absurd h9 (by omega)) (fun t h9 => absurd h9 (by omega)) k6 (fun t h9 => absurd h9 (by omega)) (fun t t2 h9 => absurd h9 (by omega)) (Nat.lt_succ_self _) hG hS (lv_sub hl [0, 1] rfl))

