theorem mx_lip {β s t : Int} {v tk : Nat → Int} (hs : 0 ≤ s) : ∀ {n : Nat}, mxF β v tk s n t - s ≤ mxF β v tk s n (t + 1)
  | 0 => by rw [mxF, mxF]; omega
  | n + 1 => by
    have ih := mx_lip (β := β) (s := s) (t := t) (v := v) (tk := tk) hs (n := n)
    rw [mxF, mxF]
    have h : s * dst (t + 1) (tk n) ≤ s * dst t (tk n) + s := by
      have : s * dst (t + 1) (tk n) ≤ s * (dst t (tk n) + 1) := by
        refine Int.mul_le_mul_of_nonneg_left ?_ hs
        unfold dst
        split <;> split <;> omega
      rw [Int.mul_add, Int.mul_one] at this
      exact this
    omega
theorem st_lnk {s n : Int} {vt vw vr : Nat → Int} (hg : thGood s n vt vw vr) : lnk (stF s vt vw vr n.toNat) s.toNat := by
  obtain ⟨⟨hs0, hs1⟩, ⟨hn0, hn1⟩, so, ne⟩ := hg
  intro t x y ht hx hy hb
  have hk : ∀ k, k < n.toNat → 0 ≤ vt k ∧ vt k < 80 := fun k hk => (so k (by omega)).1
  have e := stF_eq (s := s) (vt := vt) (vw := vw) (vr := vr) (n := n.toNat) hs0 hk (t := t) (by omega)
  have e2 := stF_eq (s := s) (vt := vt) (vw := vw) (vr := vr) (n := n.toNat) hs0 hk (t := t + 1) (by omega)
  have hR : in63 (stF s vt vw vr n.toNat) := stF_rg hs0 (fun k hk => (so k (by omega)).2)
  have m1 := mx_lip (β := 0) (s := s) (t := t) (v := fun k => vw k / 64 - vr k) (tk := vt) (n := n.toNat) hs0
  have m2 := mx_lip (β := -63) (s := s) (t := t) (v := fun k => -(vw k / 64 + vr k)) (tk := vt) (n := n.toNat) hs0
  have m3 := mx_lip (β := 0) (s := s) (t := t) (v := fun k => vw k % 64 - vr k) (tk := vt) (n := n.toNat) hs0
  have m4 := mx_lip (β := -63) (s := s) (t := t) (v := fun k => -(vw k % 64 + vr k)) (tk := vt) (n := n.toNat) hs0
  have hne := ne t (by omega)
  have r0 := hR t 0
  have r1 := hR t 1
  have r2 := hR t 2
  have r3 := hR t 3
  rw [show ((t + 1 : Nat) : Int) = (t : Int) + 1 by omega] at e2
  rw [← e.1, ← e2.1] at m1
  rw [← e.2.2.1, ← e2.2.2.1] at m3
  have m2' : stF s vt vw vr n.toNat (t + 1) 1 ≤ stF s vt vw vr n.toNat t 1 + s := by rw [e.2.1, e2.2.1]; omega
  have m4' : stF s vt vw vr n.toNat (t + 1) 3 ≤ stF s vt vw vr n.toNat t 3 + s := by rw [e.2.2.2, e2.2.2.2]; omega
  obtain ⟨⟨b1, b2⟩, b3, b4⟩ := hb
  obtain ⟨n1, n2⟩ := hne
  refine ⟨(max (stF s vt vw vr n.toNat t 0) (min (x : Int) (stF s vt vw vr n.toNat t 1))).toNat, (max (stF s vt vw vr n.toNat t 2) (min (y : Int) (stF s vt vw vr n.toNat t 3))).toNat, ⟨by omega, by omega⟩, ⟨by omega, by omega⟩, ⟨by omega, by omega⟩, ⟨⟨by omega, by omega⟩, ⟨by omega, by omega⟩⟩⟩
/-- where it can be at tick a + d, never in the counted places: none -/
abbrev noOut (F : Nat → Nat → Int) (s : Nat) (C : Nat → Nat → Bool) (a d : Nat) : Prop := ∀ x y, x < 64 → y < 64 → ¬ lev F s C a d 0 x y

set_option maxHeartbeats 4000000 in
set_option maxRecDepth 100000 in
theorem c_X4_draw (l : Launch) (D : va_G) (b : Nat) (M : mM) (ad : Nat → Nat → Nat → Nat) (nt ng : Int) (sp nn jj : Nat → Int) (vt vw vr : Nat → Nat → Int) (G : Nat → Nat → Nat → Bool) (hO : OvOk M ad nt ng sp nn jj vt vw vr G) (tg : Nat → Nat × Nat × Nat) (hTg : Tg tg ad nt ng) (t u v w : Int) (hrt : rg t) (hru : rg u) (hrv : rg v) (hw : w = 0 ∨ w = 1) : Met l yX4_draw wsX4_draw ({ frames := 2, cells := 1, slots := 4, locals := 44 } : Room) (mPc [.ref (ad 8 0 0), .int (iI t), .int (iI u), .int (iI v), .int (iI w)] D b M) (mQi D b (fun r M1 => (¬ ((0 ≤ t ∧ t < ng) ∧ (0 ≤ u ∧ u < 4096) ∧ (0 ≤ v ∧ v < 4096) ∧ u / 64 ≤ v / 64 ∧ u % 64 ≤ v % 64) ∧ r = iI (-1) ∧ OvOk M1 ad nt ng sp nn jj vt vw vr G ∧ frB tg M M1) ∨ (((0 ≤ t ∧ t < ng) ∧ (0 ≤ u ∧ u < 4096) ∧ (0 ≤ v ∧ v < 4096) ∧ u / 64 ≤ v / 64 ∧ u % 64 ≤ v % 64) ∧ r = iI (ct2 (drN (G t.toNat) u v w) 64 : Nat) ∧ OvOk M1 ad nt ng sp nn jj vt vw vr (va_up G t.toNat (drN (G t.toNat) u v w)) ∧ frB tg M M1))) 1 4 (mF b) := by
  refine m_met (cc := cX4_draw) (maxL := 7) (ret := (some .int)) (by decide) rfl (Nat.le_of_ble_eq_true rfl) ?_
  intro p e s m args below meth c Q ls hx hb hml hr hts hown hlk hnm hQ K hG hS hl
  have hown : s.vm.findClass RX4 = some m.cls := hown
  have hl : lv_has ls 7 [(0, .ref (ad 8 0 0)), (1, .int (iI t)), (2, .int (iI u)), (3, .int (iI v)), (4, .int (iI w))] := hl
  obtain ⟨o1, ⟨tf0, o2, o3, o3n⟩, ⟨gf0, o4, o5⟩, oT, oG, ⟨SO, o6, o7⟩, oA, ⟨b1, b2, b3, b4⟩⟩ := id hO
  refine lv_aload_n hx hb dX4_draw_0 rfl (lv_at hl 0 rfl) ?_
  refine lv_iload_n hx hb dX4_draw_1 rfl (lv_at hl 1 rfl) ?_
  rcases Classical.em (0 ≤ t ∧ t < ng) with hqk1 | hqk1
  · obtain ⟨p1k1, p2k1⟩ := oG t.toNat (by omega)
    refine m_callfq (m_runV (a := ad 8 0 0) (As := [.int (iI t)]) (rest := []) ⟨hx, hb, hml, hown, hts⟩ (c_X4_groundOf_y l D b _ ad nt ng sp nn jj vt vw vr G hO t hrt hqk1) (cwV 1 hts gX4_draw_X4_groundOf rfl rfl rfl (by decide +kernel) ⟨Nat.le_of_ble_eq_true rfl, Nat.le_of_ble_eq_true rfl⟩) K hG o1 rfl rfl rfl hl.1 rfl (Nat.le_of_ble_eq_true rfl) dX4_draw_2 ⟨Nat.le_of_ble_eq_true rfl, Nat.le_of_ble_eq_true rfl⟩) hS (fun H locs hG hS => ?_)
    refine W.eq (g2 := F0 m 5 ls [.ref (ad 4 t.toNat 0)]) rfl ?_
    have hG : mG D b M s H := hG
    refine lv_astore (lv' := [(5, .ref (ad 4 t.toNat 0)), (0, .ref (ad 8 0 0)), (1, .int (iI t)), (2, .int (iI u)), (3, .int (iI v)), (4, .int (iI w))]) hx hb dX4_draw_5 hl (by decide) rfl (fun ls hl => ?_)
    refine lv_aload hx hb dX4_draw_7 (lv_at hl 0 rfl) ?_
    refine lv_ifnull hx hb dX4_draw_9 ?_
    refine lv_iload_n hx hb dX4_draw_12 rfl (lv_at hl 3 rfl) ?_
    refine m_callfi (m_runS (As := [.int (iI u)]) (rest := []) ⟨hx, hb, hml, hown, hts⟩ (c_X4_isPlace l D b _ u hru) (va_cwS 1 hts gX4_draw_X4_isPlace rfl rfl rfl (by decide +kernel) ⟨Nat.le_of_ble_eq_true rfl, Nat.le_of_ble_eq_true rfl⟩) K hG rfl hl.1 rfl (Nat.le_of_ble_eq_true rfl) dX4_draw_13 ⟨Nat.le_of_ble_eq_true rfl, Nat.le_of_ble_eq_true rfl⟩) hS (fun H locs hG hS => ?_)
    have hG : mG D b M s H := hG
    refine m_ifb_eq (tgt := 26) hx hb dX4_draw_16 (by decide) (fun c16 => ?_) (fun c16 => ?_)
    · refine lv_iconst (v := iI (-1)) hx hb dX4_draw_26 rfl ?_
      exact m_iret hx hb hr hlk hQ hG hS (Nat.le_of_ble_eq_true rfl) (Nat.le_of_ble_eq_true rfl) dX4_draw_27 (Or.inl ⟨by omega, rfl, hO, (fun a _ _ => rfl)⟩)
    · refine lv_iload_n hx hb dX4_draw_19 rfl (lv_at hl 4 rfl) ?_
      refine m_callfi (m_runS (As := [.int (iI v)]) (rest := []) ⟨hx, hb, hml, hown, hts⟩ (c_X4_isPlace l D b _ v hrv) (va_cwS 1 hts gX4_draw_X4_isPlace rfl rfl rfl (by decide +kernel) ⟨Nat.le_of_ble_eq_true rfl, Nat.le_of_ble_eq_true rfl⟩) K hG rfl hl.1 rfl (Nat.le_of_ble_eq_true rfl) dX4_draw_20 ⟨Nat.le_of_ble_eq_true rfl, Nat.le_of_ble_eq_true rfl⟩) hS (fun H locs hG hS => ?_)
      have hG : mG D b M s H := hG
      refine m_ifb_ne (tgt := 28) hx hb dX4_draw_23 (by decide) (fun c23 => ?_) (fun c23 => ?_)
      · refine m_new (ci := 0) (fs := [.int (iI 0), .int (iI 0), .int (iI 0), .int (iI 0)]) (C := RX0) (T := TX0) (N := 4) hx hb hts (by decide +kernel) tyX0 tyX0_ok hown (by decide +kernel) (by decide +kernel) (by decide +kernel) K hG hS rfl (fun j hj => by rcases (show j = 0 ∨ j = 1 ∨ j = 2 ∨ j = 3 by omega) with rfl | rfl | rfl | rfl <;> rfl) (Nat.le_of_ble_eq_true rfl) (Nat.le_of_ble_eq_true rfl) dX4_draw_28 (fun q2 H hq2 hG hS => ?_)
        have ne3 : ad 8 0 0 ≠ q2 := mfresh hq2 o1
        have ne4 : ad 9 0 0 ≠ q2 := mfresh hq2 o2
        have ne5 : ad 10 0 0 ≠ q2 := mfresh hq2 o4
        have ne6 : ad 4 4 0 ≠ q2 := mfresh hq2 o6
        have ne7 : ad 5 4 0 ≠ q2 := mfresh hq2 o7
        have ne8 : ad 4 t.toNat 0 ≠ q2 := mfresh hq2 p1k1
        have ne9 : ad 5 t.toNat 0 ≠ q2 := mfresh hq2 p2k1
        have hG : mG D b (mset M q2 (.inr (0, [.int (iI 0), .int (iI 0), .int (iI 0), .int (iI 0)]))) s H := hG
        refine lv_dup hx hb dX4_draw_31 rfl ?_
        refine lv_iload_n hx hb dX4_draw_32 rfl (lv_at hl 3 rfl) ?_
        refine m_callfi (m_runS (As := [.int (iI u)]) (rest := [.ref q2, .ref q2]) ⟨hx, hb, hml, hown, hts⟩ (c_X4_xOf l D b _ u (by omega) (by omega)) (va_cwS 1 hts gX4_draw_X4_xOf rfl rfl rfl (by decide +kernel) ⟨Nat.le_of_ble_eq_true rfl, Nat.le_of_ble_eq_true rfl⟩) K hG rfl hl.1 rfl (Nat.le_of_ble_eq_true rfl) dX4_draw_33 ⟨Nat.le_of_ble_eq_true rfl, Nat.le_of_ble_eq_true rfl⟩) hS (fun H locs hG hS => ?_)
        have hG : mG D b (mset M q2 (.inr (0, [.int (iI 0), .int (iI 0), .int (iI 0), .int (iI 0)]))) s H := hG
        refine lv_iload_n hx hb dX4_draw_36 rfl (lv_at hl 4 rfl) ?_
        refine m_callfi (m_runS (As := [.int (iI v)]) (rest := [.int (iI (u / 64)), .ref q2, .ref q2]) ⟨hx, hb, hml, hown, hts⟩ (c_X4_xOf l D b _ v (by omega) (by omega)) (va_cwS 1 hts gX4_draw_X4_xOf rfl rfl rfl (by decide +kernel) ⟨Nat.le_of_ble_eq_true rfl, Nat.le_of_ble_eq_true rfl⟩) K hG rfl hl.1 rfl (Nat.le_of_ble_eq_true rfl) dX4_draw_37 ⟨Nat.le_of_ble_eq_true rfl, Nat.le_of_ble_eq_true rfl⟩) hS (fun H locs hG hS => ?_)
        have hG : mG D b (mset M q2 (.inr (0, [.int (iI 0), .int (iI 0), .int (iI 0), .int (iI 0)]))) s H := hG
        refine lv_iload_n hx hb dX4_draw_40 rfl (lv_at hl 3 rfl) ?_
        refine m_callfi (m_runS (As := [.int (iI u)]) (rest := [.int (iI (v / 64)), .int (iI (u / 64)), .ref q2, .ref q2]) ⟨hx, hb, hml, hown, hts⟩ (c_X4_yOf l D b _ u (by omega) (by omega)) (va_cwS 1 hts gX4_draw_X4_yOf rfl rfl rfl (by decide +kernel) ⟨Nat.le_of_ble_eq_true rfl, Nat.le_of_ble_eq_true rfl⟩) K hG rfl hl.1 rfl (Nat.le_of_ble_eq_true rfl) dX4_draw_41 ⟨Nat.le_of_ble_eq_true rfl, Nat.le_of_ble_eq_true rfl⟩) hS (fun H locs hG hS => ?_)
        have hG : mG D b (mset M q2 (.inr (0, [.int (iI 0), .int (iI 0), .int (iI 0), .int (iI 0)]))) s H := hG
        refine lv_iload_n hx hb dX4_draw_44 rfl (lv_at hl 4 rfl) ?_
        refine m_callfi (m_runS (As := [.int (iI v)]) (rest := [.int (iI (u % 64)), .int (iI (v / 64)), .int (iI (u / 64)), .ref q2, .ref q2]) ⟨hx, hb, hml, hown, hts⟩ (c_X4_yOf l D b _ v (by omega) (by omega)) (va_cwS 1 hts gX4_draw_X4_yOf rfl rfl rfl (by decide +kernel) ⟨Nat.le_of_ble_eq_true rfl, Nat.le_of_ble_eq_true rfl⟩) K hG rfl hl.1 rfl (Nat.le_of_ble_eq_true rfl) dX4_draw_45 ⟨Nat.le_of_ble_eq_true rfl, Nat.le_of_ble_eq_true rfl⟩) hS (fun H locs hG hS => ?_)
        have hG : mG D b (mset M q2 (.inr (0, [.int (iI 0), .int (iI 0), .int (iI 0), .int (iI 0)]))) s H := hG
        refine m_callfv (m_runI (a := q2) (As := [.int (iI (u / 64)), .int (iI (v / 64)), .int (iI (u % 64)), .int (iI (v % 64))]) (rest := [.ref q2]) ⟨hx, hb, hml, hown, hts⟩ (c_X0_init l D b _ q2 (u / 64) (v / 64) (u % 64) (v % 64) mset_self) (cwI 4 hts gX4_draw_X0_init rfl rfl rfl (hts (.initialized RX0) (by decide +kernel)) (hts (.methodLink RX4 101 yX0_init) (by decide +kernel)) (hts (.instanceMethod yX0_init) (by decide +kernel)) rfl (by decide +kernel) ⟨Nat.le_of_ble_eq_true rfl, Nat.le_of_ble_eq_true rfl⟩) K hG rfl rfl hl.1 rfl (Nat.le_of_ble_eq_true rfl) dX4_draw_48 ⟨Nat.le_of_ble_eq_true rfl, Nat.le_of_ble_eq_true rfl⟩) hS (fun H locs hG hS => ?_)
        rw [mset_mset] at hG
        have hG : mG D b (mset M q2 (.inr (0, [.int (iI (u / 64)), .int (iI (v / 64)), .int (iI (u % 64)), .int (iI (v % 64))]))) s H := hG
        refine lv_astore (lv' := [(6, .ref q2), (5, .ref (ad 4 t.toNat 0)), (0, .ref (ad 8 0 0)), (1, .int (iI t)), (2, .int (iI u)), (3, .int (iI v)), (4, .int (iI w))]) hx hb dX4_draw_51 hl (by decide) rfl (fun ls hl => ?_)
        refine lv_aload hx hb dX4_draw_53 (lv_at hl 0 rfl) ?_
        refine m_callfi (m_runV (a := q2) (As := []) (rest := []) ⟨hx, hb, hml, hown, hts⟩ (c_X0_isEmpty l D b _ q2 (u / 64) (v / 64) (u % 64) (v % 64) mset_self (by omega) (by omega) (by omega) (by omega)) (cwV 0 hts gX4_draw_X0_isEmpty rfl rfl rfl (by decide +kernel) ⟨Nat.le_of_ble_eq_true rfl, Nat.le_of_ble_eq_true rfl⟩) K hG mset_self rfl rfl rfl hl.1 rfl (Nat.le_of_ble_eq_true rfl) dX4_draw_55 ⟨Nat.le_of_ble_eq_true rfl, Nat.le_of_ble_eq_true rfl⟩) hS (fun H locs hG hS => ?_)
        have hG : mG D b (mset M q2 (.inr (0, [.int (iI (u / 64)), .int (iI (v / 64)), .int (iI (u % 64)), .int (iI (v % 64))]))) s H := hG
        refine m_ifb_eq (tgt := 63) hx hb dX4_draw_58 (by decide) (fun c58 => ?_) (fun c58 => ?_)
        · refine lv_iload hx hb dX4_draw_63 (lv_at hl 6 rfl) ?_
          refine m_if_eq (tgt := 78) hx hb dX4_draw_65 (by decide) ⟨by omega, by omega⟩ (fun c65 => ?_) (fun c65 => ?_)
          · refine lv_aload hx hb dX4_draw_78 (lv_at hl 1 rfl) ?_
            refine lv_aload hx hb dX4_draw_80 (lv_at hl 0 rfl) ?_
            refine m_callfv (m_runV (a := ad 4 t.toNat 0) (As := [.ref q2]) (rest := []) ⟨hx, hb, hml, hown, hts⟩ (c_X1_remove l D b _ (ad 4 t.toNat 0) (ad 5 t.toNat 0) (G t.toNat) ((mset_ne ne8).trans p1k1) ((mset_ne ne9).trans p2k1) q2 (u / 64) (v / 64) (u % 64) (v % 64) mset_self (by omega) (by omega) (by omega) (by omega) (by omega) (by omega)) (cwV 1 hts gX4_draw_X1_remove rfl rfl rfl (by decide +kernel) ⟨Nat.le_of_ble_eq_true rfl, Nat.le_of_ble_eq_true rfl⟩) K hG ((mset_ne ne8).trans p1k1) rfl rfl rfl hl.1 rfl (Nat.le_of_ble_eq_true rfl) dX4_draw_82 ⟨Nat.le_of_ble_eq_true rfl, Nat.le_of_ble_eq_true rfl⟩) hS (fun H locs hG hS => ?_)
            have hG : mG D b (mset (mset M q2 (.inr (0, [.int (iI (u / 64)), .int (iI (v / 64)), .int (iI (u % 64)), .int (iI (v % 64))]))) (ad 5 t.toNat 0) (aL 64 (fun (a c : Nat) => if u / 64 ≤ (a : Int) ∧ (a : Int) ≤ v / 64 then ((G t.toNat) a c && !decide (u % 64 ≤ (c : Int) ∧ (c : Int) ≤ v % 64)) else (G t.toNat) a c))) s H := hG
            refine lv_aload hx hb dX4_draw_85 (lv_at hl 1 rfl) ?_
            refine m_callfi (m_runV (a := ad 4 t.toNat 0) (As := []) (rest := []) ⟨hx, hb, hml, hown, hts⟩ (c_X1_size l D b _ (ad 4 t.toNat 0) (ad 5 t.toNat 0) (fun (a c : Nat) => if u / 64 ≤ (a : Int) ∧ (a : Int) ≤ v / 64 then ((G t.toNat) a c && !decide (u % 64 ≤ (c : Int) ∧ (c : Int) ≤ v % 64)) else (G t.toNat) a c) ((mset_ne (mne p1k1 p2k1 (by intro h; cases h))).trans ((mset_ne ne8).trans p1k1)) mset_self) (cwV 0 hts gX4_draw_X1_size rfl rfl rfl (by decide +kernel) ⟨Nat.le_of_ble_eq_true rfl, Nat.le_of_ble_eq_true rfl⟩) K hG ((mset_ne (mne p1k1 p2k1 (by intro h; cases h))).trans ((mset_ne ne8).trans p1k1)) rfl rfl rfl hl.1 rfl (Nat.le_of_ble_eq_true rfl) dX4_draw_87 ⟨Nat.le_of_ble_eq_true rfl, Nat.le_of_ble_eq_true rfl⟩) hS (fun H locs hG hS => ?_)
            have hG : mG D b (mset (mset M q2 (.inr (0, [.int (iI (u / 64)), .int (iI (v / 64)), .int (iI (u % 64)), .int (iI (v % 64))]))) (ad 5 t.toNat 0) (aL 64 (fun (a c : Nat) => if u / 64 ≤ (a : Int) ∧ (a : Int) ≤ v / 64 then ((G t.toNat) a c && !decide (u % 64 ≤ (c : Int) ∧ (c : Int) ≤ v % 64)) else (G t.toNat) a c))) s H := hG
            exact m_iret hx hb hr hlk hQ hG hS (Nat.le_of_ble_eq_true rfl) (Nat.le_of_ble_eq_true rfl) dX4_draw_90 (by have e9 : (fun (a c : Nat) => if u / 64 ≤ (a : Int) ∧ (a : Int) ≤ v / 64 then ((G t.toNat) a c && !decide (u % 64 ≤ (c : Int) ∧ (c : Int) ≤ v % 64)) else (G t.toNat) a c) = drN (G t.toNat) u v w := (by funext a c; unfold drN; rw [if_pos c65]); exact Or.inr ⟨by omega, (by rw [e9]), (by rw [e9]; exact Ov_gr (Ov_box hO hq2) hTg (by omega)), (fun a q1 q2 => (mset_ne (hTg.big (by unfold live; omega) q1)).trans (mset_ne (fun z => q2 (by rw [z]; exact hq2))))⟩)
          · refine lv_aload hx hb dX4_draw_68 (lv_at hl 1 rfl) ?_
            refine lv_aload hx hb dX4_draw_70 (lv_at hl 0 rfl) ?_
            refine m_callfv (m_runV (a := ad 4 t.toNat 0) (As := [.ref q2]) (rest := []) ⟨hx, hb, hml, hown, hts⟩ (c_X1_add l D b _ (ad 4 t.toNat 0) (ad 5 t.toNat 0) (G t.toNat) ((mset_ne ne8).trans p1k1) ((mset_ne ne9).trans p2k1) q2 (u / 64) (v / 64) (u % 64) (v % 64) mset_self (by omega) (by omega) (by omega) (by omega) (by omega) (by omega)) (cwV 1 hts gX4_draw_X1_add rfl rfl rfl (by decide +kernel) ⟨Nat.le_of_ble_eq_true rfl, Nat.le_of_ble_eq_true rfl⟩) K hG ((mset_ne ne8).trans p1k1) rfl rfl rfl hl.1 rfl (Nat.le_of_ble_eq_true rfl) dX4_draw_72 ⟨Nat.le_of_ble_eq_true rfl, Nat.le_of_ble_eq_true rfl⟩) hS (fun H locs hG hS => ?_)
            have hG : mG D b (mset (mset M q2 (.inr (0, [.int (iI (u / 64)), .int (iI (v / 64)), .int (iI (u % 64)), .int (iI (v % 64))]))) (ad 5 t.toNat 0) (aL 64 (fun (a c : Nat) => if u / 64 ≤ (a : Int) ∧ (a : Int) ≤ v / 64 then ((G t.toNat) a c ||decide (u % 64 ≤ (c : Int) ∧ (c : Int) ≤ v % 64)) else (G t.toNat) a c))) s H := hG
            refine lv_goto (tgt := 85) hx hb dX4_draw_75 (by decide) ?_
            refine lv_aload hx hb dX4_draw_85 (lv_at hl 1 rfl) ?_
            refine m_callfi (m_runV (a := ad 4 t.toNat 0) (As := []) (rest := []) ⟨hx, hb, hml, hown, hts⟩ (c_X1_size l D b _ (ad 4 t.toNat 0) (ad 5 t.toNat 0) (fun (a c : Nat) => if u / 64 ≤ (a : Int) ∧ (a : Int) ≤ v / 64 then ((G t.toNat) a c ||decide (u % 64 ≤ (c : Int) ∧ (c : Int) ≤ v % 64)) else (G t.toNat) a c) ((mset_ne (mne p1k1 p2k1 (by intro h; cases h))).trans ((mset_ne ne8).trans p1k1)) mset_self) (cwV 0 hts gX4_draw_X1_size rfl rfl rfl (by decide +kernel) ⟨Nat.le_of_ble_eq_true rfl, Nat.le_of_ble_eq_true rfl⟩) K hG ((mset_ne (mne p1k1 p2k1 (by intro h; cases h))).trans ((mset_ne ne8).trans p1k1)) rfl rfl rfl hl.1 rfl (Nat.le_of_ble_eq_true rfl) dX4_draw_87 ⟨Nat.le_of_ble_eq_true rfl, Nat.le_of_ble_eq_true rfl⟩) hS (fun H locs hG hS => ?_)
            have hG : mG D b (mset (mset M q2 (.inr (0, [.int (iI (u / 64)), .int (iI (v / 64)), .int (iI (u % 64)), .int (iI (v % 64))]))) (ad 5 t.toNat 0) (aL 64 (fun (a c : Nat) => if u / 64 ≤ (a : Int) ∧ (a : Int) ≤ v / 64 then ((G t.toNat) a c ||decide (u % 64 ≤ (c : Int) ∧ (c : Int) ≤ v % 64)) else (G t.toNat) a c))) s H := hG
            exact m_iret hx hb hr hlk hQ hG hS (Nat.le_of_ble_eq_true rfl) (Nat.le_of_ble_eq_true rfl) dX4_draw_90 (by have e9 : (fun (a c : Nat) => if u / 64 ≤ (a : Int) ∧ (a : Int) ≤ v / 64 then ((G t.toNat) a c ||decide (u % 64 ≤ (c : Int) ∧ (c : Int) ≤ v % 64)) else (G t.toNat) a c) = drN (G t.toNat) u v w := (by funext a c; unfold drN; rw [if_neg (show ¬ w = 0 from c65)]); exact Or.inr ⟨by omega, (by rw [e9]), (by rw [e9]; exact Ov_gr (Ov_box hO hq2) hTg (by omega)), (fun a q1 q2 => (mset_ne (hTg.big (by unfold live; omega) q1)).trans (mset_ne (fun z => q2 (by rw [z]; exact hq2))))⟩)
        · refine lv_iconst (v := iI (-1)) hx hb dX4_draw_61 rfl ?_
          exact m_iret hx hb hr hlk hQ hG hS (Nat.le_of_ble_eq_true rfl) (Nat.le_of_ble_eq_true rfl) dX4_draw_62 (Or.inl ⟨by omega, rfl, Ov_box hO hq2, (fun a _ q2 => mset_ne (fun z => q2 (by rw [z]; exact hq2)))⟩)
      · refine lv_iconst (v := iI (-1)) hx hb dX4_draw_26 rfl ?_
        exact m_iret hx hb hr hlk hQ hG hS (Nat.le_of_ble_eq_true rfl) (Nat.le_of_ble_eq_true rfl) dX4_draw_27 (Or.inl ⟨by omega, rfl, hO, (fun a _ _ => rfl)⟩)
  · refine m_callfq (m_runV (a := ad 8 0 0) (As := [.int (iI t)]) (rest := []) ⟨hx, hb, hml, hown, hts⟩ (c_X4_groundOf_n l D b _ ad nt ng sp nn jj vt vw vr G hO t hrt hqk1) (cwV 1 hts gX4_draw_X4_groundOf rfl rfl rfl (by decide +kernel) ⟨Nat.le_of_ble_eq_true rfl, Nat.le_of_ble_eq_true rfl⟩) K hG o1 rfl rfl rfl hl.1 rfl (Nat.le_of_ble_eq_true rfl) dX4_draw_2 ⟨Nat.le_of_ble_eq_true rfl, Nat.le_of_ble_eq_true rfl⟩) hS (fun H locs hG hS => ?_)
    refine W.eq (g2 := F0 m 5 ls [.null]) rfl ?_
    have hG : mG D b M s H := hG
    refine lv_astoreN (lv' := [(5, .null), (0, .ref (ad 8 0 0)), (1, .int (iI t)), (2, .int (iI u)), (3, .int (iI v)), (4, .int (iI w))]) hx hb dX4_draw_5 hl (by decide) rfl (fun ls hl => ?_)
    refine lv_aloadN hx hb dX4_draw_7 (lv_at hl 0 rfl) ?_
    refine lv_ifnullN (tgt := 26) hx hb dX4_draw_9 (by decide) ?_
    refine lv_iconst (v := iI (-1)) hx hb dX4_draw_26 rfl ?_
    exact m_iret hx hb hr hlk hQ hG hS (Nat.le_of_ble_eq_true rfl) (Nat.le_of_ble_eq_true rfl) dX4_draw_27 (Or.inl ⟨by omega, rfl, hO, (fun a _ _ => rfl)⟩)

set_option maxHeartbeats 4000000 in
set_option maxRecDepth 100000 in
theorem c_X4_entered (l : Launch) (D : va_G) (b : Nat) (M : mM) (ad : Nat → Nat → Nat → Nat) (nt ng : Int) (sp nn jj : Nat → Int) (vt vw vr : Nat → Nat → Int) (G : Nat → Nat → Nat → Bool) (hO : OvOk M ad nt ng sp nn jj vt vw vr G) (tg : Nat → Nat × Nat × Nat) (hTg : Tg tg ad nt ng) (t v u w : Int) (hrt : rg t) (hrv : rg v) (hru : rg u) (hrw : rg w) : Met l yX4_entered wsX4_entered ({ frames := 3, cells := 0, slots := 0, locals := 67 } : Room) (mPc [.ref (ad 8 0 0), .int (iI t), .int (iI v), .int (iI u), .int (iI w)] D b M) (mQi D b (fun r M1 => (¬ ((0 ≤ t ∧ t < nt) ∧ (0 ≤ v ∧ v < ng) ∧ (0 ≤ u ∧ u < 80) ∧ (0 ≤ w ∧ w < 80) ∧ u ≤ w) ∧ r = iI (-1) ∧ OvOk M1 ad nt ng sp nn jj vt vw vr G ∧ frB tg M M1) ∨ (((0 ≤ t ∧ t < nt) ∧ (0 ≤ v ∧ v < ng) ∧ (0 ≤ u ∧ u < 80) ∧ (0 ≤ w ∧ w < 80) ∧ u ≤ w) ∧ OvOk M1 ad nt ng sp nn jj vt vw vr G ∧ frB tg M M1 ∧ ((∃ d : Nat, u + d ≤ w ∧ noOut (stF (sp t.toNat) (vt t.toNat) (vw t.toNat) (vr t.toNat) (nn t.toNat).toNat) (sp t.toNat).toNat (G v.toNat) u.toNat d ∧ (∀ d2 : Nat, d2 < d → ¬ noOut (stF (sp t.toNat) (vt t.toNat) (vw t.toNat) (vr t.toNat) (nn t.toNat).toNat) (sp t.toNat).toNat (G v.toNat) u.toNat d2) ∧ r = iI (u + d)) ∨ ((∀ d : Nat, u + d ≤ w → ¬ noOut (stF (sp t.toNat) (vt t.toNat) (vw t.toNat) (vr t.toNat) (nn t.toNat).toNat) (sp t.toNat).toNat (G v.toNat) u.toNat d) ∧ r = iI (-1)))))) 0 0 (mF b) := by
  refine m_met (cc := cX4_entered) (maxL := 8) (ret := (some .int)) (by decide) rfl (Nat.le_of_ble_eq_true rfl) ?_
  intro p e s m args below meth c Q ls hx hb hml hr hts hown hlk hnm hQ K hG hS hl
  have hown : s.vm.findClass RX4 = some m.cls := hown
  have hl : lv_has ls 8 [(0, .ref (ad 8 0 0)), (1, .int (iI t)), (2, .int (iI v)), (3, .int (iI u)), (4, .int (iI w))] := hl
  obtain ⟨o1, ⟨tf0, o2, o3, o3n⟩, ⟨gf0, o4, o5⟩, oT, oG, ⟨SO, o6, o7⟩, oA, ⟨b1, b2, b3, b4⟩⟩ := id hO
  refine lv_aload_n hx hb dX4_entered_0 rfl (lv_at hl 0 rfl) ?_
  refine lv_iload_n hx hb dX4_entered_1 rfl (lv_at hl 1 rfl) ?_
  rcases Classical.em (0 ≤ t ∧ t < nt) with hqk1 | hqk1
  · obtain ⟨⟨rfk1, hTk1⟩, ⟨hs0k1, hs1k1⟩, ⟨hn0k1, hn1k1⟩, sok1, nek1⟩ := oT t.toNat (by omega)
    have hRk1 : in63 (stF (sp t.toNat) (vt t.toNat) (vw t.toNat) (vr t.toNat) (nn t.toNat).toNat) := stF_rg hs0k1 (fun k hk => (sok1 k (by omega)).2)
    obtain ⟨t1k1, t2k1, t3k1, t4k1, t5k1, t6k1, hBk1, -, -⟩ := id hTk1
    refine m_callfq (m_runV (a := ad 8 0 0) (As := [.int (iI t)]) (rest := []) ⟨hx, hb, hml, hown, hts⟩ (c_X4_thingOf_y l D b _ ad nt ng sp nn jj vt vw vr G hO t hrt hqk1) (cwV 1 hts gX4_entered_X4_thingOf rfl rfl rfl (by decide +kernel) ⟨Nat.le_of_ble_eq_true rfl, Nat.le_of_ble_eq_true rfl⟩) K hG o1 rfl rfl rfl hl.1 rfl (Nat.le_of_ble_eq_true rfl) dX4_entered_2 ⟨Nat.le_of_ble_eq_true rfl, Nat.le_of_ble_eq_true rfl⟩) hS (fun H locs hG hS => ?_)
    refine W.eq (g2 := F0 m 5 ls [.ref (ad 0 t.toNat 0)]) rfl ?_
    have hG : mG D b M s H := hG
    refine lv_astore (lv' := [(5, .ref (ad 0 t.toNat 0)), (0, .ref (ad 8 0 0)), (1, .int (iI t)), (2, .int (iI v)), (3, .int (iI u)), (4, .int (iI w))]) hx hb dX4_entered_5 hl (by decide) rfl (fun ls hl => ?_)
    refine lv_aload_n hx hb dX4_entered_7 rfl (lv_at hl 1 rfl) ?_
    refine lv_iload_n hx hb dX4_entered_8 rfl (lv_at hl 3 rfl) ?_
    rcases Classical.em (0 ≤ v ∧ v < ng) with hqk2 | hqk2
    · obtain ⟨p1k2, p2k2⟩ := oG v.toNat (by omega)
      refine m_callfq (m_runV (a := ad 8 0 0) (As := [.int (iI v)]) (rest := []) ⟨hx, hb, hml, hown, hts⟩ (c_X4_groundOf_y l D b _ ad nt ng sp nn jj vt vw vr G hO v hrv hqk2) (cwV 1 hts gX4_entered_X4_groundOf rfl rfl rfl (by decide +kernel) ⟨Nat.le_of_ble_eq_true rfl, Nat.le_of_ble_eq_true rfl⟩) K hG o1 rfl rfl rfl hl.1 rfl (Nat.le_of_ble_eq_true rfl) dX4_entered_9 ⟨Nat.le_of_ble_eq_true rfl, Nat.le_of_ble_eq_true rfl⟩) hS (fun H locs hG hS => ?_)
      refine W.eq (g2 := F0 m 12 ls [.ref (ad 4 v.toNat 0)]) rfl ?_
      have hG : mG D b M s H := hG
      refine lv_astore (lv' := [(6, .ref (ad 4 v.toNat 0)), (5, .ref (ad 0 t.toNat 0)), (0, .ref (ad 8 0 0)), (1, .int (iI t)), (2, .int (iI v)), (3, .int (iI u)), (4, .int (iI w))]) hx hb dX4_entered_12 hl (by decide) rfl (fun ls hl => ?_)
      refine lv_aload hx hb dX4_entered_14 (lv_at hl 1 rfl) ?_
      refine lv_ifnull hx hb dX4_entered_16 ?_
      refine lv_aload hx hb dX4_entered_19 (lv_at hl 0 rfl) ?_
      refine lv_ifnull hx hb dX4_entered_21 ?_
      refine lv_iload_n hx hb dX4_entered_24 rfl (lv_at hl 5 rfl) ?_
      refine lv_iload hx hb dX4_entered_25 (lv_at hl 6 rfl) ?_
      refine m_callfi (m_runS (As := [.int (iI u), .int (iI w)]) (rest := []) ⟨hx, hb, hml, hown, hts⟩ (c_X4_isStretch l D b _ u w hru hrw) (va_cwS 2 hts gX4_entered_X4_isStretch rfl rfl rfl (by decide +kernel) ⟨Nat.le_of_ble_eq_true rfl, Nat.le_of_ble_eq_true rfl⟩) K hG rfl hl.1 rfl (Nat.le_of_ble_eq_true rfl) dX4_entered_27 ⟨Nat.le_of_ble_eq_true rfl, Nat.le_of_ble_eq_true rfl⟩) hS (fun H locs hG hS => ?_)
      have hG : mG D b M s H := hG
      refine m_ifb_ne (tgt := 35) hx hb dX4_entered_30 (by decide) (fun c30 => ?_) (fun c30 => ?_)
      · refine lv_aload_n hx hb dX4_entered_35 rfl (lv_at hl 2 rfl) ?_
        refine m_get (ci := 4) (v := .ref (ad 4 4 0)) (C := RX4) (T := TX4) (N := 6) hx hb hts (by decide +kernel) hown K hG o1 rfl 2 (by decide) (by decide +kernel) rfl dX4_entered_36 ?_
        refine lv_aload hx hb dX4_entered_39 (lv_at hl 1 rfl) ?_
        refine lv_iload_n hx hb dX4_entered_41 rfl (lv_at hl 5 rfl) ?_
        refine m_callfq (m_runV (a := ad 0 t.toNat 0) (As := [.int (iI u)]) (rest := [.ref (ad 4 4 0)]) ⟨hx, hb, hml, hown, hts⟩ (c_X3_reachAt l D b _ (ad 0 t.toNat 0) (ad 1 t.toNat 0) (ad 1 t.toNat 1) (ad 1 t.toNat 2) (ad 2 t.toNat 0) rfk1 (ad 3 t.toNat) (sp t.toNat) (nn t.toNat) (jj t.toNat) (vt t.toNat) (vw t.toNat) (vr t.toNat) (stF (sp t.toNat) (vt t.toNat) (vw t.toNat) (vr t.toNat) (nn t.toNat).toNat) hTk1 u (by omega) (by omega)) (cwV 1 hts gX4_entered_X3_reachAt rfl rfl rfl (by decide +kernel) ⟨Nat.le_of_ble_eq_true rfl, Nat.le_of_ble_eq_true rfl⟩) K hG t1k1 rfl rfl rfl hl.1 rfl (Nat.le_of_ble_eq_true rfl) dX4_entered_42 ⟨Nat.le_of_ble_eq_true rfl, Nat.le_of_ble_eq_true rfl⟩) hS (fun H locs hG hS => ?_)
        refine W.eq (g2 := F0 m 45 ls [.ref (ad 3 t.toNat u.toNat), .ref (ad 4 4 0)]) rfl ?_
        have hG : mG D b M s H := hG
        refine m_callfv (m_runV (a := ad 4 4 0) (As := [.ref (ad 3 t.toNat u.toNat)]) (rest := []) ⟨hx, hb, hml, hown, hts⟩ (c_X1_setTo l D b _ (ad 4 4 0) (ad 5 4 0) SO o6 o7 (ad 3 t.toNat u.toNat) ((stF (sp t.toNat) (vt t.toNat) (vw t.toNat) (vr t.toNat) (nn t.toNat).toNat) u.toNat 0) ((stF (sp t.toNat) (vt t.toNat) (vw t.toNat) (vr t.toNat) (nn t.toNat).toNat) u.toNat 1) ((stF (sp t.toNat) (vt t.toNat) (vw t.toNat) (vr t.toNat) (nn t.toNat).toNat) u.toNat 2) ((stF (sp t.toNat) (vt t.toNat) (vw t.toNat) (vr t.toNat) (nn t.toNat).toNat) u.toNat 3) (hBk1 u.toNat (by omega)) (hRk1 u.toNat 0).1 (nek1 u.toNat (by omega)).1 (hRk1 u.toNat 1).2 (hRk1 u.toNat 2).1 (nek1 u.toNat (by omega)).2 (hRk1 u.toNat 3).2) (cwV 1 hts gX4_entered_X1_setTo rfl rfl rfl (by decide +kernel) ⟨Nat.le_of_ble_eq_true rfl, Nat.le_of_ble_eq_true rfl⟩) K hG o6 rfl rfl rfl hl.1 rfl (Nat.le_of_ble_eq_true rfl) dX4_entered_45 ⟨Nat.le_of_ble_eq_true rfl, Nat.le_of_ble_eq_true rfl⟩) hS (fun H locs hG hS => ?_)
        have hG : mG D b (mset M (ad 5 4 0) (aL 64 (fun (a c : Nat) => if (a : Int) < 64 then (decide ((stF (sp t.toNat) (vt t.toNat) (vw t.toNat) (vr t.toNat) (nn t.toNat).toNat) u.toNat 0 ≤ (a : Int) ∧ (a : Int) ≤ (stF (sp t.toNat) (vt t.toNat) (vw t.toNat) (vr t.toNat) (nn t.toNat).toNat) u.toNat 1) && decide ((stF (sp t.toNat) (vt t.toNat) (vw t.toNat) (vr t.toNat) (nn t.toNat).toNat) u.toNat 2 ≤ (c : Int) ∧ (c : Int) ≤ (stF (sp t.toNat) (vt t.toNat) (vw t.toNat) (vr t.toNat) (nn t.toNat).toNat) u.toNat 3)) else SO a c))) s H := hG
        refine lv_aload_n hx hb dX4_entered_48 rfl (lv_at hl 2 rfl) ?_
        refine m_get (ci := 4) (v := .ref (ad 4 4 0)) (C := RX4) (T := TX4) (N := 6) hx hb hts (by decide +kernel) hown K hG ((mset_ne (hTg.ne (k := 8) (k2 := 5) (by unfold live; omega) (by unfold live; omega) (by omega))).trans o1) rfl 2 (by decide) (by decide +kernel) rfl dX4_entered_49 ?_
        refine lv_aload hx hb dX4_entered_52 (lv_at hl 0 rfl) ?_
        refine m_callfv (m_runV (a := ad 4 4 0) (As := [.ref (ad 4 v.toNat 0)]) (rest := []) ⟨hx, hb, hml, hown, hts⟩ (c_X1_drop l D b _ (ad 4 4 0) (ad 5 4 0) (fun (a c : Nat) => if (a : Int) < 64 then (decide ((stF (sp t.toNat) (vt t.toNat) (vw t.toNat) (vr t.toNat) (nn t.toNat).toNat) u.toNat 0 ≤ (a : Int) ∧ (a : Int) ≤ (stF (sp t.toNat) (vt t.toNat) (vw t.toNat) (vr t.toNat) (nn t.toNat).toNat) u.toNat 1) && decide ((stF (sp t.toNat) (vt t.toNat) (vw t.toNat) (vr t.toNat) (nn t.toNat).toNat) u.toNat 2 ≤ (c : Int) ∧ (c : Int) ≤ (stF (sp t.toNat) (vt t.toNat) (vw t.toNat) (vr t.toNat) (nn t.toNat).toNat) u.toNat 3)) else SO a c) ((mset_ne (hTg.ne (k := 4) (k2 := 5) (by unfold live; omega) (by unfold live; omega) (by omega))).trans o6) mset_self (ad 4 v.toNat 0) (ad 5 v.toNat 0) (G v.toNat) ((mset_ne (hTg.ne (k := 4) (k2 := 5) (by unfold live; omega) (by unfold live; omega) (by omega))).trans p1k2) ((mset_ne (hTg.ne (k := 5) (k2 := 5) (by unfold live; omega) (by unfold live; omega) (by omega))).trans p2k2) (hTg.ne (k := 5) (k2 := 5) (by unfold live; omega) (by unfold live; omega) (by omega))) (cwV 1 hts gX4_entered_X1_drop rfl rfl rfl (by decide +kernel) ⟨Nat.le_of_ble_eq_true rfl, Nat.le_of_ble_eq_true rfl⟩) K hG ((mset_ne (hTg.ne (k := 4) (k2 := 5) (by unfold live; omega) (by unfold live; omega) (by omega))).trans o6) rfl rfl rfl hl.1 rfl (Nat.le_of_ble_eq_true rfl) dX4_entered_54 ⟨Nat.le_of_ble_eq_true rfl, Nat.le_of_ble_eq_true rfl⟩) hS (fun H locs hG hS => ?_)
        rw [mset_mset] at hG
        have hG : mG D b (mset M (ad 5 4 0) (aL 64 (fun (a c : Nat) => if (a : Int) < 64 then ((fun (a c : Nat) => if (a : Int) < 64 then (decide ((stF (sp t.toNat) (vt t.toNat) (vw t.toNat) (vr t.toNat) (nn t.toNat).toNat) u.toNat 0 ≤ (a : Int) ∧ (a : Int) ≤ (stF (sp t.toNat) (vt t.toNat) (vw t.toNat) (vr t.toNat) (nn t.toNat).toNat) u.toNat 1) && decide ((stF (sp t.toNat) (vt t.toNat) (vw t.toNat) (vr t.toNat) (nn t.toNat).toNat) u.toNat 2 ≤ (c : Int) ∧ (c : Int) ≤ (stF (sp t.toNat) (vt t.toNat) (vw t.toNat) (vr t.toNat) (nn t.toNat).toNat) u.toNat 3)) else SO a c) a c && !(G v.toNat) a c) else (fun (a c : Nat) => if (a : Int) < 64 then (decide ((stF (sp t.toNat) (vt t.toNat) (vw t.toNat) (vr t.toNat) (nn t.toNat).toNat) u.toNat 0 ≤ (a : Int) ∧ (a : Int) ≤ (stF (sp t.toNat) (vt t.toNat) (vw t.toNat) (vr t.toNat) (nn t.toNat).toNat) u.toNat 1) && decide ((stF (sp t.toNat) (vt t.toNat) (vw t.toNat) (vr t.toNat) (nn t.toNat).toNat) u.toNat 2 ≤ (c : Int) ∧ (c : Int) ≤ (stF (sp t.toNat) (vt t.toNat) (vw t.toNat) (vr t.toNat) (nn t.toNat).toNat) u.toNat 3)) else SO a c) a c))) s H := hG
        refine lv_iload_n hx hb dX4_entered_57 rfl (lv_at hl 5 rfl) ?_
        refine lv_istore (lv' := [(7, .int (iI u)), (6, .ref (ad 4 v.toNat 0)), (5, .ref (ad 0 t.toNat 0)), (0, .ref (ad 8 0 0)), (1, .int (iI t)), (2, .int (iI v)), (3, .int (iI u)), (4, .int (iI w))]) hx hb dX4_entered_58 hl (by decide) rfl (fun ls hl => ?_)
        have loop60 : ∀ (fuel : Nat) (i : Int) (T : Nat → Nat → Bool) (H : Heap) (locs : List Loc) (ls : Array Slot), (u ≤ i) → (i ≤ w) → (∀ x y : Nat, x < 64 → y < 64 → (T x y = true ↔ lev (stF (sp t.toNat) (vt t.toNat) (vw t.toNat) (vr t.toNat) (nn t.toNat).toNat) (sp t.toNat).toNat (G v.toNat) u.toNat (i - u).toNat 0 x y)) → (∀ d : Nat, (d : Int) < i - u → ¬ noOut (stF (sp t.toNat) (vt t.toNat) (vw t.toNat) (vr t.toNat) (nn t.toNat).toNat) (sp t.toNat).toNat (G v.toNat) u.toNat d) → (w - i).toNat < fuel → mG D b (mset M (ad 5 4 0) (aL 64 T)) s H → va_S (mF b) s.heap H locs → lv_has ls 8 [(7, .int (iI i)), (6, .ref (ad 4 v.toNat 0)), (5, .ref (ad 0 t.toNat 0)), (0, .ref (ad 8 0 0)), (1, .int (iI t)), (2, .int (iI v)), (3, .int (iI u)), (4, .int (iI w))] → W p l e ({ frames := 3, cells := 0, slots := 0, locals := 67 } : Room) s m args below meth c H locs 0 0 Q (F0 m 60 ls []) := by
          intro fuel
          induction fuel with
          | zero => intro i T H locs ls hi0 hi1 hL hE hm; exact absurd hm (Nat.not_lt_zero _)
          | succ fuel ih60 =>
            intro i T H locs ls hi0 hi1 hL hE hm hG hS hl
            refine lv_iload hx hb dX4_entered_60 (lv_at hl 0 rfl) ?_
            refine lv_iload hx hb dX4_entered_62 (lv_at hl 7 rfl) ?_
            refine m_icmp_ge (tgt := 103) hx hb dX4_entered_64 (by decide) ⟨by omega, by omega⟩ hrw (fun c64 => ?_) (fun c64 => ?_)
            · refine lv_aload_n hx hb dX4_entered_103 rfl (lv_at hl 3 rfl) ?_
              refine m_get (ci := 4) (v := .ref (ad 4 4 0)) (C := RX4) (T := TX4) (N := 6) hx hb hts (by decide +kernel) hown K hG ((mset_ne (hTg.ne (k := 8) (k2 := 5) (by unfold live; omega) (by unfold live; omega) (by omega))).trans o1) rfl 2 (by decide) (by decide +kernel) rfl dX4_entered_104 ?_
              refine m_callfi (m_runV (a := ad 4 4 0) (As := []) (rest := []) ⟨hx, hb, hml, hown, hts⟩ (c_X1_isEmpty l D b _ (ad 4 4 0) (ad 5 4 0) T ((mset_ne (hTg.ne (k := 4) (k2 := 5) (by unfold live; omega) (by unfold live; omega) (by omega))).trans o6) mset_self) (cwV 0 hts gX4_entered_X1_isEmpty rfl rfl rfl (by decide +kernel) ⟨Nat.le_of_ble_eq_true rfl, Nat.le_of_ble_eq_true rfl⟩) K hG ((mset_ne (hTg.ne (k := 4) (k2 := 5) (by unfold live; omega) (by unfold live; omega) (by omega))).trans o6) rfl rfl rfl hl.1 rfl (Nat.le_of_ble_eq_true rfl) dX4_entered_107 ⟨Nat.le_of_ble_eq_true rfl, Nat.le_of_ble_eq_true rfl⟩) hS (fun H locs hG hS => ?_)
              have hG : mG D b (mset M (ad 5 4 0) (aL 64 T)) s H := hG
              refine m_ift_eq (tgt := 118) hx hb dX4_entered_110 (by decide) (fun c110 => ?_) (fun c110 => ?_)
              · refine lv_iconst (v := iI (-1)) hx hb dX4_entered_118 rfl ?_
                exact m_iret hx hb hr hlk hQ hG hS (Nat.le_of_ble_eq_true rfl) (Nat.le_of_ble_eq_true rfl) dX4_entered_119 (Or.inr ⟨by omega, Ov_out hO hTg, (fun a q1 _ => mset_ne (hTg.big (by unfold live; omega) q1)), Or.inr ⟨(fun d hd hz => by rcases Int.lt_or_le (d : Int) (i - u) with q | q; exact hE d q hz; rw [show d = (i - u).toNat by omega] at hz; exact c110 (fun a c h8 h9 => by rcases h7 : T a c with _ | _; rfl; exact absurd ((hL a c h8 h9).mp h7) (hz a c h8 h9))), rfl⟩⟩)
              · refine lv_iload hx hb dX4_entered_113 (lv_at hl 0 rfl) ?_
                refine lv_goto (tgt := 119) hx hb dX4_entered_115 (by decide) ?_
                exact m_iret hx hb hr hlk hQ hG hS (Nat.le_of_ble_eq_true rfl) (Nat.le_of_ble_eq_true rfl) dX4_entered_119 (Or.inr ⟨by omega, Ov_out hO hTg, (fun a q1 _ => mset_ne (hTg.big (by unfold live; omega) q1)), Or.inl ⟨(i - u).toNat, by omega, (fun a c h8 h9 z => by have h7 := (hL a c h8 h9).mpr z; rw [c110 a c h8 h9] at h7; cases h7), (fun d hd => hE d (by omega)), congrArg iI (by omega)⟩⟩)
            · refine lv_aload_n hx hb dX4_entered_67 rfl (lv_at hl 3 rfl) ?_
              refine m_get (ci := 4) (v := .ref (ad 4 4 0)) (C := RX4) (T := TX4) (N := 6) hx hb hts (by decide +kernel) hown K hG ((mset_ne (hTg.ne (k := 8) (k2 := 5) (by unfold live; omega) (by unfold live; omega) (by omega))).trans o1) rfl 2 (by decide) (by decide +kernel) rfl dX4_entered_68 ?_
              refine m_callfi (m_runV (a := ad 4 4 0) (As := []) (rest := []) ⟨hx, hb, hml, hown, hts⟩ (c_X1_isEmpty l D b _ (ad 4 4 0) (ad 5 4 0) T ((mset_ne (hTg.ne (k := 4) (k2 := 5) (by unfold live; omega) (by unfold live; omega) (by omega))).trans o6) mset_self) (cwV 0 hts gX4_entered_X1_isEmpty rfl rfl rfl (by decide +kernel) ⟨Nat.le_of_ble_eq_true rfl, Nat.le_of_ble_eq_true rfl⟩) K hG ((mset_ne (hTg.ne (k := 4) (k2 := 5) (by unfold live; omega) (by unfold live; omega) (by omega))).trans o6) rfl rfl rfl hl.1 rfl (Nat.le_of_ble_eq_true rfl) dX4_entered_71 ⟨Nat.le_of_ble_eq_true rfl, Nat.le_of_ble_eq_true rfl⟩) hS (fun H locs hG hS => ?_)
              have hG : mG D b (mset M (ad 5 4 0) (aL 64 T)) s H := hG
              refine m_ift_ne (tgt := 103) hx hb dX4_entered_74 (by decide) (fun c74 => ?_) (fun c74 => ?_)
              · refine lv_aload_n hx hb dX4_entered_103 rfl (lv_at hl 3 rfl) ?_
                refine m_get (ci := 4) (v := .ref (ad 4 4 0)) (C := RX4) (T := TX4) (N := 6) hx hb hts (by decide +kernel) hown K hG ((mset_ne (hTg.ne (k := 8) (k2 := 5) (by unfold live; omega) (by unfold live; omega) (by omega))).trans o1) rfl 2 (by decide) (by decide +kernel) rfl dX4_entered_104 ?_
                refine m_callfi (m_runV (a := ad 4 4 0) (As := []) (rest := []) ⟨hx, hb, hml, hown, hts⟩ (c_X1_isEmpty l D b _ (ad 4 4 0) (ad 5 4 0) T ((mset_ne (hTg.ne (k := 4) (k2 := 5) (by unfold live; omega) (by unfold live; omega) (by omega))).trans o6) mset_self) (cwV 0 hts gX4_entered_X1_isEmpty rfl rfl rfl (by decide +kernel) ⟨Nat.le_of_ble_eq_true rfl, Nat.le_of_ble_eq_true rfl⟩) K hG ((mset_ne (hTg.ne (k := 4) (k2 := 5) (by unfold live; omega) (by unfold live; omega) (by omega))).trans o6) rfl rfl rfl hl.1 rfl (Nat.le_of_ble_eq_true rfl) dX4_entered_107 ⟨Nat.le_of_ble_eq_true rfl, Nat.le_of_ble_eq_true rfl⟩) hS (fun H locs hG hS => ?_)
                have hG : mG D b (mset M (ad 5 4 0) (aL 64 T)) s H := hG
                refine m_ift_eq (tgt := 118) hx hb dX4_entered_110 (by decide) (fun c110 => ?_) (fun c110 => ?_)
                · refine lv_iconst (v := iI (-1)) hx hb dX4_entered_118 rfl ?_
                  exact m_iret hx hb hr hlk hQ hG hS (Nat.le_of_ble_eq_true rfl) (Nat.le_of_ble_eq_true rfl) dX4_entered_119 (absurd c74 c110)
                · refine lv_iload hx hb dX4_entered_113 (lv_at hl 0 rfl) ?_
                  refine lv_goto (tgt := 119) hx hb dX4_entered_115 (by decide) ?_
                  exact m_iret hx hb hr hlk hQ hG hS (Nat.le_of_ble_eq_true rfl) (Nat.le_of_ble_eq_true rfl) dX4_entered_119 (Or.inr ⟨by omega, Ov_out hO hTg, (fun a q1 _ => mset_ne (hTg.big (by unfold live; omega) q1)), Or.inl ⟨(i - u).toNat, by omega, (fun a c h8 h9 z => by have h7 := (hL a c h8 h9).mpr z; rw [c110 a c h8 h9] at h7; cases h7), (fun d hd => hE d (by omega)), congrArg iI (by omega)⟩⟩)
              · refine m_iinc (lv' := [(7, .int (iI (i + 1))), (6, .ref (ad 4 v.toNat 0)), (5, .ref (ad 0 t.toNat 0)), (0, .ref (ad 8 0 0)), (1, .int (iI t)), (2, .int (iI v)), (3, .int (iI u)), (4, .int (iI w))]) (k := 0) hx hb dX4_entered_77 hl rfl (by decide) rfl (fun ls hl => ?_)
                refine lv_aload hx hb dX4_entered_80 (lv_at hl 2 rfl) ?_
                refine lv_aload_n hx hb dX4_entered_82 rfl (lv_at hl 3 rfl) ?_
                refine m_get (ci := 4) (v := .ref (ad 4 4 0)) (C := RX4) (T := TX4) (N := 6) hx hb hts (by decide +kernel) hown K hG ((mset_ne (hTg.ne (k := 8) (k2 := 5) (by unfold live; omega) (by unfold live; omega) (by omega))).trans o1) rfl 2 (by decide) (by decide +kernel) rfl dX4_entered_83 ?_
                refine lv_iload hx hb dX4_entered_86 (lv_at hl 0 rfl) ?_
                refine m_callv (m_runV (a := ad 0 t.toNat 0) (As := [.ref (ad 4 4 0), .int (iI (i + 1))]) (rest := []) ⟨hx, hb, hml, hown, hts⟩ (c_X3_advance l D b _ (ad 0 t.toNat 0) (ad 1 t.toNat 0) (ad 1 t.toNat 1) (ad 1 t.toNat 2) (ad 2 t.toNat 0) rfk1 (ad 3 t.toNat) (sp t.toNat) (nn t.toNat) (jj t.toNat) (vt t.toNat) (vw t.toNat) (vr t.toNat) (stF (sp t.toNat) (vt t.toNat) (vw t.toNat) (vr t.toNat) (nn t.toNat).toNat) (ThOk_fr hTk1 (fun a v h8 h9 _ => mset_ne (mne h8 o7 (h9 SO)))) hs0k1 hs1k1 (ad 4 4 0) (ad 5 4 0) T ((mset_ne (hTg.ne (k := 4) (k2 := 5) (by unfold live; omega) (by unfold live; omega) (by omega))).trans o6) mset_self (i + 1) (by omega) (by omega) hRk1 (nek1 _ (by omega))) (cwV 2 hts gX4_entered_X3_advance rfl rfl rfl (by decide +kernel) ⟨Nat.le_of_ble_eq_true rfl, Nat.le_of_ble_eq_true rfl⟩) K hG ((mset_ne (hTg.ne (k := 0) (k2 := 5) (by unfold live; omega) (by unfold live; omega) (by omega))).trans t1k1) rfl rfl rfl hl.1 rfl (Nat.le_of_ble_eq_true rfl) dX4_entered_88 ⟨Nat.le_of_ble_eq_true rfl, Nat.le_of_ble_eq_true rfl⟩) hS (fun M4 H locs hw5 hG hS => ?_)
                obtain ⟨T4, hwM4, hT4⟩ := hw5
                rw [hwM4, mset_mset] at hG
                refine lv_aload_n hx hb dX4_entered_91 rfl (lv_at hl 3 rfl) ?_
                refine m_get (ci := 4) (v := .ref (ad 4 4 0)) (C := RX4) (T := TX4) (N := 6) hx hb hts (by decide +kernel) hown K hG ((mset_ne (hTg.ne (k := 8) (k2 := 5) (by unfold live; omega) (by unfold live; omega) (by omega))).trans o1) rfl 2 (by decide) (by decide +kernel) rfl dX4_entered_92 ?_
                refine lv_aload hx hb dX4_entered_95 (lv_at hl 1 rfl) ?_
                refine m_callfv (m_runV (a := ad 4 4 0) (As := [.ref (ad 4 v.toNat 0)]) (rest := []) ⟨hx, hb, hml, hown, hts⟩ (c_X1_drop l D b _ (ad 4 4 0) (ad 5 4 0) T4 ((mset_ne (hTg.ne (k := 4) (k2 := 5) (by unfold live; omega) (by unfold live; omega) (by omega))).trans o6) mset_self (ad 4 v.toNat 0) (ad 5 v.toNat 0) (G v.toNat) ((mset_ne (hTg.ne (k := 4) (k2 := 5) (by unfold live; omega) (by unfold live; omega) (by omega))).trans p1k2) ((mset_ne (hTg.ne (k := 5) (k2 := 5) (by unfold live; omega) (by unfold live; omega) (by omega))).trans p2k2) (hTg.ne (k := 5) (k2 := 5) (by unfold live; omega) (by unfold live; omega) (by omega))) (cwV 1 hts gX4_entered_X1_drop rfl rfl rfl (by decide +kernel) ⟨Nat.le_of_ble_eq_true rfl, Nat.le_of_ble_eq_true rfl⟩) K hG ((mset_ne (hTg.ne (k := 4) (k2 := 5) (by unfold live; omega) (by unfold live; omega) (by omega))).trans o6) rfl rfl rfl hl.1 rfl (Nat.le_of_ble_eq_true rfl) dX4_entered_97 ⟨Nat.le_of_ble_eq_true rfl, Nat.le_of_ble_eq_true rfl⟩) hS (fun H locs hG hS => ?_)
                rw [mset_mset] at hG
                have hG : mG D b (mset M (ad 5 4 0) (aL 64 (fun (a c : Nat) => if (a : Int) < 64 then (T4 a c && !(G v.toNat) a c) else T4 a c))) s H := hG
                refine lv_goto (tgt := 60) hx hb dX4_entered_100 (by decide) ?_
                exact ih60 (i + 1) (fun (a c : Nat) => if (a : Int) < 64 then (T4 a c && !(G v.toNat) a c) else T4 a c) _ _ _ (by omega) (by omega) (fun x y hx9 hy9 => by rw [if_pos (by omega), Bool.and_eq_true, hT4 x y hx9 hy9, show (i + 1 - u).toNat = (i - u).toNat + 1 by omega]; show _ ↔ inB _ (u.toNat + (i - u).toNat + 1) x y ∧ _; rw [wide_P (hL), show (i + 1).toNat = u.toNat + (i - u).toNat + 1 by omega]; rcases h9 : G v.toNat x y with _ | _; simp; simp) (fun d hd hz => by rcases Int.lt_or_le (d : Int) (i - u) with q | q; exact hE d q hz; rw [show d = (i - u).toNat by omega] at hz; exact c74 (fun a c h8 h9 => by rcases h7 : T a c with _ | _; rfl; exact absurd ((hL a c h8 h9).mp h7) (hz a c h8 h9))) (by omega) hG hS (lv_sub hl [0, 1, 2, 3, 4, 5, 6, 7] rfl)
        exact loop60 _ u (fun (a c : Nat) => if (a : Int) < 64 then ((fun (a c : Nat) => if (a : Int) < 64 then (decide ((stF (sp t.toNat) (vt t.toNat) (vw t.toNat) (vr t.toNat) (nn t.toNat).toNat) u.toNat 0 ≤ (a : Int) ∧ (a : Int) ≤ (stF (sp t.toNat) (vt t.toNat) (vw t.toNat) (vr t.toNat) (nn t.toNat).toNat) u.toNat 1) && decide ((stF (sp t.toNat) (vt t.toNat) (vw t.toNat) (vr t.toNat) (nn t.toNat).toNat) u.toNat 2 ≤ (c : Int) ∧ (c : Int) ≤ (stF (sp t.toNat) (vt t.toNat) (vw t.toNat) (vr t.toNat) (nn t.toNat).toNat) u.toNat 3)) else SO a c) a c && !(G v.toNat) a c) else (fun (a c : Nat) => if (a : Int) < 64 then (decide ((stF (sp t.toNat) (vt t.toNat) (vw t.toNat) (vr t.toNat) (nn t.toNat).toNat) u.toNat 0 ≤ (a : Int) ∧ (a : Int) ≤ (stF (sp t.toNat) (vt t.toNat) (vw t.toNat) (vr t.toNat) (nn t.toNat).toNat) u.toNat 1) && decide ((stF (sp t.toNat) (vt t.toNat) (vw t.toNat) (vr t.toNat) (nn t.toNat).toNat) u.toNat 2 ≤ (c : Int) ∧ (c : Int) ≤ (stF (sp t.toNat) (vt t.toNat) (vw t.toNat) (vr t.toNat) (nn t.toNat).toNat) u.toNat 3)) else SO a c) a c) _ _ _ (by omega) (by omega) (fun x y hx9 hy9 => by rw [if_pos (by omega)]; show ((if (x : Int) < 64 then _ else _) && _) = true ↔ _; rw [if_pos (by omega), show (u - u).toNat = 0 by omega]; show _ ↔ inB _ u.toNat x y ∧ _; rw [Bool.and_eq_true, Bool.and_eq_true, decide_eq_true_eq, decide_eq_true_eq]; rcases h9 : G v.toNat x y with _ | _; simp; simp) (fun d hd => absurd hd (by omega)) (Nat.lt_succ_self _) hG hS (lv_sub hl [0, 1, 2, 3, 4, 5, 6, 7] rfl)
      · refine lv_iconst (v := iI (-1)) hx hb dX4_entered_33 rfl ?_
        exact m_iret hx hb hr hlk hQ hG hS (Nat.le_of_ble_eq_true rfl) (Nat.le_of_ble_eq_true rfl) dX4_entered_34 (Or.inl ⟨by omega, rfl, hO, (fun a _ _ => rfl)⟩)
    · refine m_callfq (m_runV (a := ad 8 0 0) (As := [.int (iI v)]) (rest := []) ⟨hx, hb, hml, hown, hts⟩ (c_X4_groundOf_n l D b _ ad nt ng sp nn jj vt vw vr G hO v hrv hqk2) (cwV 1 hts gX4_entered_X4_groundOf rfl rfl rfl (by decide +kernel) ⟨Nat.le_of_ble_eq_true rfl, Nat.le_of_ble_eq_true rfl⟩) K hG o1 rfl rfl rfl hl.1 rfl (Nat.le_of_ble_eq_true rfl) dX4_entered_9 ⟨Nat.le_of_ble_eq_true rfl, Nat.le_of_ble_eq_true rfl⟩) hS (fun H locs hG hS => ?_)
      refine W.eq (g2 := F0 m 12 ls [.null]) rfl ?_
      have hG : mG D b M s H := hG
      refine lv_astoreN (lv' := [(6, .null), (5, .ref (ad 0 t.toNat 0)), (0, .ref (ad 8 0 0)), (1, .int (iI t)), (2, .int (iI v)), (3, .int (iI u)), (4, .int (iI w))]) hx hb dX4_entered_12 hl (by decide) rfl (fun ls hl => ?_)
      refine lv_aload hx hb dX4_entered_14 (lv_at hl 1 rfl) ?_
      refine lv_ifnull hx hb dX4_entered_16 ?_
      refine lv_aloadN hx hb dX4_entered_19 (lv_at hl 0 rfl) ?_
      refine lv_ifnullN (tgt := 33) hx hb dX4_entered_21 (by decide) ?_
      refine lv_iconst (v := iI (-1)) hx hb dX4_entered_33 rfl ?_
      exact m_iret hx hb hr hlk hQ hG hS (Nat.le_of_ble_eq_true rfl) (Nat.le_of_ble_eq_true rfl) dX4_entered_34 (Or.inl ⟨by omega, rfl, hO, (fun a _ _ => rfl)⟩)
  · refine m_callfq (m_runV (a := ad 8 0 0) (As := [.int (iI t)]) (rest := []) ⟨hx, hb, hml, hown, hts⟩ (c_X4_thingOf_n l D b _ ad nt ng sp nn jj vt vw vr G hO t hrt hqk1) (cwV 1 hts gX4_entered_X4_thingOf rfl rfl rfl (by decide +kernel) ⟨Nat.le_of_ble_eq_true rfl, Nat.le_of_ble_eq_true rfl⟩) K hG o1 rfl rfl rfl hl.1 rfl (Nat.le_of_ble_eq_true rfl) dX4_entered_2 ⟨Nat.le_of_ble_eq_true rfl, Nat.le_of_ble_eq_true rfl⟩) hS (fun H locs hG hS => ?_)
    refine W.eq (g2 := F0 m 5 ls [.null]) rfl ?_
    have hG : mG D b M s H := hG
    refine lv_astoreN (lv' := [(5, .null), (0, .ref (ad 8 0 0)), (1, .int (iI t)), (2, .int (iI v)), (3, .int (iI u)), (4, .int (iI w))]) hx hb dX4_entered_5 hl (by decide) rfl (fun ls hl => ?_)
    refine lv_aload_n hx hb dX4_entered_7 rfl (lv_at hl 1 rfl) ?_
    refine lv_iload_n hx hb dX4_entered_8 rfl (lv_at hl 3 rfl) ?_
    rcases Classical.em (0 ≤ v ∧ v < ng) with hqk6 | hqk6
    · obtain ⟨p1k6, p2k6⟩ := oG v.toNat (by omega)
      refine m_callfq (m_runV (a := ad 8 0 0) (As := [.int (iI v)]) (rest := []) ⟨hx, hb, hml, hown, hts⟩ (c_X4_groundOf_y l D b _ ad nt ng sp nn jj vt vw vr G hO v hrv hqk6) (cwV 1 hts gX4_entered_X4_groundOf rfl rfl rfl (by decide +kernel) ⟨Nat.le_of_ble_eq_true rfl, Nat.le_of_ble_eq_true rfl⟩) K hG o1 rfl rfl rfl hl.1 rfl (Nat.le_of_ble_eq_true rfl) dX4_entered_9 ⟨Nat.le_of_ble_eq_true rfl, Nat.le_of_ble_eq_true rfl⟩) hS (fun H locs hG hS => ?_)
      refine W.eq (g2 := F0 m 12 ls [.ref (ad 4 v.toNat 0)]) rfl ?_
      have hG : mG D b M s H := hG
      refine lv_astore (lv' := [(6, .ref (ad 4 v.toNat 0)), (5, .null), (0, .ref (ad 8 0 0)), (1, .int (iI t)), (2, .int (iI v)), (3, .int (iI u)), (4, .int (iI w))]) hx hb dX4_entered_12 hl (by decide) rfl (fun ls hl => ?_)
      refine lv_aloadN hx hb dX4_entered_14 (lv_at hl 1 rfl) ?_
      refine lv_ifnullN (tgt := 33) hx hb dX4_entered_16 (by decide) ?_
      refine lv_iconst (v := iI (-1)) hx hb dX4_entered_33 rfl ?_
      exact m_iret hx hb hr hlk hQ hG hS (Nat.le_of_ble_eq_true rfl) (Nat.le_of_ble_eq_true rfl) dX4_entered_34 (Or.inl ⟨by omega, rfl, hO, (fun a _ _ => rfl)⟩)
    · refine m_callfq (m_runV (a := ad 8 0 0) (As := [.int (iI v)]) (rest := []) ⟨hx, hb, hml, hown, hts⟩ (c_X4_groundOf_n l D b _ ad nt ng sp nn jj vt vw vr G hO v hrv hqk6) (cwV 1 hts gX4_entered_X4_groundOf rfl rfl rfl (by decide +kernel) ⟨Nat.le_of_ble_eq_true rfl, Nat.le_of_ble_eq_true rfl⟩) K hG o1 rfl rfl rfl hl.1 rfl (Nat.le_of_ble_eq_true rfl) dX4_entered_9 ⟨Nat.le_of_ble_eq_true rfl, Nat.le_of_ble_eq_true rfl⟩) hS (fun H locs hG hS => ?_)
      refine W.eq (g2 := F0 m 12 ls [.null]) rfl ?_
      have hG : mG D b M s H := hG
      refine lv_astoreN (lv' := [(6, .null), (5, .null), (0, .ref (ad 8 0 0)), (1, .int (iI t)), (2, .int (iI v)), (3, .int (iI u)), (4, .int (iI w))]) hx hb dX4_entered_12 hl (by decide) rfl (fun ls hl => ?_)
      refine lv_aloadN hx hb dX4_entered_14 (lv_at hl 1 rfl) ?_
      refine lv_ifnullN (tgt := 33) hx hb dX4_entered_16 (by decide) ?_
      refine lv_iconst (v := iI (-1)) hx hb dX4_entered_33 rfl ?_
      exact m_iret hx hb hr hlk hQ hG hS (Nat.le_of_ble_eq_true rfl) (Nat.le_of_ble_eq_true rfl) dX4_entered_34 (Or.inl ⟨by omega, rfl, hO, (fun a _ _ => rfl)⟩)

