theorem Ov_tally {M M0 M1 : mM} {ad : Nat → Nat → Nat → Nat} {nt ng : Int} {sp nn jj : Nat → Int} {vt vw vr : Nat → Nat → Int} {G : Nat → Nat → Nat → Bool} {tg : Nat → Nat × Nat × Nat} (hO : OvOk M0 ad nt ng sp nn jj vt vw vr G) (hT : Tg tg ad nt ng) {lf : Nat → Option Nat} {f g : Int} {S : Nat → Nat → Nat → Bool} (ht : TaOk M1 (ad 6 0 0) (ad 7 0 0) lf (fun k => ad 4 (5 + k) 0) (fun k => ad 5 (5 + k) 0) f g S) (hk : ∀ a, a ≠ ad 6 0 0 → (∀ k, k < 81 → a ≠ ad 5 (5 + k) 0) → M1 a = M0 a) : OvOk M1 ad nt ng sp nn jj vt vw vr G := by
  obtain ⟨o1, ⟨tf0, o2, o3, o3n⟩, ⟨gf0, o4, o5⟩, oT, oG, ⟨SO, o6, o7⟩, -, ⟨b1, b2, b3, b4⟩⟩ := id hO
  have kp : ∀ k c t, live nt ng k c t → k ≠ 6 → ¬ (k = 5 ∧ 5 ≤ c) → M1 (ad k c t) = M0 (ad k c t) := fun k c t hl h6 h5 => hk _ (hT.ne hl (by unfold live; omega) (by omega)) (fun j hj => hT.ne hl (by unfold live; omega) (by omega))
  exact Ov_rows hO hT (fun c hc => (kp 5 c 0 (by unfold live; omega) (by omega) (by omega)).trans (oG c hc).2) ((kp 5 4 0 (by unfold live; omega) (by omega) (by omega)).trans o7) ht (fun k c t hl h5 h6 => kp k c t hl h6 (by omega))

set_option maxHeartbeats 4000000 in
set_option maxRecDepth 100000 in
theorem c_X4_stay (l : Launch) (D : va_G) (b : Nat) (M : mM) (ad : Nat → Nat → Nat → Nat) (nt ng : Int) (sp nn jj : Nat → Int) (vt vw vr : Nat → Nat → Int) (G : Nat → Nat → Nat → Bool) (hO : OvOk M ad nt ng sp nn jj vt vw vr G) (tg : Nat → Nat × Nat × Nat) (hTg : Tg tg ad nt ng) (t v u w x : Int) (hrt : rg t) (hrv : rg v) (hru : rg u) (hrw : rg w) (hrx : rg x) : Met l yX4_stay wsX4_stay ({ frames := 5, cells := 0, slots := 0, locals := 115 } : Room) (mPc [.ref (ad 8 0 0), .int (iI t), .int (iI v), .int (iI u), .int (iI w), .int (iI x)] D b M) (mQi D b (fun r M1 => (¬ ((0 ≤ t ∧ t < nt) ∧ (0 ≤ v ∧ v < ng) ∧ (0 ≤ u ∧ u < 80) ∧ (0 ≤ w ∧ w < 80) ∧ u ≤ w ∧ (0 ≤ x ∧ x ≤ 1)) ∧ r = iI (-1) ∧ M1 = M) ∨ (((0 ≤ t ∧ t < nt) ∧ (0 ≤ v ∧ v < ng) ∧ (0 ≤ u ∧ u < 80) ∧ (0 ≤ w ∧ w < 80) ∧ u ≤ w ∧ (0 ≤ x ∧ x ≤ 1)) ∧ OvOk M1 ad nt ng sp nn jj vt vw vr G ∧ frB tg M M1 ∧ ∃ (z : Nat) (C : Nat → Nat → Bool), z ≤ 80 ∧ isMin (stF (sp t.toNat) (vt t.toNat) (vw t.toNat) (vr t.toNat) (nn t.toNat).toNat) (sp t.toNat).toNat C u.toNat (w - u).toNat z ∧ ((x = 0 ∧ (∀ a c : Nat, a < 64 → c < 64 → C a c = G v.toNat a c) ∧ r = iI z) ∨ (x = 1 ∧ (∀ a c : Nat, a < 64 → c < 64 → C a c = !G v.toNat a c) ∧ r = iI (w - u + 1 - z)))))) 0 0 (mF b) := by
  refine m_met (cc := cX4_stay) (maxL := 8) (ret := (some .int)) (by decide) rfl (Nat.le_of_ble_eq_true rfl) ?_
  intro p e s m args below meth c Q ls hx hb hml hr hts hown hlk hnm hQ K hG hS hl
  have hown : s.vm.findClass RX4 = some m.cls := hown
  have hl : lv_has ls 8 [(0, .ref (ad 8 0 0)), (1, .int (iI t)), (2, .int (iI v)), (3, .int (iI u)), (4, .int (iI w)), (5, .int (iI x))] := hl
  obtain ⟨o1, ⟨tf0, o2, o3, o3n⟩, ⟨gf0, o4, o5⟩, oT, oG, ⟨SO, o6, o7⟩, oA, ⟨b1, b2, b3, b4⟩⟩ := id hO
  obtain ⟨lf0, f0, g0, S0, oA0⟩ := id oA
  refine lv_aload_n hx hb dX4_stay_0 rfl (lv_at hl 0 rfl) ?_
  refine lv_iload_n hx hb dX4_stay_1 rfl (lv_at hl 1 rfl) ?_
  rcases Classical.em (0 ≤ t ∧ t < nt) with hqk1 | hqk1
  · obtain ⟨⟨rfk1, hTk1⟩, ⟨hs0k1, hs1k1⟩, ⟨hn0k1, hn1k1⟩, sok1, nek1⟩ := oT t.toNat (by omega)
    have hRk1 : in63 (stF (sp t.toNat) (vt t.toNat) (vw t.toNat) (vr t.toNat) (nn t.toNat).toNat) := stF_rg hs0k1 (fun k hk => (sok1 k (by omega)).2)
    obtain ⟨t1k1, t2k1, t3k1, t4k1, t5k1, t6k1, hBk1, -, -⟩ := id hTk1
    refine m_callfq (m_runV (a := ad 8 0 0) (As := [.int (iI t)]) (rest := []) ⟨hx, hb, hml, hown, hts⟩ (c_X4_thingOf_y l D b _ ad nt ng sp nn jj vt vw vr G hO t hrt hqk1) (cwV 1 hts gX4_stay_X4_thingOf rfl rfl rfl (by decide +kernel) ⟨Nat.le_of_ble_eq_true rfl, Nat.le_of_ble_eq_true rfl⟩) K hG o1 rfl rfl rfl hl.1 rfl (Nat.le_of_ble_eq_true rfl) dX4_stay_2 ⟨Nat.le_of_ble_eq_true rfl, Nat.le_of_ble_eq_true rfl⟩) hS (fun H locs hG hS => ?_)
    refine W.eq (g2 := F0 m 5 ls [.ref (ad 0 t.toNat 0)]) rfl ?_
    have hG : mG D b M s H := hG
    refine lv_astore (lv' := [(6, .ref (ad 0 t.toNat 0)), (0, .ref (ad 8 0 0)), (1, .int (iI t)), (2, .int (iI v)), (3, .int (iI u)), (4, .int (iI w)), (5, .int (iI x))]) hx hb dX4_stay_5 hl (by decide) rfl (fun ls hl => ?_)
    refine lv_aload_n hx hb dX4_stay_7 rfl (lv_at hl 1 rfl) ?_
    refine lv_iload_n hx hb dX4_stay_8 rfl (lv_at hl 3 rfl) ?_
    rcases Classical.em (0 ≤ v ∧ v < ng) with hqk2 | hqk2
    · obtain ⟨p1k2, p2k2⟩ := oG v.toNat (by omega)
      refine m_callfq (m_runV (a := ad 8 0 0) (As := [.int (iI v)]) (rest := []) ⟨hx, hb, hml, hown, hts⟩ (c_X4_groundOf_y l D b _ ad nt ng sp nn jj vt vw vr G hO v hrv hqk2) (cwV 1 hts gX4_stay_X4_groundOf rfl rfl rfl (by decide +kernel) ⟨Nat.le_of_ble_eq_true rfl, Nat.le_of_ble_eq_true rfl⟩) K hG o1 rfl rfl rfl hl.1 rfl (Nat.le_of_ble_eq_true rfl) dX4_stay_9 ⟨Nat.le_of_ble_eq_true rfl, Nat.le_of_ble_eq_true rfl⟩) hS (fun H locs hG hS => ?_)
      refine W.eq (g2 := F0 m 12 ls [.ref (ad 4 v.toNat 0)]) rfl ?_
      have hG : mG D b M s H := hG
      refine lv_astore (lv' := [(7, .ref (ad 4 v.toNat 0)), (6, .ref (ad 0 t.toNat 0)), (0, .ref (ad 8 0 0)), (1, .int (iI t)), (2, .int (iI v)), (3, .int (iI u)), (4, .int (iI w)), (5, .int (iI x))]) hx hb dX4_stay_12 hl (by decide) rfl (fun ls hl => ?_)
      refine lv_aload hx hb dX4_stay_14 (lv_at hl 1 rfl) ?_
      refine lv_ifnull hx hb dX4_stay_16 ?_
      refine lv_aload hx hb dX4_stay_19 (lv_at hl 0 rfl) ?_
      refine lv_ifnull hx hb dX4_stay_21 ?_
      refine lv_iload_n hx hb dX4_stay_24 rfl (lv_at hl 5 rfl) ?_
      refine lv_iload hx hb dX4_stay_25 (lv_at hl 6 rfl) ?_
      refine m_callfi (m_runS (As := [.int (iI u), .int (iI w)]) (rest := []) ⟨hx, hb, hml, hown, hts⟩ (c_X4_isStretch l D b _ u w hru hrw) (va_cwS 2 hts gX4_stay_X4_isStretch rfl rfl rfl (by decide +kernel) ⟨Nat.le_of_ble_eq_true rfl, Nat.le_of_ble_eq_true rfl⟩) K hG rfl hl.1 rfl (Nat.le_of_ble_eq_true rfl) dX4_stay_27 ⟨Nat.le_of_ble_eq_true rfl, Nat.le_of_ble_eq_true rfl⟩) hS (fun H locs hG hS => ?_)
      have hG : mG D b M s H := hG
      refine m_ifb_ne (tgt := 35) hx hb dX4_stay_30 (by decide) (fun c30 => ?_) (fun c30 => ?_)
      · refine lv_iload hx hb dX4_stay_35 (lv_at hl 7 rfl) ?_
        rcases (show (x < 0 ∨ 1 < x) ∨ x = 0 ∨ x = 1 by omega) with hc37 | hc37 | hc37
        · refine m_lookup (tgt := 112) (off := 75) hx hb dX4_stay_37 (by decide) hrx (lk_out hc37) (by decide) ?_
          refine lv_iconst (v := iI (-1)) hx hb dX4_stay_112 rfl ?_
          exact m_iret hx hb hr hlk hQ hG hS (Nat.le_of_ble_eq_true rfl) (Nat.le_of_ble_eq_true rfl) dX4_stay_113 (Or.inl ⟨by omega, rfl, rfl⟩)
        · refine m_lookup (tgt := 64) (off := 27) hx hb dX4_stay_37 (by decide) hrx (by rw [hc37]; decide) (by decide) ?_
          refine lv_aload_n hx hb dX4_stay_64 rfl (lv_at hl 2 rfl) ?_
          refine m_get (ci := 4) (v := .ref (ad 6 0 0)) (C := RX4) (T := TX4) (N := 6) hx hb hts (by decide +kernel) hown K hG o1 rfl 3 (by decide) (by decide +kernel) rfl dX4_stay_65 ?_
          refine lv_aload hx hb dX4_stay_68 (lv_at hl 1 rfl) ?_
          refine lv_aload hx hb dX4_stay_70 (lv_at hl 0 rfl) ?_
          refine lv_iload_n hx hb dX4_stay_72 rfl (lv_at hl 5 rfl) ?_
          refine lv_iload hx hb dX4_stay_73 (lv_at hl 6 rfl) ?_
          refine m_calli (m_runV (a := ad 6 0 0) (As := [.ref (ad 0 t.toNat 0), .ref (ad 4 v.toNat 0), .int (iI u), .int (iI w)]) (rest := []) ⟨hx, hb, hml, hown, hts⟩ (c_X2_fewest l D b _ (ad 6 0 0) (ad 7 0 0) lf0 (fun k => ad 4 (5 + k) 0) (fun k => ad 5 (5 + k) 0) f0 g0 S0 oA0 (ad 0 t.toNat 0) (ad 1 t.toNat 0) (ad 1 t.toNat 1) (ad 1 t.toNat 2) (ad 2 t.toNat 0) rfk1 (ad 3 t.toNat) (sp t.toNat) (nn t.toNat) (jj t.toNat) (vt t.toNat) (vw t.toNat) (vr t.toNat) (stF (sp t.toNat) (vt t.toNat) (vw t.toNat) (vr t.toNat) (nn t.toNat).toNat) hTk1 hs0k1 hs1k1 (ad 4 v.toNat 0) (ad 5 v.toNat 0) (G v.toNat) p1k2 p2k2 (fun k q => hTg.ne (k := 5) (k2 := 5) (by unfold live; omega) (by unfold live; omega) (by omega)) u w (by omega) (by omega) (by omega) hRk1 nek1 (st_lnk ⟨⟨hs0k1, hs1k1⟩, ⟨hn0k1, hn1k1⟩, sok1, nek1⟩)) (cwV 4 hts gX4_stay_X2_fewest rfl rfl rfl (by decide +kernel) ⟨Nat.le_of_ble_eq_true rfl, Nat.le_of_ble_eq_true rfl⟩) K hG oA0.1 rfl rfl rfl hl.1 rfl (Nat.le_of_ble_eq_true rfl) dX4_stay_75 ⟨Nat.le_of_ble_eq_true rfl, Nat.le_of_ble_eq_true rfl⟩) hS (fun r3 M4 H locs hw5 hG hS => ?_)
          obtain ⟨z, f1, g1, S1, hz1, hz2, hz3, hz4, hz5⟩ := hw5
          rw [hz1]
          exact m_iret hx hb hr hlk hQ hG hS (Nat.le_of_ble_eq_true rfl) (Nat.le_of_ble_eq_true rfl) dX4_stay_78 (Or.inr ⟨by omega, Ov_tally (M := M) hO hTg hz4 hz5, (fun a q1 q2 => (hz5 a (hTg.big (by unfold live; omega) q1) (fun k q => hTg.big (by unfold live; omega) q1))), z, G v.toNat, hz2, hz3, Or.inl ⟨hc37, (fun _ _ _ _ => rfl), rfl⟩⟩)
        · refine m_lookup (tgt := 79) (off := 42) hx hb dX4_stay_37 (by decide) hrx (by rw [hc37]; decide) (by decide) ?_
          refine lv_aload_n hx hb dX4_stay_79 rfl (lv_at hl 2 rfl) ?_
          refine m_get (ci := 4) (v := .ref (ad 4 4 0)) (C := RX4) (T := TX4) (N := 6) hx hb hts (by decide +kernel) hown K hG o1 rfl 2 (by decide) (by decide +kernel) rfl dX4_stay_80 ?_
          refine lv_aload hx hb dX4_stay_83 (lv_at hl 0 rfl) ?_
          refine m_callfv (m_runV (a := ad 4 4 0) (As := [.ref (ad 4 v.toNat 0)]) (rest := []) ⟨hx, hb, hml, hown, hts⟩ (c_X1_setToAllBut l D b _ (ad 4 4 0) (ad 5 4 0) SO o6 o7 (ad 4 v.toNat 0) (ad 5 v.toNat 0) (G v.toNat) p1k2 p2k2 (hTg.ne (k := 5) (k2 := 5) (by unfold live; omega) (by unfold live; omega) (by omega))) (cwV 1 hts gX4_stay_X1_setToAllBut rfl rfl rfl (by decide +kernel) ⟨Nat.le_of_ble_eq_true rfl, Nat.le_of_ble_eq_true rfl⟩) K hG o6 rfl rfl rfl hl.1 rfl (Nat.le_of_ble_eq_true rfl) dX4_stay_85 ⟨Nat.le_of_ble_eq_true rfl, Nat.le_of_ble_eq_true rfl⟩) hS (fun H locs hG hS => ?_)
          have hG : mG D b (mset M (ad 5 4 0) (aL 64 (fun (a c : Nat) => if (a : Int) < 64 then (!(G v.toNat) a c) else SO a c))) s H := hG
          refine lv_iload hx hb dX4_stay_88 (lv_at hl 6 rfl) ?_
          refine lv_iload_n hx hb dX4_stay_90 rfl (lv_at hl 5 rfl) ?_
          refine m_isub hx hb dX4_stay_91 ?_
          refine lv_iconst (v := iI 1) hx hb dX4_stay_92 rfl ?_
          refine m_iadd hx hb dX4_stay_93 ?_
          refine lv_aload_n hx hb dX4_stay_94 rfl (lv_at hl 2 rfl) ?_
          refine m_get (ci := 4) (v := .ref (ad 6 0 0)) (C := RX4) (T := TX4) (N := 6) hx hb hts (by decide +kernel) hown K hG ((mset_ne (hTg.ne (k := 8) (k2 := 5) (by unfold live; omega) (by unfold live; omega) (by omega))).trans o1) rfl 3 (by decide) (by decide +kernel) rfl dX4_stay_95 ?_
          refine lv_aload hx hb dX4_stay_98 (lv_at hl 1 rfl) ?_
          refine lv_aload_n hx hb dX4_stay_100 rfl (lv_at hl 2 rfl) ?_
          refine m_get (ci := 4) (v := .ref (ad 4 4 0)) (C := RX4) (T := TX4) (N := 6) hx hb hts (by decide +kernel) hown K hG ((mset_ne (hTg.ne (k := 8) (k2 := 5) (by unfold live; omega) (by unfold live; omega) (by omega))).trans o1) rfl 2 (by decide) (by decide +kernel) rfl dX4_stay_101 ?_
          refine lv_iload_n hx hb dX4_stay_104 rfl (lv_at hl 5 rfl) ?_
          refine lv_iload hx hb dX4_stay_105 (lv_at hl 6 rfl) ?_
          refine m_calli (m_runV (a := ad 6 0 0) (As := [.ref (ad 0 t.toNat 0), .ref (ad 4 4 0), .int (iI u), .int (iI w)]) (rest := [.int (iI ((w - u) + 1))]) ⟨hx, hb, hml, hown, hts⟩ (c_X2_fewest l D b _ (ad 6 0 0) (ad 7 0 0) lf0 (fun k => ad 4 (5 + k) 0) (fun k => ad 5 (5 + k) 0) f0 g0 S0 (TaOk_keep oA0 (mset_ne (hTg.ne (k := 6) (k2 := 5) (by unfold live; omega) (by unfold live; omega) (by omega))) (mset_ne (hTg.ne (k := 7) (k2 := 5) (by unfold live; omega) (by unfold live; omega) (by omega))) (fun k q => mset_ne (hTg.ne (k := 4) (k2 := 5) (by unfold live; omega) (by unfold live; omega) (by omega))) (fun k q => mset_ne (hTg.ne (k := 5) (k2 := 5) (by unfold live; omega) (by unfold live; omega) (by omega)))) (ad 0 t.toNat 0) (ad 1 t.toNat 0) (ad 1 t.toNat 1) (ad 1 t.toNat 2) (ad 2 t.toNat 0) rfk1 (ad 3 t.toNat) (sp t.toNat) (nn t.toNat) (jj t.toNat) (vt t.toNat) (vw t.toNat) (vr t.toNat) (stF (sp t.toNat) (vt t.toNat) (vw t.toNat) (vr t.toNat) (nn t.toNat).toNat) (ThOk_fr hTk1 (fun a v h8 h9 _ => mset_ne (mne h8 o7 (h9 SO)))) hs0k1 hs1k1 (ad 4 4 0) (ad 5 4 0) (fun (a c : Nat) => if (a : Int) < 64 then (!(G v.toNat) a c) else SO a c) ((mset_ne (hTg.ne (k := 4) (k2 := 5) (by unfold live; omega) (by unfold live; omega) (by omega))).trans o6) mset_self (fun k q => hTg.ne (k := 5) (k2 := 5) (by unfold live; omega) (by unfold live; omega) (by omega)) u w (by omega) (by omega) (by omega) hRk1 nek1 (st_lnk ⟨⟨hs0k1, hs1k1⟩, ⟨hn0k1, hn1k1⟩, sok1, nek1⟩)) (cwV 4 hts gX4_stay_X2_fewest rfl rfl rfl (by decide +kernel) ⟨Nat.le_of_ble_eq_true rfl, Nat.le_of_ble_eq_true rfl⟩) K hG ((mset_ne (hTg.ne (k := 6) (k2 := 5) (by unfold live; omega) (by unfold live; omega) (by omega))).trans oA0.1) rfl rfl rfl hl.1 rfl (Nat.le_of_ble_eq_true rfl) dX4_stay_107 ⟨Nat.le_of_ble_eq_true rfl, Nat.le_of_ble_eq_true rfl⟩) hS (fun r6 M7 H locs hw8 hG hS => ?_)
          obtain ⟨z, f1, g1, S1, hz1, hz2, hz3, hz4, hz5⟩ := hw8
          rw [hz1]
          refine m_isub hx hb dX4_stay_110 ?_
          exact m_iret hx hb hr hlk hQ hG hS (Nat.le_of_ble_eq_true rfl) (Nat.le_of_ble_eq_true rfl) dX4_stay_111 (Or.inr ⟨by omega, Ov_tally (M := M) (Ov_out hO hTg) hTg hz4 hz5, (fun a q1 q2 => (hz5 a (hTg.big (by unfold live; omega) q1) (fun k q => hTg.big (by unfold live; omega) q1)).trans (mset_ne (hTg.big (by unfold live; omega) q1))), z, _, hz2, hz3, Or.inr ⟨hc37, (fun a c h8 h9 => by rw [if_pos (by omega)]), rfl⟩⟩)
      · refine lv_iconst (v := iI (-1)) hx hb dX4_stay_33 rfl ?_
        exact m_iret hx hb hr hlk hQ hG hS (Nat.le_of_ble_eq_true rfl) (Nat.le_of_ble_eq_true rfl) dX4_stay_34 (Or.inl ⟨by omega, rfl, rfl⟩)
    · refine m_callfq (m_runV (a := ad 8 0 0) (As := [.int (iI v)]) (rest := []) ⟨hx, hb, hml, hown, hts⟩ (c_X4_groundOf_n l D b _ ad nt ng sp nn jj vt vw vr G hO v hrv hqk2) (cwV 1 hts gX4_stay_X4_groundOf rfl rfl rfl (by decide +kernel) ⟨Nat.le_of_ble_eq_true rfl, Nat.le_of_ble_eq_true rfl⟩) K hG o1 rfl rfl rfl hl.1 rfl (Nat.le_of_ble_eq_true rfl) dX4_stay_9 ⟨Nat.le_of_ble_eq_true rfl, Nat.le_of_ble_eq_true rfl⟩) hS (fun H locs hG hS => ?_)
      refine W.eq (g2 := F0 m 12 ls [.null]) rfl ?_
      have hG : mG D b M s H := hG
      refine lv_astoreN (lv' := [(7, .null), (6, .ref (ad 0 t.toNat 0)), (0, .ref (ad 8 0 0)), (1, .int (iI t)), (2, .int (iI v)), (3, .int (iI u)), (4, .int (iI w)), (5, .int (iI x))]) hx hb dX4_stay_12 hl (by decide) rfl (fun ls hl => ?_)
      refine lv_aload hx hb dX4_stay_14 (lv_at hl 1 rfl) ?_
      refine lv_ifnull hx hb dX4_stay_16 ?_
      refine lv_aloadN hx hb dX4_stay_19 (lv_at hl 0 rfl) ?_
      refine lv_ifnullN (tgt := 33) hx hb dX4_stay_21 (by decide) ?_
      refine lv_iconst (v := iI (-1)) hx hb dX4_stay_33 rfl ?_
      exact m_iret hx hb hr hlk hQ hG hS (Nat.le_of_ble_eq_true rfl) (Nat.le_of_ble_eq_true rfl) dX4_stay_34 (Or.inl ⟨by omega, rfl, rfl⟩)
  · refine m_callfq (m_runV (a := ad 8 0 0) (As := [.int (iI t)]) (rest := []) ⟨hx, hb, hml, hown, hts⟩ (c_X4_thingOf_n l D b _ ad nt ng sp nn jj vt vw vr G hO t hrt hqk1) (cwV 1 hts gX4_stay_X4_thingOf rfl rfl rfl (by decide +kernel) ⟨Nat.le_of_ble_eq_true rfl, Nat.le_of_ble_eq_true rfl⟩) K hG o1 rfl rfl rfl hl.1 rfl (Nat.le_of_ble_eq_true rfl) dX4_stay_2 ⟨Nat.le_of_ble_eq_true rfl, Nat.le_of_ble_eq_true rfl⟩) hS (fun H locs hG hS => ?_)
    refine W.eq (g2 := F0 m 5 ls [.null]) rfl ?_
    have hG : mG D b M s H := hG
    refine lv_astoreN (lv' := [(6, .null), (0, .ref (ad 8 0 0)), (1, .int (iI t)), (2, .int (iI v)), (3, .int (iI u)), (4, .int (iI w)), (5, .int (iI x))]) hx hb dX4_stay_5 hl (by decide) rfl (fun ls hl => ?_)
    refine lv_aload_n hx hb dX4_stay_7 rfl (lv_at hl 1 rfl) ?_
    refine lv_iload_n hx hb dX4_stay_8 rfl (lv_at hl 3 rfl) ?_
    rcases Classical.em (0 ≤ v ∧ v < ng) with hqk9 | hqk9
    · obtain ⟨p1k9, p2k9⟩ := oG v.toNat (by omega)
      refine m_callfq (m_runV (a := ad 8 0 0) (As := [.int (iI v)]) (rest := []) ⟨hx, hb, hml, hown, hts⟩ (c_X4_groundOf_y l D b _ ad nt ng sp nn jj vt vw vr G hO v hrv hqk9) (cwV 1 hts gX4_stay_X4_groundOf rfl rfl rfl (by decide +kernel) ⟨Nat.le_of_ble_eq_true rfl, Nat.le_of_ble_eq_true rfl⟩) K hG o1 rfl rfl rfl hl.1 rfl (Nat.le_of_ble_eq_true rfl) dX4_stay_9 ⟨Nat.le_of_ble_eq_true rfl, Nat.le_of_ble_eq_true rfl⟩) hS (fun H locs hG hS => ?_)
      refine W.eq (g2 := F0 m 12 ls [.ref (ad 4 v.toNat 0)]) rfl ?_
      have hG : mG D b M s H := hG
      refine lv_astore (lv' := [(7, .ref (ad 4 v.toNat 0)), (6, .null), (0, .ref (ad 8 0 0)), (1, .int (iI t)), (2, .int (iI v)), (3, .int (iI u)), (4, .int (iI w)), (5, .int (iI x))]) hx hb dX4_stay_12 hl (by decide) rfl (fun ls hl => ?_)
      refine lv_aloadN hx hb dX4_stay_14 (lv_at hl 1 rfl) ?_
      refine lv_ifnullN (tgt := 33) hx hb dX4_stay_16 (by decide) ?_
      refine lv_iconst (v := iI (-1)) hx hb dX4_stay_33 rfl ?_
      exact m_iret hx hb hr hlk hQ hG hS (Nat.le_of_ble_eq_true rfl) (Nat.le_of_ble_eq_true rfl) dX4_stay_34 (Or.inl ⟨by omega, rfl, rfl⟩)
    · refine m_callfq (m_runV (a := ad 8 0 0) (As := [.int (iI v)]) (rest := []) ⟨hx, hb, hml, hown, hts⟩ (c_X4_groundOf_n l D b _ ad nt ng sp nn jj vt vw vr G hO v hrv hqk9) (cwV 1 hts gX4_stay_X4_groundOf rfl rfl rfl (by decide +kernel) ⟨Nat.le_of_ble_eq_true rfl, Nat.le_of_ble_eq_true rfl⟩) K hG o1 rfl rfl rfl hl.1 rfl (Nat.le_of_ble_eq_true rfl) dX4_stay_9 ⟨Nat.le_of_ble_eq_true rfl, Nat.le_of_ble_eq_true rfl⟩) hS (fun H locs hG hS => ?_)
      refine W.eq (g2 := F0 m 12 ls [.null]) rfl ?_
      have hG : mG D b M s H := hG
      refine lv_astoreN (lv' := [(7, .null), (6, .null), (0, .ref (ad 8 0 0)), (1, .int (iI t)), (2, .int (iI v)), (3, .int (iI u)), (4, .int (iI w)), (5, .int (iI x))]) hx hb dX4_stay_12 hl (by decide) rfl (fun ls hl => ?_)
      refine lv_aloadN hx hb dX4_stay_14 (lv_at hl 1 rfl) ?_
      refine lv_ifnullN (tgt := 33) hx hb dX4_stay_16 (by decide) ?_
      refine lv_iconst (v := iI (-1)) hx hb dX4_stay_33 rfl ?_
      exact m_iret hx hb hr hlk hQ hG hS (Nat.le_of_ble_eq_true rfl) (Nat.le_of_ble_eq_true rfl) dX4_stay_34 (Or.inl ⟨by omega, rfl, rfl⟩)

