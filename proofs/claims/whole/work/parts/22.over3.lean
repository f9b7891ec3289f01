theorem siF_cong {vt vw vr wt ww wr : Nat → Int} : ∀ {n : Nat}, (∀ k, k < n → vt k = wt k ∧ vw k = ww k ∧ vr k = wr k) → siF vt vw vr n = siF wt ww wr n
  | 0, _ => rfl
  | n + 1, h => by
    obtain ⟨h1, h2, h3⟩ := h n (Nat.lt_succ_self n)
    rw [siF, siF, siF_cong (fun k hk => h k (Nat.lt_succ_of_lt hk)), h1, h2, h3]
theorem stF_cong {s : Int} {vt vw vr wt ww wr : Nat → Int} {n : Nat} (h : ∀ k, k < n → vt k = wt k ∧ vw k = ww k ∧ vr k = wr k) : stF s vt vw vr n = stF s wt ww wr n := by unfold stF; rw [siF_cong h]
theorem stF_upn {s n : Int} {vt vw vr : Nat → Int} {a c e : Int} : stF s (va_up vt n.toNat a) (va_up vw n.toNat c) (va_up vr n.toNat e) n.toNat = stF s vt vw vr n.toNat := stF_cong (fun k hk => by rw [va_up_ne _ _ (by omega), va_up_ne _ _ (by omega), va_up_ne _ _ (by omega)]; exact ⟨rfl, rfl, rfl⟩)
/-- a drawn ground -/
def drN (S : Nat → Nat → Bool) (u v w : Int) : Nat → Nat → Bool := fun a c => if u / 64 ≤ (a : Int) ∧ (a : Int) ≤ v / 64 then (if w = 0 then (S a c && !decide (u % 64 ≤ (c : Int) ∧ (c : Int) ≤ v % 64)) else (S a c || decide (u % 64 ≤ (c : Int) ∧ (c : Int) ≤ v % 64))) else S a c
theorem Ov_box {M : mM} {ad : Nat → Nat → Nat → Nat} {nt ng : Int} {sp nn jj : Nat → Int} {vt vw vr : Nat → Nat → Int} {G : Nat → Nat → Nat → Bool} (hO : OvOk M ad nt ng sp nn jj vt vw vr G) {q : Nat} (hq : M q = none) {v : mE} : OvOk (mset M q v) ad nt ng sp nn jj vt vw vr G := by
  have kp : ∀ {a : Nat} {w : mE}, M a = some w → mset M q v a = M a := fun h => mset_ne (mfresh hq h)
  obtain ⟨o1, ⟨tf0, o2, o3, o3n⟩, ⟨gf0, o4, o5⟩, oT, oG, ⟨SO, o6, o7⟩, ⟨lf, f, g, S, oA⟩, b0⟩ := hO
  refine ⟨(kp o1).trans o1, ⟨tf0, (kp o2).trans o2, o3, o3n⟩, ⟨gf0, (kp o4).trans o4, o5⟩, fun c hc => ?_, fun c hc => ⟨(kp (oG c hc).1).trans (oG c hc).1, (kp (oG c hc).2).trans (oG c hc).2⟩, ⟨SO, (kp o6).trans o6, (kp o7).trans o7⟩, ⟨lf, f, g, S, TaOk_keep oA (kp oA.1) (kp oA.2.1) (fun k q => kp (oA.2.2.2.1 k q)) (fun k q => kp (oA.2.2.2.2.1 k q))⟩, b0⟩
  obtain ⟨⟨rf2, h2⟩, h3⟩ := oT c hc
  exact ⟨⟨rf2, ThOk_keep h2 (kp h2.1) (kp h2.2.1) (kp h2.2.2.1) (kp h2.2.2.2.1) (kp h2.2.2.2.2.1) (fun t q => kp (h2.2.2.2.2.2.2.1 t q))⟩, h3⟩
theorem Ov_gr {M : mM} {ad : Nat → Nat → Nat → Nat} {nt ng : Int} {sp nn jj : Nat → Int} {vt vw vr : Nat → Nat → Int} {G : Nat → Nat → Nat → Bool} {tg : Nat → Nat × Nat × Nat} (hO : OvOk M ad nt ng sp nn jj vt vw vr G) (hT : Tg tg ad nt ng) {i : Nat} (hi : (i : Int) < ng) {T : Nat → Nat → Bool} : OvOk (mset M (ad 5 i 0) (aL 64 T)) ad nt ng sp nn jj vt vw vr (va_up G i T) := by
  obtain ⟨o1, ⟨tf0, o2, o3, o3n⟩, ⟨gf0, o4, o5⟩, oT, oG, ⟨SO, o6, o7⟩, ⟨lf, f, g, S, oA⟩, ⟨b1, b2, b3, b4⟩⟩ := id hO
  have ne : ∀ k c t, live nt ng k c t → ¬ (k = 5 ∧ c = i) → ad k c t ≠ ad 5 i 0 := fun k c t hl hn => hT.ne hl (by unfold live; omega) (by omega)
  refine Ov_rows hO hT (fun c hc => ?_) ((mset_ne (ne 5 4 0 (by unfold live; omega) (by omega))).trans o7) (TaOk_keep oA (mset_ne (ne 6 0 0 (by unfold live; omega) (by omega))) (mset_ne (ne 7 0 0 (by unfold live; omega) (by omega))) (fun k q => mset_ne (ne 4 (5 + k) 0 (by unfold live; omega) (by omega))) (fun k q => mset_ne (ne 5 (5 + k) 0 (by unfold live; omega) (by omega)))) (fun k c t hl h5 _ => mset_ne (ne k c t hl (by omega)))
  by_cases g9 : c = i
  · subst g9; rw [mset_self, va_up_self]
  · rw [mset_ne (ne 5 c 0 (by unfold live; omega) (by omega)), va_up_ne _ _ g9]; exact (oG c hc).2
theorem Ov_out {M : mM} {ad : Nat → Nat → Nat → Nat} {nt ng : Int} {sp nn jj : Nat → Int} {vt vw vr : Nat → Nat → Int} {G : Nat → Nat → Nat → Bool} {tg : Nat → Nat × Nat × Nat} (hO : OvOk M ad nt ng sp nn jj vt vw vr G) (hT : Tg tg ad nt ng) {T : Nat → Nat → Bool} : OvOk (mset M (ad 5 4 0) (aL 64 T)) ad nt ng sp nn jj vt vw vr G := by
  obtain ⟨o1, ⟨tf0, o2, o3, o3n⟩, ⟨gf0, o4, o5⟩, oT, oG, ⟨SO, o6, o7⟩, ⟨lf, f, g, S, oA⟩, ⟨b1, b2, b3, b4⟩⟩ := id hO
  have ne : ∀ k c t, live nt ng k c t → ¬ (k = 5 ∧ c = 4) → ad k c t ≠ ad 5 4 0 := fun k c t hl hn => hT.ne hl (by unfold live; omega) (by omega)
  exact Ov_rows hO hT (fun c hc => (mset_ne (ne 5 c 0 (by unfold live; omega) (by omega))).trans (oG c hc).2) mset_self (TaOk_keep oA (mset_ne (ne 6 0 0 (by unfold live; omega) (by omega))) (mset_ne (ne 7 0 0 (by unfold live; omega) (by omega))) (fun k q => mset_ne (ne 4 (5 + k) 0 (by unfold live; omega) (by omega))) (fun k q => mset_ne (ne 5 (5 + k) 0 (by unfold live; omega) (by omega)))) (fun k c t hl h5 _ => mset_ne (ne k c t hl (by omega)))

set_option maxHeartbeats 4000000 in
set_option maxRecDepth 100000 in
theorem c_X4_see (l : Launch) (D : va_G) (b : Nat) (M : mM) (ad : Nat → Nat → Nat → Nat) (nt ng : Int) (sp nn jj : Nat → Int) (vt vw vr : Nat → Nat → Int) (G : Nat → Nat → Nat → Bool) (hO : OvOk M ad nt ng sp nn jj vt vw vr G) (tg : Nat → Nat × Nat × Nat) (hTg : Tg tg ad nt ng) (t u v w : Int) (hrt : rg t) (hru : rg u) (hrv : rg v) (hrw : rg w) : Met l yX4_see wsX4_see ({ frames := 4, cells := 0, slots := 0, locals := 81 } : Room) (mPc [.ref (ad 8 0 0), .int (iI t), .int (iI u), .int (iI v), .int (iI w)] D b M) (mQi D b (fun r M1 => (¬ ((0 ≤ t ∧ t < nt) ∧ (0 ≤ u ∧ u < 80) ∧ (0 ≤ v ∧ v < 4096) ∧ (0 ≤ w ∧ w < 64)) ∧ r = iI (-1) ∧ M1 = M) ∨ (((0 ≤ t ∧ t < nt) ∧ (0 ≤ u ∧ u < 80) ∧ (0 ≤ v ∧ v < 4096) ∧ (0 ≤ w ∧ w < 64)) ∧ frB tg M M1 ∧ ((12 ≤ nn t.toNat ∧ r = iI (-1) ∧ M1 = M) ∨ (nn t.toNat < 12 ∧ (∀ t2 : Nat, t2 < 80 → neB (stF (sp t.toNat) (va_up (vt t.toNat) (nn t.toNat).toNat u) (va_up (vw t.toNat) (nn t.toNat).toNat v) (va_up (vr t.toNat) (nn t.toNat).toNat w) (nn t.toNat + 1).toNat) t2) ∧ r = iI (nn t.toNat + 1) ∧ OvOk M1 ad nt ng sp (va_up nn t.toNat (nn t.toNat + 1)) jj (va_up vt t.toNat (va_up (vt t.toNat) (nn t.toNat).toNat u)) (va_up vw t.toNat (va_up (vw t.toNat) (nn t.toNat).toNat v)) (va_up vr t.toNat (va_up (vr t.toNat) (nn t.toNat).toNat w)) G) ∨ (nn t.toNat < 12 ∧ ¬ (∀ t2 : Nat, t2 < 80 → neB (stF (sp t.toNat) (va_up (vt t.toNat) (nn t.toNat).toNat u) (va_up (vw t.toNat) (nn t.toNat).toNat v) (va_up (vr t.toNat) (nn t.toNat).toNat w) (nn t.toNat + 1).toNat) t2) ∧ r = iI (-1) ∧ OvOk M1 ad nt ng sp nn (va_up jj t.toNat (jj t.toNat + 1)) (va_up vt t.toNat (va_up (vt t.toNat) (nn t.toNat).toNat u)) (va_up vw t.toNat (va_up (vw t.toNat) (nn t.toNat).toNat v)) (va_up vr t.toNat (va_up (vr t.toNat) (nn t.toNat).toNat w)) G))))) 0 0 (mF b) := by
  refine m_met (cc := cX4_see) (maxL := 6) (ret := (some .int)) (by decide) rfl (Nat.le_of_ble_eq_true rfl) ?_
  intro p e s m args below meth c Q ls hx hb hml hr hts hown hlk hnm hQ K hG hS hl
  have hown : s.vm.findClass RX4 = some m.cls := hown
  have hl : lv_has ls 6 [(0, .ref (ad 8 0 0)), (1, .int (iI t)), (2, .int (iI u)), (3, .int (iI v)), (4, .int (iI w))] := hl
  obtain ⟨o1, ⟨tf0, o2, o3, o3n⟩, ⟨gf0, o4, o5⟩, oT, oG, ⟨SO, o6, o7⟩, oA, ⟨b1, b2, b3, b4⟩⟩ := id hO
  refine lv_aload_n hx hb dX4_see_0 rfl (lv_at hl 0 rfl) ?_
  refine lv_iload_n hx hb dX4_see_1 rfl (lv_at hl 1 rfl) ?_
  rcases Classical.em (0 ≤ t ∧ t < nt) with hqk1 | hqk1
  · obtain ⟨⟨rfk1, hTk1⟩, ⟨hs0k1, hs1k1⟩, ⟨hn0k1, hn1k1⟩, sok1, nek1⟩ := oT t.toNat (by omega)
    have hRk1 : in63 (stF (sp t.toNat) (vt t.toNat) (vw t.toNat) (vr t.toNat) (nn t.toNat).toNat) := stF_rg hs0k1 (fun k hk => (sok1 k (by omega)).2)
    obtain ⟨t1k1, t2k1, t3k1, t4k1, t5k1, t6k1, hBk1, -, -⟩ := id hTk1
    refine m_callfq (m_runV (a := ad 8 0 0) (As := [.int (iI t)]) (rest := []) ⟨hx, hb, hml, hown, hts⟩ (c_X4_thingOf_y l D b _ ad nt ng sp nn jj vt vw vr G hO t hrt hqk1) (cwV 1 hts gX4_see_X4_thingOf rfl rfl rfl (by decide +kernel) ⟨Nat.le_of_ble_eq_true rfl, Nat.le_of_ble_eq_true rfl⟩) K hG o1 rfl rfl rfl hl.1 rfl (Nat.le_of_ble_eq_true rfl) dX4_see_2 ⟨Nat.le_of_ble_eq_true rfl, Nat.le_of_ble_eq_true rfl⟩) hS (fun H locs hG hS => ?_)
    refine W.eq (g2 := F0 m 5 ls [.ref (ad 0 t.toNat 0)]) rfl ?_
    have hG : mG D b M s H := hG
    refine lv_astore (lv' := [(5, .ref (ad 0 t.toNat 0)), (0, .ref (ad 8 0 0)), (1, .int (iI t)), (2, .int (iI u)), (3, .int (iI v)), (4, .int (iI w))]) hx hb dX4_see_5 hl (by decide) rfl (fun ls hl => ?_)
    refine lv_aload hx hb dX4_see_7 (lv_at hl 0 rfl) ?_
    refine lv_ifnull hx hb dX4_see_9 ?_
    refine lv_iload_n hx hb dX4_see_12 rfl (lv_at hl 3 rfl) ?_
    refine m_callfi (m_runS (As := [.int (iI u)]) (rest := []) ⟨hx, hb, hml, hown, hts⟩ (c_X4_isTick l D b _ u hru) (va_cwS 1 hts gX4_see_X4_isTick rfl rfl rfl (by decide +kernel) ⟨Nat.le_of_ble_eq_true rfl, Nat.le_of_ble_eq_true rfl⟩) K hG rfl hl.1 rfl (Nat.le_of_ble_eq_true rfl) dX4_see_13 ⟨Nat.le_of_ble_eq_true rfl, Nat.le_of_ble_eq_true rfl⟩) hS (fun H locs hG hS => ?_)
    have hG : mG D b M s H := hG
    refine m_ifb_eq (tgt := 38) hx hb dX4_see_16 (by decide) (fun c16 => ?_) (fun c16 => ?_)
    · refine lv_iconst (v := iI (-1)) hx hb dX4_see_38 rfl ?_
      exact m_iret hx hb hr hlk hQ hG hS (Nat.le_of_ble_eq_true rfl) (Nat.le_of_ble_eq_true rfl) dX4_see_39 (Or.inl ⟨by omega, rfl, rfl⟩)
    · refine lv_iload_n hx hb dX4_see_19 rfl (lv_at hl 4 rfl) ?_
      refine m_callfi (m_runS (As := [.int (iI v)]) (rest := []) ⟨hx, hb, hml, hown, hts⟩ (c_X4_isPlace l D b _ v hrv) (va_cwS 1 hts gX4_see_X4_isPlace rfl rfl rfl (by decide +kernel) ⟨Nat.le_of_ble_eq_true rfl, Nat.le_of_ble_eq_true rfl⟩) K hG rfl hl.1 rfl (Nat.le_of_ble_eq_true rfl) dX4_see_20 ⟨Nat.le_of_ble_eq_true rfl, Nat.le_of_ble_eq_true rfl⟩) hS (fun H locs hG hS => ?_)
      have hG : mG D b M s H := hG
      refine m_ifb_eq (tgt := 38) hx hb dX4_see_23 (by decide) (fun c23 => ?_) (fun c23 => ?_)
      · refine lv_iconst (v := iI (-1)) hx hb dX4_see_38 rfl ?_
        exact m_iret hx hb hr hlk hQ hG hS (Nat.le_of_ble_eq_true rfl) (Nat.le_of_ble_eq_true rfl) dX4_see_39 (Or.inl ⟨by omega, rfl, rfl⟩)
      · refine lv_iload hx hb dX4_see_26 (lv_at hl 5 rfl) ?_
        refine m_if_lt (tgt := 38) hx hb dX4_see_28 (by decide) hrw (fun c28 => ?_) (fun c28 => ?_)
        · refine lv_iconst (v := iI (-1)) hx hb dX4_see_38 rfl ?_
          exact m_iret hx hb hr hlk hQ hG hS (Nat.le_of_ble_eq_true rfl) (Nat.le_of_ble_eq_true rfl) dX4_see_39 (Or.inl ⟨by omega, rfl, rfl⟩)
        · refine lv_iload hx hb dX4_see_31 (lv_at hl 5 rfl) ?_
          refine lv_bipush (v := iI 64) hx hb dX4_see_33 (by decide) ?_
          refine m_icmp_lt (tgt := 40) hx hb dX4_see_35 (by decide) hrw ⟨by omega, by omega⟩ (fun c35 => ?_) (fun c35 => ?_)
          · refine lv_aload hx hb dX4_see_40 (lv_at hl 0 rfl) ?_
            refine lv_iload_n hx hb dX4_see_42 rfl (lv_at hl 3 rfl) ?_
            refine lv_iload_n hx hb dX4_see_43 rfl (lv_at hl 4 rfl) ?_
            refine lv_iload hx hb dX4_see_44 (lv_at hl 5 rfl) ?_
            refine m_calli (m_runV (a := ad 0 t.toNat 0) (As := [.int (iI u), .int (iI v), .int (iI w)]) (rest := []) ⟨hx, hb, hml, hown, hts⟩ (c_X3_takeSight l D b _ (ad 0 t.toNat 0) (ad 1 t.toNat 0) (ad 1 t.toNat 1) (ad 1 t.toNat 2) (ad 2 t.toNat 0) rfk1 (ad 3 t.toNat) (sp t.toNat) (nn t.toNat) (jj t.toNat) (vt t.toNat) (vw t.toNat) (vr t.toNat) (stF (sp t.toNat) (vt t.toNat) (vw t.toNat) (vr t.toNat) (nn t.toNat).toNat) hTk1 hn0k1 hn1k1 hs0k1 hs1k1 sok1 u v w (by omega) (by omega) (by omega) (by omega) (by omega) (by omega)) (cwV 3 hts gX4_see_X3_takeSight rfl rfl rfl (by decide +kernel) ⟨Nat.le_of_ble_eq_true rfl, Nat.le_of_ble_eq_true rfl⟩) K hG t1k1 rfl rfl rfl hl.1 rfl (Nat.le_of_ble_eq_true rfl) dX4_see_46 ⟨Nat.le_of_ble_eq_true rfl, Nat.le_of_ble_eq_true rfl⟩) hS (fun r2 M3 H locs hw4 hG hS => ?_)
            obtain ⟨hfr, hw3⟩ := hw4
            rcases hw3 with ⟨w1, w2, w3⟩ | ⟨w1, w2, w3, w4⟩ | ⟨w1, w2, w3, w4⟩
            · rw [w2]
              rw [w3] at hG
              refine m_if_eq (tgt := 60) hx hb dX4_see_49 (by decide) ⟨by decide, by decide⟩ (fun c49 => ?_) (fun c49 => absurd c49 (by decide))
              refine lv_iconst (v := iI (-1)) hx hb dX4_see_60 rfl ?_
              exact m_iret hx hb hr hlk hQ hG hS (Nat.le_of_ble_eq_true rfl) (Nat.le_of_ble_eq_true rfl) dX4_see_61 (Or.inr ⟨by omega, (fun a _ _ => rfl), Or.inl ⟨w1, rfl, rfl⟩⟩)
            · rw [w3]
              refine m_if_eq (tgt := 60) hx hb dX4_see_49 (by decide) ⟨by decide, by decide⟩ (fun c49 => absurd c49 (by decide)) (fun c49 => ?_)
              refine lv_aload hx hb dX4_see_52 (lv_at hl 0 rfl) ?_
              refine m_callfi (m_runV (a := ad 0 t.toNat 0) (As := []) (rest := []) ⟨hx, hb, hml, hown, hts⟩ (c_X3_sights l D b _ _ _ _ _ _ _ _ _ _ _ _ _ _ _ w4) (cwV 0 hts gX4_see_X3_sights rfl rfl rfl (by decide +kernel) ⟨Nat.le_of_ble_eq_true rfl, Nat.le_of_ble_eq_true rfl⟩) K hG w4.1 rfl rfl rfl hl.1 rfl (Nat.le_of_ble_eq_true rfl) dX4_see_54 ⟨Nat.le_of_ble_eq_true rfl, Nat.le_of_ble_eq_true rfl⟩) hS (fun H locs hG hS => ?_)
              have hG : mG D b M3 s H := hG
              refine lv_goto (tgt := 61) hx hb dX4_see_57 (by decide) ?_
              exact m_iret hx hb hr hlk hQ hG hS (Nat.le_of_ble_eq_true rfl) (Nat.le_of_ble_eq_true rfl) dX4_see_61 (Or.inr ⟨by omega, (fun a q1 _ => hfr a (hTg.big (by unfold live; omega) q1) (hTg.big (by unfold live; omega) q1) (hTg.big (by unfold live; omega) q1) (hTg.big (by unfold live; omega) q1) (fun t2 q2 => hTg.big (by unfold live; omega) q1)), Or.inr (Or.inl ⟨w1, w2, rfl, (by have h9 := Ov_th hO hTg (i := t.toNat) (by omega) w4 ⟨⟨hs0k1, hs1k1⟩, ⟨by omega, by omega⟩, (sOk_up sok1 hn0k1 ⟨by omega, by omega⟩ ⟨by omega, by omega⟩ ⟨by omega, by omega⟩), w2⟩ hfr; rw [va_upid jj] at h9; exact h9)⟩)⟩)
            · rw [w3]
              refine m_if_eq (tgt := 60) hx hb dX4_see_49 (by decide) ⟨by decide, by decide⟩ (fun c49 => ?_) (fun c49 => absurd c49 (by decide))
              refine lv_iconst (v := iI (-1)) hx hb dX4_see_60 rfl ?_
              exact m_iret hx hb hr hlk hQ hG hS (Nat.le_of_ble_eq_true rfl) (Nat.le_of_ble_eq_true rfl) dX4_see_61 (Or.inr ⟨by omega, (fun a q1 _ => hfr a (hTg.big (by unfold live; omega) q1) (hTg.big (by unfold live; omega) q1) (hTg.big (by unfold live; omega) q1) (hTg.big (by unfold live; omega) q1) (fun t2 q2 => hTg.big (by unfold live; omega) q1)), Or.inr (Or.inr ⟨w1, w2, rfl, (by have h9 := Ov_th hO hTg (i := t.toNat) (by omega) w4 ⟨⟨hs0k1, hs1k1⟩, ⟨by omega, by omega⟩, (sOk_le (sOk_up sok1 hn0k1 ⟨by omega, by omega⟩ ⟨by omega, by omega⟩ ⟨by omega, by omega⟩) (by omega)), (by rw [stF_upn]; exact nek1)⟩ hfr; rw [va_upid nn] at h9; exact h9)⟩)⟩)
          · refine lv_iconst (v := iI (-1)) hx hb dX4_see_38 rfl ?_
            exact m_iret hx hb hr hlk hQ hG hS (Nat.le_of_ble_eq_true rfl) (Nat.le_of_ble_eq_true rfl) dX4_see_39 (Or.inl ⟨by omega, rfl, rfl⟩)
  · refine m_callfq (m_runV (a := ad 8 0 0) (As := [.int (iI t)]) (rest := []) ⟨hx, hb, hml, hown, hts⟩ (c_X4_thingOf_n l D b _ ad nt ng sp nn jj vt vw vr G hO t hrt hqk1) (cwV 1 hts gX4_see_X4_thingOf rfl rfl rfl (by decide +kernel) ⟨Nat.le_of_ble_eq_true rfl, Nat.le_of_ble_eq_true rfl⟩) K hG o1 rfl rfl rfl hl.1 rfl (Nat.le_of_ble_eq_true rfl) dX4_see_2 ⟨Nat.le_of_ble_eq_true rfl, Nat.le_of_ble_eq_true rfl⟩) hS (fun H locs hG hS => ?_)
    refine W.eq (g2 := F0 m 5 ls [.null]) rfl ?_
    have hG : mG D b M s H := hG
    refine lv_astoreN (lv' := [(5, .null), (0, .ref (ad 8 0 0)), (1, .int (iI t)), (2, .int (iI u)), (3, .int (iI v)), (4, .int (iI w))]) hx hb dX4_see_5 hl (by decide) rfl (fun ls hl => ?_)
    refine lv_aloadN hx hb dX4_see_7 (lv_at hl 0 rfl) ?_
    refine lv_ifnullN (tgt := 38) hx hb dX4_see_9 (by decide) ?_
    refine lv_iconst (v := iI (-1)) hx hb dX4_see_38 rfl ?_
    exact m_iret hx hb hr hlk hQ hG hS (Nat.le_of_ble_eq_true rfl) (Nat.le_of_ble_eq_true rfl) dX4_see_39 (Or.inl ⟨by omega, rfl, rfl⟩)

