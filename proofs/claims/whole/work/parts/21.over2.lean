/-- the keys in use -/
def live (nt ng : Int) (k i t : Nat) : Prop := (k = 0 ∧ (i : Int) < nt ∧ t = 0) ∨ (k = 1 ∧ (i : Int) < nt ∧ t < 3) ∨ (k = 2 ∧ (i : Int) < nt ∧ t = 0) ∨ (k = 3 ∧ (i : Int) < nt ∧ t < 80) ∨ ((k = 4 ∨ k = 5) ∧ ((i : Int) < ng ∨ (4 ≤ i ∧ i < 86)) ∧ t = 0) ∨ ((6 ≤ k ∧ k ≤ 10) ∧ i = 0 ∧ t = 0)
def Tg (tg : Nat → Nat × Nat × Nat) (ad : Nat → Nat → Nat → Nat) (nt ng : Int) : Prop := ∀ k i t, live nt ng k i t → tg (ad k i t) = (k, i, t)
theorem Tg.ne {tg : Nat → Nat × Nat × Nat} {ad : Nat → Nat → Nat → Nat} {nt ng : Int} (h : Tg tg ad nt ng) {k i t k2 i2 t2 : Nat} (h1 : live nt ng k i t) (h2 : live nt ng k2 i2 t2) (hn : ¬ (k = k2 ∧ i = i2 ∧ t = t2)) : ad k i t ≠ ad k2 i2 t2 := by
  intro z
  have e := (h k i t h1).symm.trans ((congrArg tg z).trans (h k2 i2 t2 h2))
  simp only [Prod.mk.injEq] at e
  exact hn e
theorem Tg.big {tg : Nat → Nat × Nat × Nat} {ad : Nat → Nat → Nat → Nat} {nt ng : Int} (h : Tg tg ad nt ng) {k i t a : Nat} (h1 : live nt ng k i t) (ha : 11 ≤ (tg a).1) : a ≠ ad k i t := by
  intro z
  rw [z, h k i t h1] at ha
  have : 11 ≤ k := ha
  unfold live at h1
  omega
theorem ThOk_keep {M M1 : mM} {th tk wh ra rc : Nat} {rf : Nat → Option Nat} {bx : Nat → Nat} {sp n j : Int} {vt vw vr : Nat → Int} {F : Nat → Nat → Int} (h : ThOk M th tk wh ra rc rf bx sp n j vt vw vr F) (k1 : M1 th = M th) (k2 : M1 tk = M tk) (k3 : M1 wh = M wh) (k4 : M1 ra = M ra) (k5 : M1 rc = M rc) (k6 : ∀ t, t < 80 → M1 (bx t) = M (bx t)) : ThOk M1 th tk wh ra rc rf bx sp n j vt vw vr F := by
  obtain ⟨h1, h2, h3, h4, h5, h6, h7, h8, h9⟩ := h
  exact ⟨k1.trans h1, k2.trans h2, k3.trans h3, k4.trans h4, k5.trans h5, h6, fun t q => (k6 t q).trans (h7 t q), h8, h9⟩
theorem TaOk_keep {M M1 : mM} {ta lv : Nat} {lf : Nat → Option Nat} {pk rk : Nat → Nat} {f g : Int} {S : Nat → Nat → Nat → Bool} (h : TaOk M ta lv lf pk rk f g S) (k1 : M1 ta = M ta) (k2 : M1 lv = M lv) (k3 : ∀ k, k < 81 → M1 (pk k) = M (pk k)) (k4 : ∀ k, k < 81 → M1 (rk k) = M (rk k)) : TaOk M1 ta lv lf pk rk f g S := by
  obtain ⟨h1, h2, h3, h4, h5, h6⟩ := h
  exact ⟨k1.trans h1, k2.trans h2, h3, fun k q => (k3 k q).trans (h4 k q), fun k q => (k4 k q).trans (h5 k q), h6⟩
section OV
variable {M M1 : mM} {ad : Nat → Nat → Nat → Nat} {nt ng : Int} {sp nn jj : Nat → Int} {vt vw vr : Nat → Nat → Int} {G : Nat → Nat → Nat → Bool} {tg : Nat → Nat × Nat × Nat}
/-- one thing changes -/
theorem Ov_th (hO : OvOk M ad nt ng sp nn jj vt vw vr G) (hT : Tg tg ad nt ng) {i : Nat} (hi : (i : Int) < nt) {n1 j1 : Int} {wt ww wr : Nat → Int} {rf : Nat → Option Nat} (hth : ThOk M1 (ad 0 i 0) (ad 1 i 0) (ad 1 i 1) (ad 1 i 2) (ad 2 i 0) rf (ad 3 i) (sp i) n1 j1 wt ww wr (stF (sp i) wt ww wr n1.toNat)) (hgd : thGood (sp i) n1 wt ww wr)
    (hf : ∀ a, a ≠ ad 0 i 0 → a ≠ ad 1 i 0 → a ≠ ad 1 i 1 → a ≠ ad 1 i 2 → (∀ t, t < 80 → a ≠ ad 3 i t) → M1 a = M a) : OvOk M1 ad nt ng sp (va_up nn i n1) (va_up jj i j1) (va_up vt i wt) (va_up vw i ww) (va_up vr i wr) G := by
  obtain ⟨o1, ⟨tf0, o2, o3, o3n⟩, ⟨gf0, o4, o5⟩, oT, oG, ⟨SO, o6, o7⟩, ⟨lf, f, g, S, oA⟩, ⟨b1, b2, b3, b4⟩⟩ := hO
  have kp : ∀ k c t, live nt ng k c t → ¬ (k = 0 ∧ c = i ∨ k = 1 ∧ c = i ∨ k = 3 ∧ c = i) → M1 (ad k c t) = M (ad k c t) := by
    intro k c t hl hn
    exact hf _ (hT.ne hl (by unfold live; omega) (by omega)) (hT.ne hl (by unfold live; omega) (by omega)) (hT.ne hl (by unfold live; omega) (by omega)) (hT.ne hl (by unfold live; omega) (by omega)) (fun t2 ht2 => hT.ne hl (by unfold live; omega) (by omega))
  refine ⟨(kp 8 0 0 (by unfold live; omega) (by omega)).trans o1, ⟨tf0, (kp 9 0 0 (by unfold live; omega) (by omega)).trans o2, o3, o3n⟩, ⟨gf0, (kp 10 0 0 (by unfold live; omega) (by omega)).trans o4, o5⟩, fun c hc => ?_, fun c hc => ⟨(kp 4 c 0 (by unfold live; omega) (by omega)).trans (oG c hc).1, (kp 5 c 0 (by unfold live; omega) (by omega)).trans (oG c hc).2⟩, ⟨SO, (kp 4 4 0 (by unfold live; omega) (by omega)).trans o6, (kp 5 4 0 (by unfold live; omega) (by omega)).trans o7⟩, ⟨lf, f, g, S, TaOk_keep oA (kp 6 0 0 (by unfold live; omega) (by omega)) (kp 7 0 0 (by unfold live; omega) (by omega)) (fun k q => kp 4 (5 + k) 0 (by unfold live; omega) (by omega)) (fun k q => kp 5 (5 + k) 0 (by unfold live; omega) (by omega))⟩, ⟨b1, b2, b3, b4⟩⟩
  by_cases hci : c = i
  · subst hci
    simp only [va_up_self]
    exact ⟨⟨rf, hth⟩, hgd⟩
  · obtain ⟨⟨rf2, h2⟩, h3⟩ := oT c hc
    rw [va_up_ne _ _ hci, va_up_ne _ _ hci, va_up_ne _ _ hci, va_up_ne _ _ hci, va_up_ne _ _ hci]
    exact ⟨⟨rf2, ThOk_keep h2 (kp 0 c 0 (by unfold live; omega) (by omega)) (kp 1 c 0 (by unfold live; omega) (by omega)) (kp 1 c 1 (by unfold live; omega) (by omega)) (kp 1 c 2 (by unfold live; omega) (by omega)) (kp 2 c 0 (by unfold live; omega) (by omega)) (fun t q => kp 3 c t (by unfold live; omega) (by omega))⟩, h3⟩
/-- rows of places change: outside, a ground, the tally -/
theorem Ov_rows (hO : OvOk M ad nt ng sp nn jj vt vw vr G) (hT : Tg tg ad nt ng) {G1 : Nat → Nat → Nat → Bool} {SO : Nat → Nat → Bool} {lf : Nat → Option Nat} {f g : Int} {S : Nat → Nat → Nat → Bool} (hg : ∀ i : Nat, (i : Int) < ng → M1 (ad 5 i 0) = some (aL 64 (G1 i))) (ho : M1 (ad 5 4 0) = some (aL 64 SO)) (ht : TaOk M1 (ad 6 0 0) (ad 7 0 0) lf (fun k => ad 4 (5 + k) 0) (fun k => ad 5 (5 + k) 0) f g S)
    (kp : ∀ k c t, live nt ng k c t → k ≠ 5 → k ≠ 6 → M1 (ad k c t) = M (ad k c t)) : OvOk M1 ad nt ng sp nn jj vt vw vr G1 := by
  obtain ⟨o1, ⟨tf0, o2, o3, o3n⟩, ⟨gf0, o4, o5⟩, oT, oG, ⟨SO0, o6, o7⟩, -, ⟨b1, b2, b3, b4⟩⟩ := hO
  refine ⟨(kp 8 0 0 (by unfold live; omega) (by omega) (by omega)).trans o1, ⟨tf0, (kp 9 0 0 (by unfold live; omega) (by omega) (by omega)).trans o2, o3, o3n⟩, ⟨gf0, (kp 10 0 0 (by unfold live; omega) (by omega) (by omega)).trans o4, o5⟩, fun c hc => ?_, fun c hc => ⟨(kp 4 c 0 (by unfold live; omega) (by omega) (by omega)).trans (oG c hc).1, hg c hc⟩, ⟨SO, (kp 4 4 0 (by unfold live; omega) (by omega) (by omega)).trans o6, ho⟩, ⟨lf, f, g, S, ht⟩, ⟨b1, b2, b3, b4⟩⟩
  obtain ⟨⟨rf2, h2⟩, h3⟩ := oT c hc
  exact ⟨⟨rf2, ThOk_keep h2 (kp 0 c 0 (by unfold live; omega) (by omega) (by omega)) (kp 1 c 0 (by unfold live; omega) (by omega) (by omega)) (kp 1 c 1 (by unfold live; omega) (by omega) (by omega)) (kp 1 c 2 (by unfold live; omega) (by omega) (by omega)) (kp 2 c 0 (by unfold live; omega) (by omega) (by omega)) (fun t q => kp 3 c t (by unfold live; omega) (by omega) (by omega))⟩, h3⟩
end OV
abbrev frB (tg : Nat → Nat × Nat × Nat) (M M1 : mM) : Prop := ∀ a, 11 ≤ (tg a).1 → M a ≠ none → M1 a = M a

theorem va_upid {α : Type} (f : Nat → α) {i : Nat} : va_up f i (f i) = f := by
  funext j
  by_cases h : j = i
  · subst h; rw [va_up_self]
  · rw [va_up_ne _ _ h]

set_option maxHeartbeats 4000000 in
set_option maxRecDepth 100000 in
theorem c_X4_back (l : Launch) (D : va_G) (b : Nat) (M : mM) (ad : Nat → Nat → Nat → Nat) (nt ng : Int) (sp nn jj : Nat → Int) (vt vw vr : Nat → Nat → Int) (G : Nat → Nat → Nat → Bool) (hO : OvOk M ad nt ng sp nn jj vt vw vr G) (tg : Nat → Nat × Nat × Nat) (hTg : Tg tg ad nt ng) (t : Int) (hrt : rg t) : Met l yX4_back wsX4_back ({ frames := 4, cells := 0, slots := 0, locals := 78 } : Room) (mPc [.ref (ad 8 0 0), .int (iI t)] D b M) (mQi D b (fun r M1 => (¬ ((0 ≤ t ∧ t < nt) ∧ 0 < nn t.toNat) ∧ r = iI 0 ∧ M1 = M) ∨ ((0 ≤ t ∧ t < nt) ∧ 0 < nn t.toNat ∧ r = iI 1 ∧ OvOk M1 ad nt ng sp (va_up nn t.toNat (nn t.toNat - 1)) jj vt vw vr G ∧ frB tg M M1))) 0 0 (mF b) := by
  refine m_met (cc := cX4_back) (maxL := 3) (ret := (some .boolean)) (by decide) rfl (Nat.le_of_ble_eq_true rfl) ?_
  intro p e s m args below meth c Q ls hx hb hml hr hts hown hlk hnm hQ K hG hS hl
  have hown : s.vm.findClass RX4 = some m.cls := hown
  have hl : lv_has ls 3 [(0, .ref (ad 8 0 0)), (1, .int (iI t))] := hl
  obtain ⟨o1, ⟨tf0, o2, o3, o3n⟩, ⟨gf0, o4, o5⟩, oT, oG, ⟨SO, o6, o7⟩, oA, ⟨b1, b2, b3, b4⟩⟩ := id hO
  refine lv_aload_n hx hb dX4_back_0 rfl (lv_at hl 0 rfl) ?_
  refine lv_iload_n hx hb dX4_back_1 rfl (lv_at hl 1 rfl) ?_
  rcases Classical.em (0 ≤ t ∧ t < nt) with hqk1 | hqk1
  · obtain ⟨⟨rfk1, hTk1⟩, ⟨hs0k1, hs1k1⟩, ⟨hn0k1, hn1k1⟩, sok1, nek1⟩ := oT t.toNat (by omega)
    have hRk1 : in63 (stF (sp t.toNat) (vt t.toNat) (vw t.toNat) (vr t.toNat) (nn t.toNat).toNat) := stF_rg hs0k1 (fun k hk => (sok1 k (by omega)).2)
    obtain ⟨t1k1, t2k1, t3k1, t4k1, t5k1, t6k1, hBk1, -, -⟩ := id hTk1
    refine m_callfq (m_runV (a := ad 8 0 0) (As := [.int (iI t)]) (rest := []) ⟨hx, hb, hml, hown, hts⟩ (c_X4_thingOf_y l D b _ ad nt ng sp nn jj vt vw vr G hO t hrt hqk1) (cwV 1 hts gX4_back_X4_thingOf rfl rfl rfl (by decide +kernel) ⟨Nat.le_of_ble_eq_true rfl, Nat.le_of_ble_eq_true rfl⟩) K hG o1 rfl rfl rfl hl.1 rfl (Nat.le_of_ble_eq_true rfl) dX4_back_2 ⟨Nat.le_of_ble_eq_true rfl, Nat.le_of_ble_eq_true rfl⟩) hS (fun H locs hG hS => ?_)
    refine W.eq (g2 := F0 m 5 ls [.ref (ad 0 t.toNat 0)]) rfl ?_
    have hG : mG D b M s H := hG
    refine lv_astore_n (lv' := [(2, .ref (ad 0 t.toNat 0)), (0, .ref (ad 8 0 0)), (1, .int (iI t))]) hx hb dX4_back_5 rfl hl (by decide) rfl (fun ls hl => ?_)
    refine lv_aload_n hx hb dX4_back_6 rfl (lv_at hl 0 rfl) ?_
    refine lv_ifnull hx hb dX4_back_7 ?_
    refine lv_aload_n hx hb dX4_back_10 rfl (lv_at hl 0 rfl) ?_
    refine m_calli (m_runV (a := ad 0 t.toNat 0) (As := []) (rest := []) ⟨hx, hb, hml, hown, hts⟩ (c_X3_dropSight l D b _ (ad 0 t.toNat 0) (ad 1 t.toNat 0) (ad 1 t.toNat 1) (ad 1 t.toNat 2) (ad 2 t.toNat 0) rfk1 (ad 3 t.toNat) (sp t.toNat) (nn t.toNat) (jj t.toNat) (vt t.toNat) (vw t.toNat) (vr t.toNat) (stF (sp t.toNat) (vt t.toNat) (vw t.toNat) (vr t.toNat) (nn t.toNat).toNat) hTk1 hn0k1 hn1k1 hs0k1 hs1k1 sok1) (cwV 0 hts gX4_back_X3_dropSight rfl rfl rfl (by decide +kernel) ⟨Nat.le_of_ble_eq_true rfl, Nat.le_of_ble_eq_true rfl⟩) K hG t1k1 rfl rfl rfl hl.1 rfl (Nat.le_of_ble_eq_true rfl) dX4_back_11 ⟨Nat.le_of_ble_eq_true rfl, Nat.le_of_ble_eq_true rfl⟩) hS (fun r2 M3 H locs hw4 hG hS => ?_)
    rcases hw4 with ⟨w1, w2, w3⟩ | ⟨w1, w2, w3, w4⟩
    · rw [w2]
      rw [w3] at hG
      refine m_if_eq (tgt := 21) hx hb dX4_back_14 (by decide) ⟨by decide, by decide⟩ (fun c14 => ?_) (fun c14 => absurd c14 (by decide))
      refine lv_iconst (v := iI 0) hx hb dX4_back_21 rfl ?_
      exact m_zret hx hb hr hlk hQ hG hS (Nat.le_of_ble_eq_true rfl) (Nat.le_of_ble_eq_true rfl) dX4_back_22 (Or.inl rfl) (Or.inl ⟨(fun z => absurd w1 (by omega)), rfl, rfl⟩)
    · rw [w2]
      refine m_if_eq (tgt := 21) hx hb dX4_back_14 (by decide) ⟨by decide, by decide⟩ (fun c14 => absurd c14 (by decide)) (fun c14 => ?_)
      refine lv_iconst (v := iI 1) hx hb dX4_back_17 rfl ?_
      refine lv_goto (tgt := 22) hx hb dX4_back_18 (by decide) ?_
      exact m_zret hx hb hr hlk hQ hG hS (Nat.le_of_ble_eq_true rfl) (Nat.le_of_ble_eq_true rfl) dX4_back_22 (Or.inr rfl) (Or.inr ⟨hqk1, w1, rfl, (by have h9 := Ov_th hO hTg (i := t.toNat) (by omega) w3 ⟨⟨hs0k1, hs1k1⟩, ⟨by omega, by omega⟩, sOk_le sok1 (by omega), neDrop hs0k1 sok1 hn0k1 (by omega) nek1⟩ (fun a q1 _ _ _ q5 => w4 a q1 q5); rw [va_upid jj, va_upid vt, va_upid vw, va_upid vr] at h9; exact h9), (fun a q1 _ => w4 a (hTg.big (by unfold live; omega) q1) (fun t2 q2 => hTg.big (by unfold live; omega) q1))⟩)
  · refine m_callfq (m_runV (a := ad 8 0 0) (As := [.int (iI t)]) (rest := []) ⟨hx, hb, hml, hown, hts⟩ (c_X4_thingOf_n l D b _ ad nt ng sp nn jj vt vw vr G hO t hrt hqk1) (cwV 1 hts gX4_back_X4_thingOf rfl rfl rfl (by decide +kernel) ⟨Nat.le_of_ble_eq_true rfl, Nat.le_of_ble_eq_true rfl⟩) K hG o1 rfl rfl rfl hl.1 rfl (Nat.le_of_ble_eq_true rfl) dX4_back_2 ⟨Nat.le_of_ble_eq_true rfl, Nat.le_of_ble_eq_true rfl⟩) hS (fun H locs hG hS => ?_)
    refine W.eq (g2 := F0 m 5 ls [.null]) rfl ?_
    have hG : mG D b M s H := hG
    refine lv_astore_nN (lv' := [(2, .null), (0, .ref (ad 8 0 0)), (1, .int (iI t))]) hx hb dX4_back_5 rfl hl (by decide) rfl (fun ls hl => ?_)
    refine lv_aload_nN hx hb dX4_back_6 rfl (lv_at hl 0 rfl) ?_
    refine lv_ifnullN (tgt := 21) hx hb dX4_back_7 (by decide) ?_
    refine lv_iconst (v := iI 0) hx hb dX4_back_21 rfl ?_
    exact m_zret hx hb hr hlk hQ hG hS (Nat.le_of_ble_eq_true rfl) (Nat.le_of_ble_eq_true rfl) dX4_back_22 (Or.inl rfl) (Or.inl ⟨(fun z => hqk1 z.1), rfl, rfl⟩)

