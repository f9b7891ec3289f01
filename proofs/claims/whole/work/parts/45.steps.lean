def Inv (M : mM) (ad : Nat → Nat → Nat → Nat) (tg : Nat → Nat × Nat × Nat) (am : Nat → Nat) (nt ng : Int) (sp nn jj : Nat → Int) (vt vw vr : Nat → Nat → Int) (G : Nat → Nat → Nat → Bool) (sa sx sy ra : Nat → Int) (gz : Nat → Bool) (va ac : Nat → Int) : Prop :=
  OvOk M ad nt ng sp nn jj vt vw vr G ∧ Tg tg ad nt ng ∧ MoOk M am nt ng sp nn jj sa sx sy ra gz va ac ∧ (∀ i, i ≤ 10 → 11 ≤ (tg (am i)).1) ∧ mGd nt sp nn sa sx sy ra ∧ (∀ i : Nat, (i : Int) < nt → rowE (nn i) (vt i) (vw i) (vr i) sa sx sy ra i) ∧ (∀ i : Nat, (i : Int) < ng → ∀ x y, x < 64 → y < 64 → G i x y = gS gz i x y) ∧ (∀ i : Nat, nt ≤ (i : Int) → nn i = 0 ∧ jj i = 0) ∧ (∀ k : Nat, 4096 * ng ≤ (k : Int) → gz k = false)
def InvE (M : mM) (x mo : Nat) : Prop := ∃ (ad : Nat → Nat → Nat → Nat) (tg : Nat → Nat × Nat × Nat) (am : Nat → Nat) (nt ng : Int) (sp nn jj : Nat → Int) (vt vw vr : Nat → Nat → Int) (G : Nat → Nat → Nat → Bool) (sa sx sy ra : Nat → Int) (gz : Nat → Bool) (va ac : Nat → Int), ad 8 0 0 = x ∧ am 0 = mo ∧ Inv M ad tg am nt ng sp nn jj vt vw vr G sa sx sy ra gz va ac
theorem MoOk_keep {M M1 : mM} {am : Nat → Nat} {nt ng : Int} {sp nn jj sa sx sy ra : Nat → Int} {gz : Nat → Bool} {va ac : Nat → Int} (h : MoOk M am nt ng sp nn jj sa sx sy ra gz va ac) (hk : ∀ i v, i ≤ 10 → M (am i) = some v → M1 (am i) = M (am i)) : MoOk M1 am nt ng sp nn jj sa sx sy ra gz va ac := by
  obtain ⟨m0, m1, m2, m3, m4, m5, m6, m7, m8, m9, m10, b0⟩ := h
  exact ⟨(hk 0 _ (by decide) m0).trans m0, (hk 1 _ (by decide) m1).trans m1, (hk 2 _ (by decide) m2).trans m2, (hk 3 _ (by decide) m3).trans m3, (hk 4 _ (by decide) m4).trans m4, (hk 5 _ (by decide) m5).trans m5, (hk 6 _ (by decide) m6).trans m6, (hk 7 _ (by decide) m7).trans m7, (hk 8 _ (by decide) m8).trans m8, (hk 9 _ (by decide) m9).trans m9, (hk 10 _ (by decide) m10).trans m10, b0⟩
theorem Mo_some {M : mM} {am : Nat → Nat} {nt ng : Int} {sp nn jj sa sx sy ra : Nat → Int} {gz : Nat → Bool} {va ac : Nat → Int} (h : MoOk M am nt ng sp nn jj sa sx sy ra gz va ac) {i : Nat} (hi : i ≤ 10) : M (am i) ≠ none := by
  obtain ⟨m0, m1, m2, m3, m4, m5, m6, m7, m8, m9, m10, b0⟩ := h
  rcases (show i = 0 ∨ i = 1 ∨ i = 2 ∨ i = 3 ∨ i = 4 ∨ i = 5 ∨ i = 6 ∨ i = 7 ∨ i = 8 ∨ i = 9 ∨ i = 10 by omega) with rfl | rfl | rfl | rfl | rfl | rfl | rfl | rfl | rfl | rfl | rfl
  · exact msome m0
  · exact msome m1
  · exact msome m2
  · exact msome m3
  · exact msome m4
  · exact msome m5
  · exact msome m6
  · exact msome m7
  · exact msome m8
  · exact msome m9
  · exact msome m10
theorem OvOk_keep {M M1 : mM} {ad : Nat → Nat → Nat → Nat} {nt ng : Int} {sp nn jj : Nat → Int} {vt vw vr : Nat → Nat → Int} {G : Nat → Nat → Nat → Bool} (hO : OvOk M ad nt ng sp nn jj vt vw vr G) (kp : ∀ k i t, live nt ng k i t → M1 (ad k i t) = M (ad k i t)) : OvOk M1 ad nt ng sp nn jj vt vw vr G := by
  obtain ⟨o1, ⟨tf0, o2, o3, o3n⟩, ⟨gf0, o4, o5⟩, oT, oG, ⟨SO, o6, o7⟩, ⟨lf, f, g, S, oA⟩, ⟨b1, b2, b3, b4⟩⟩ := hO
  refine ⟨(kp 8 0 0 (by unfold live; omega)).trans o1, ⟨tf0, (kp 9 0 0 (by unfold live; omega)).trans o2, o3, o3n⟩, ⟨gf0, (kp 10 0 0 (by unfold live; omega)).trans o4, o5⟩, fun c hc => ?_, fun c hc => ⟨(kp 4 c 0 (by unfold live; omega)).trans (oG c hc).1, (kp 5 c 0 (by unfold live; omega)).trans (oG c hc).2⟩, ⟨SO, (kp 4 4 0 (by unfold live; omega)).trans o6, (kp 5 4 0 (by unfold live; omega)).trans o7⟩, ⟨lf, f, g, S, TaOk_keep oA (kp 6 0 0 (by unfold live; omega)) (kp 7 0 0 (by unfold live; omega)) (fun k q => kp 4 (5 + k) 0 (by unfold live; omega)) (fun k q => kp 5 (5 + k) 0 (by unfold live; omega))⟩, ⟨b1, b2, b3, b4⟩⟩
  obtain ⟨⟨rf2, h2⟩, h3⟩ := oT c hc
  exact ⟨⟨rf2, ThOk_keep h2 (kp 0 c 0 (by unfold live; omega)) (kp 1 c 0 (by unfold live; omega)) (kp 1 c 1 (by unfold live; omega)) (kp 1 c 2 (by unfold live; omega)) (kp 2 c 0 (by unfold live; omega)) (fun t q => kp 3 c t (by unfold live; omega))⟩, h3⟩
theorem ov_fr {M1 M2 : mM} {ad : Nat → Nat → Nat → Nat} {tg : Nat → Nat × Nat × Nat} {am : Nat → Nat} {nt ng : Int} {sp nn jj : Nat → Int} {vt vw vr : Nat → Nat → Int} {G : Nat → Nat → Nat → Bool} (hO : OvOk M1 ad nt ng sp nn jj vt vw vr G) (hT : Tg tg ad nt ng) (hm : ∀ i, i ≤ 10 → 11 ≤ (tg (am i)).1) (h : ∀ a, (∀ i, i ≤ 10 → a ≠ am i) → M2 a = M1 a) : OvOk M2 ad nt ng sp nn jj vt vw vr G :=
  OvOk_keep hO (fun k i t hl => h _ (fun j hj => (hT.big hl (hm j hj)).symm))
theorem va_same {f : Nat → Int} {i : Nat} {v : Int} (h : f i = v) : va_up f i v = f := by rw [← h]; exact va_upid f
theorem rowE_up {n : Int} {vt vw vr sa sx sy ra : Nat → Int} {i ix : Nat} (h : rowE n vt vw vr sa sx sy ra i) (hn : 0 ≤ n) (hx : ix = 12 * i + n.toNat) {u v w : Int} : rowE (n + 1) (va_up vt n.toNat u) (va_up vw n.toNat v) (va_up vr n.toNat w) (va_up sa ix u) (va_up sx ix (v / 64)) (va_up sy ix (v % 64)) (va_up ra ix w) i := by
  intro k hk
  by_cases e : k = n.toNat
  · subst e
    rw [← hx, va_up_self, va_up_self, va_up_self, va_up_self, va_up_self, va_up_self, va_up_self]
    exact ⟨rfl, by omega, rfl⟩
  · rw [va_up_ne _ _ e, va_up_ne _ _ e, va_up_ne _ _ e, va_up_ne _ _ (by omega), va_up_ne _ _ (by omega), va_up_ne _ _ (by omega), va_up_ne _ _ (by omega)]
    exact h k (by omega)
theorem rowE_off {n : Int} {vt vw vr sa sx sy ra : Nat → Int} {i ix : Nat} (h : rowE n vt vw vr sa sx sy ra i) (hx : ∀ k : Nat, (k : Int) < n → 12 * i + k ≠ ix) {u v w z : Int} : rowE n vt vw vr (va_up sa ix u) (va_up sx ix v) (va_up sy ix w) (va_up ra ix z) i := by
  intro k hk
  rw [va_up_ne _ _ (hx k hk), va_up_ne _ _ (hx k hk), va_up_ne _ _ (hx k hk), va_up_ne _ _ (hx k hk)]
  exact h k hk
theorem rowE_on {n : Int} {vt vw vr sa sx sy ra : Nat → Int} {i : Nat} (h : rowE n vt vw vr sa sx sy ra i) {u v w : Int} : rowE n (va_up vt n.toNat u) (va_up vw n.toNat v) (va_up vr n.toNat w) sa sx sy ra i := by
  intro k hk
  rw [va_up_ne _ _ (by omega), va_up_ne _ _ (by omega), va_up_ne _ _ (by omega)]
  exact h k hk
theorem mSo_off {n : Int} {sa sx sy ra : Nat → Int} {i ix : Nat} (h : mSo n sa sx sy ra i) (hx : ∀ k : Nat, (k : Int) < n → 12 * i + k ≠ ix) {u v w z : Int} : mSo n (va_up sa ix u) (va_up sx ix v) (va_up sy ix w) (va_up ra ix z) i := by
  intro k hk
  rw [va_up_ne _ _ (hx k hk), va_up_ne _ _ (hx k hk), va_up_ne _ _ (hx k hk), va_up_ne _ _ (hx k hk)]
  exact h k hk
section STEP
variable {M M1 M2 : mM} {r1 r2 : Int32} {ad : Nat → Nat → Nat → Nat} {tg : Nat → Nat × Nat × Nat} {am : Nat → Nat} {nt ng : Int} {sp nn jj : Nat → Int} {vt vw vr : Nat → Nat → Int} {G : Nat → Nat → Nat → Bool} {sa sx sy ra : Nat → Int} {gz : Nat → Bool} {va ac : Nat → Int}
theorem mo_fr (hI : Inv M ad tg am nt ng sp nn jj vt vw vr G sa sx sy ra gz va ac) (h : frB tg M M1) : MoOk M1 am nt ng sp nn jj sa sx sy ra gz va ac :=
  MoOk_keep hI.2.2.1 (fun i v hi hv => h (am i) (hI.2.2.2.1 i hi) (msome hv))
theorem iv_nn (hI : Inv M ad tg am nt ng sp nn jj vt vw vr G sa sx sy ra gz va ac) : ∀ i : Nat, 0 ≤ nn i ∧ nn i ≤ 12 := fun i => by
  obtain ⟨-, -, -, -, h5, -, -, h8, -⟩ := hI
  rcases Int.lt_or_le (i : Int) nt with q | q
  · exact (h5 i q).1
  · have := h8 i q; omega
theorem iv_F (hI : Inv M ad tg am nt ng sp nn jj vt vw vr G sa sx sy ra gz va ac) {i : Nat} (hi : (i : Int) < nt) : ∀ t, t < 80 → eqF (stF (sp i) (vt i) (vw i) (vr i) (nn i).toNat) (mBF sp nn sa sx sy ra i) t := by
  obtain ⟨-, -, -, -, h5, h6, -⟩ := hI
  exact fun t ht => F_eq h5 hi (h6 i hi) ht
theorem iv_63 (hI : Inv M ad tg am nt ng sp nn jj vt vw vr G sa sx sy ra gz va ac) {i : Nat} (hi : (i : Int) < nt) : in63 (stF (sp i) (vt i) (vw i) (vr i) (nn i).toNat) ∧ ∀ t, t < 80 → neB (stF (sp i) (vt i) (vw i) (vr i) (nn i).toNat) t := by
  obtain ⟨⟨-, -, -, oT, -⟩, -⟩ := hI
  obtain ⟨-, ⟨hs0, hs1⟩, ⟨hn0, hn1⟩, so, ne⟩ := oT i hi
  exact ⟨stF_rg hs0 (fun k hk => (so k (by omega)).2), ne⟩
theorem iv_box (hI : Inv M ad tg am nt ng sp nn jj vt vw vr G sa sx sy ra gz va ac) : ∀ i : Nat, (i : Int) < nt → ∀ u : Int, 0 ≤ u → u < 80 → (0 ≤ loM 1 sp nn sa sx sy ra i u ∧ 0 ≤ loM 0 sp nn sa sx sy ra i u) ∧ loM 1 sp nn sa sx sy ra i u ≤ hiM 1 sp nn sa sx sy ra i u ∧ loM 0 sp nn sa sx sy ra i u ≤ hiM 0 sp nn sa sx sy ra i u := by
  intro i hi u hu0 hu1
  obtain ⟨h1, h2⟩ := iv_63 hI hi
  have e := iv_F hI hi u.toNat (by omega)
  have e0 := e 0 (by omega)
  have e1 := e 1 (by omega)
  have e2 := e 2 (by omega)
  have e3 := e 3 (by omega)
  have q0 : mBF sp nn sa sx sy ra i u.toNat 0 = loM 1 sp nn sa sx sy ra i u := by unfold mBF; rw [if_pos rfl, show ((u.toNat : Nat) : Int) = u by omega]
  have q1 : mBF sp nn sa sx sy ra i u.toNat 1 = hiM 1 sp nn sa sx sy ra i u := by unfold mBF; rw [if_neg (by omega), if_pos rfl, show ((u.toNat : Nat) : Int) = u by omega]
  have q2 : mBF sp nn sa sx sy ra i u.toNat 2 = loM 0 sp nn sa sx sy ra i u := by unfold mBF; rw [if_neg (by omega), if_neg (by omega), if_pos rfl, show ((u.toNat : Nat) : Int) = u by omega]
  have q3 : mBF sp nn sa sx sy ra i u.toNat 3 = hiM 0 sp nn sa sx sy ra i u := by unfold mBF; rw [if_neg (by omega), if_neg (by omega), if_neg (by omega), show ((u.toNat : Nat) : Int) = u by omega]
  have n := h2 u.toNat (by omega)
  have g0 := (h1 u.toNat 0).1
  have g2 := (h1 u.toNat 2).1
  have n1 := n.1
  have n2 := n.2
  rw [← q0, ← q1, ← q2, ← q3, ← e0, ← e1, ← e2, ← e3]
  exact ⟨⟨g0, g2⟩, n1, n2⟩
theorem fin_pure {z1 z2 : Int} (hI : Inv M ad tg am nt ng sp nn jj vt vw vr G sa sx sy ra gz va ac) (h1 : fI z1 M r1 M1) (h2 : fI z2 M1 r2 M2) (e : z1 = z2) : r1 = r2 ∧ InvE M2 (ad 8 0 0) (am 0) := by
  obtain ⟨a1, a2⟩ := h1
  obtain ⟨b1, b2⟩ := h2
  subst a2 b2
  exact ⟨by rw [a1, b1, e], ad, tg, am, nt, ng, sp, nn, jj, vt, vw, vr, G, sa, sx, sy, ra, gz, va, ac, rfl, rfl, hI⟩
theorem mid_pure {z1 : Int} (hI : Inv M ad tg am nt ng sp nn jj vt vw vr G sa sx sy ra gz va ac) (h1 : fI z1 M r1 M1) : MoOk M1 am nt ng sp nn jj sa sx sy ra gz va ac := by rw [h1.2]; exact hI.2.2.1
theorem ans_where (hI : Inv M ad tg am nt ng sp nn jj vt vw vr G sa sx sy ra gz va ac) (t u w : Int) : ((if (0 ≤ t ∧ t < nt) ∧ (0 ≤ u ∧ u < 80) then whN (stF (sp t.toNat) (vt t.toNat) (vw t.toNat) (vr t.toNat) (nn t.toNat).toNat) u.toNat w else -1) : Int) = ((if (0 ≤ t ∧ t < nt) ∧ (0 ≤ u ∧ u < 80) then whN (mBF sp nn sa sx sy ra t.toNat) u.toNat w else -1) : Int) := by
  by_cases h : (0 ≤ t ∧ t < nt) ∧ (0 ≤ u ∧ u < 80)
  · rw [if_pos h, if_pos h]; exact whN_cong (iv_F hI (by omega) u.toNat (by omega)) w
  · rw [if_neg h, if_neg h]
theorem ans_has (hI : Inv M ad tg am nt ng sp nn jj vt vw vr G sa sx sy ra gz va ac) (t u : Int) : ((if (0 ≤ t ∧ t < ng) ∧ (0 ≤ u ∧ u < 4096) ∧ G t.toNat (u / 64).toNat (u % 64).toNat = true then 1 else 0) : Int) = ((if (0 ≤ t ∧ t < ng) ∧ (0 ≤ u ∧ u < 4096) ∧ gz (4096 * t + u).toNat = true then 1 else 0) : Int) := by
  by_cases h : (0 ≤ t ∧ t < ng) ∧ (0 ≤ u ∧ u < 4096)
  · have e : G t.toNat (u / 64).toNat (u % 64).toNat = gz (4096 * t + u).toNat := by
      rw [hI.2.2.2.2.2.2.1 t.toNat (by omega) _ _ (by omega) (by omega)]
      exact congrArg gz (by omega)
    rw [e]
  · rw [if_neg (fun q => h ⟨q.1, q.2.1⟩), if_neg (fun q => h ⟨q.1, q.2.1⟩)]
theorem ans_state (hI : Inv M ad tg am nt ng sp nn jj vt vw vr G sa sx sy ra gz va ac) (t v u : Int) : ((if (0 ≤ t ∧ t < nt) ∧ (0 ≤ v ∧ v < ng) ∧ (0 ≤ u ∧ u < 80) then stN (G v.toNat) (stF (sp t.toNat) (vt t.toNat) (vw t.toNat) (vr t.toNat) (nn t.toNat).toNat) u.toNat else -1) : Int) = ((if (0 ≤ t ∧ t < nt) ∧ (0 ≤ v ∧ v < ng) ∧ (0 ≤ u ∧ u < 80) then stN (gS gz v.toNat) (mBF sp nn sa sx sy ra t.toNat) u.toNat else -1) : Int) := by
  by_cases h : (0 ≤ t ∧ t < nt) ∧ (0 ≤ v ∧ v < ng) ∧ (0 ≤ u ∧ u < 80)
  · rw [if_pos h, if_pos h]; exact stN_cong (iv_F hI (by omega) u.toNat (by omega)) ((iv_63 hI (by omega)).1 _ _).2 ((iv_63 hI (by omega)).1 _ _).2 (hI.2.2.2.2.2.2.1 v.toNat (by omega))
  · rw [if_neg h, if_neg h]
theorem ans_look (hI : Inv M ad tg am nt ng sp nn jj vt vw vr G sa sx sy ra gz va ac) (t v u w : Int) : ((if ((0 ≤ t ∧ t < nt) ∧ (0 ≤ v ∧ v < ng) ∧ (0 ≤ u ∧ u < 80)) ∧ (0 ≤ w ∧ w ≤ 79) ∧ stN (G v.toNat) (stF (sp t.toNat) (vt t.toNat) (vw t.toNat) (vr t.toNat) (nn t.toNat).toNat) u.toNat = 0 then lkN (G v.toNat) (stF (sp t.toNat) (vt t.toNat) (vw t.toNat) (vr t.toNat) (nn t.toNat).toNat) w (79 - u).toNat else -1) : Int) = ((if ((0 ≤ t ∧ t < nt) ∧ (0 ≤ v ∧ v < ng) ∧ (0 ≤ u ∧ u < 80)) ∧ (0 ≤ w ∧ w ≤ 79) ∧ stN (gS gz v.toNat) (mBF sp nn sa sx sy ra t.toNat) u.toNat = 0 then lkN (gS gz v.toNat) (mBF sp nn sa sx sy ra t.toNat) w (79 - u).toNat else -1) : Int) := by
  by_cases h : (0 ≤ t ∧ t < nt) ∧ (0 ≤ v ∧ v < ng) ∧ (0 ≤ u ∧ u < 80)
  · have e1 := stN_cong (iv_F hI (i := t.toNat) (by omega) u.toNat (by omega)) ((iv_63 hI (by omega)).1 _ _).2 ((iv_63 hI (by omega)).1 _ _).2 (hI.2.2.2.2.2.2.1 v.toNat (by omega))
    have e2 := lkN_cong (w := w) (iv_F hI (i := t.toNat) (by omega)) (fun _ => ((iv_63 hI (by omega)).1 _ _).2) (fun _ => ((iv_63 hI (by omega)).1 _ _).2) (hI.2.2.2.2.2.2.1 v.toNat (by omega)) (79 - u).toNat
    rw [e1, e2]
  · rw [if_neg (fun q => h q.1), if_neg (fun q => h q.1)]
theorem ans_apart (hI : Inv M ad tg am nt ng sp nn jj vt vw vr G sa sx sy ra gz va ac) (t v u w : Int) : ((if (0 ≤ t ∧ t < nt) ∧ (0 ≤ v ∧ v < nt) ∧ ¬ t = v ∧ (0 ≤ u ∧ u < 80) then apN (stF (sp t.toNat) (vt t.toNat) (vw t.toNat) (vr t.toNat) (nn t.toNat).toNat) (stF (sp v.toNat) (vt v.toNat) (vw v.toNat) (vr v.toNat) (nn v.toNat).toNat) u.toNat w else -1) : Int) = ((if (0 ≤ t ∧ t < nt) ∧ (0 ≤ v ∧ v < nt) ∧ ¬ t = v ∧ (0 ≤ u ∧ u < 80) ∧ (0 ≤ w ∧ w ≤ 1) then max (max 0 (nAp w 1 sp nn sa sx sy ra t.toNat v.toNat u)) (nAp w 0 sp nn sa sx sy ra t.toNat v.toNat u) else -1) : Int) := by
  by_cases h : (0 ≤ t ∧ t < nt) ∧ (0 ≤ v ∧ v < nt) ∧ ¬ t = v ∧ (0 ≤ u ∧ u < 80)
  · rw [if_pos h]
    obtain ⟨f1, f2⟩ := iv_63 hI (i := t.toNat) (by omega)
    obtain ⟨g1, g2⟩ := iv_63 hI (i := v.toNat) (by omega)
    have F := iv_F hI (i := t.toNat) (by omega) u.toNat (by omega)
    have E := iv_F hI (i := v.toNat) (by omega) u.toNat (by omega)
    have f3 := f2 u.toNat (by omega)
    have g3 := g2 u.toNat (by omega)
    unfold neB at f3 g3
    rw [F 0 (by omega), F 1 (by omega), F 2 (by omega), F 3 (by omega)] at f3
    rw [E 0 (by omega), E 1 (by omega), E 2 (by omega), E 3 (by omega)] at g3
    have hu : ((u.toNat : Nat) : Int) = u := by omega
    have q : ∀ i : Nat, mBF sp nn sa sx sy ra i u.toNat 0 = loM 1 sp nn sa sx sy ra i u ∧ mBF sp nn sa sx sy ra i u.toNat 1 = hiM 1 sp nn sa sx sy ra i u ∧ mBF sp nn sa sx sy ra i u.toNat 2 = loM 0 sp nn sa sx sy ra i u ∧ mBF sp nn sa sx sy ra i u.toNat 3 = hiM 0 sp nn sa sx sy ra i u := fun i => by
      refine ⟨?_, ?_, ?_, ?_⟩
      · unfold mBF; rw [if_pos rfl, hu]
      · unfold mBF; rw [if_neg (by omega), if_pos rfl, hu]
      · unfold mBF; rw [if_neg (by omega), if_neg (by omega), if_pos rfl, hu]
      · unfold mBF; rw [if_neg (by omega), if_neg (by omega), if_neg (by omega), hu]
    obtain ⟨q0, q1, q2, q3⟩ := q t.toNat
    obtain ⟨p0, p1, p2, p3⟩ := q v.toNat
    rw [q0, q1, q2, q3] at f3
    rw [p0, p1, p2, p3] at g3
    unfold apN nAp
    rw [F 0 (by omega), F 1 (by omega), F 2 (by omega), F 3 (by omega), E 0 (by omega), E 1 (by omega), E 2 (by omega), E 3 (by omega), q0, q1, q2, q3, p0, p1, p2, p3]
    generalize loM 1 sp nn sa sx sy ra t.toNat u = A0 at *
    generalize hiM 1 sp nn sa sx sy ra t.toNat u = A1 at *
    generalize loM 0 sp nn sa sx sy ra t.toNat u = A2 at *
    generalize hiM 0 sp nn sa sx sy ra t.toNat u = A3 at *
    generalize loM 1 sp nn sa sx sy ra v.toNat u = B0 at *
    generalize hiM 1 sp nn sa sx sy ra v.toNat u = B1 at *
    generalize loM 0 sp nn sa sx sy ra v.toNat u = B2 at *
    generalize hiM 0 sp nn sa sx sy ra v.toNat u = B3 at *
    by_cases w0 : w = 0
    · subst w0
      rw [if_pos rfl, if_pos (by omega), if_pos rfl, if_pos rfl]
      omega
    · by_cases w1 : w = 1
      · subst w1
        rw [if_neg (by omega), if_pos rfl, if_pos (by omega), if_neg (by omega), if_neg (by omega)]
        omega
      · rw [if_neg w0, if_neg w1, if_neg (by omega)]
  · rw [if_neg h, if_neg (fun q => h ⟨q.1, q.2.1, q.2.2.1, q.2.2.2.1⟩)]
theorem mid_thing (hI : Inv M ad tg am nt ng sp nn jj vt vw vr G sa sx sy ra gz va ac) (t : Int) (h1 : (fun (r : Int32) (M1 : mM) => (¬ ((0 ≤ t ∧ t ≤ 7) ∧ nt < 6) ∧ r = iI (-1) ∧ M1 = M) ∨ (((0 ≤ t ∧ t ≤ 7) ∧ nt < 6) ∧ r = iI nt ∧ ∃ (ad2 : Nat → Nat → Nat → Nat) (tg2 : Nat → Nat × Nat × Nat), OvOk M1 ad2 (nt + 1) ng (va_up sp nt.toNat t) (va_up nn nt.toNat 0) (va_up jj nt.toNat 0) (va_up vt nt.toNat (fun _ => 0)) (va_up vw nt.toNat (fun _ => 0)) (va_up vr nt.toNat (fun _ => 0)) G ∧ Tg tg2 ad2 (nt + 1) ng ∧ frB tg M M1 ∧ (∀ a, M a ≠ none → tg2 a = tg a) ∧ ad2 8 0 0 = ad 8 0 0)) r1 M1) : MoOk M1 am nt ng sp nn jj sa sx sy ra gz va ac := by
  rcases h1 with ⟨-, -, a3⟩ | ⟨-, -, ad2, tg2, -, -, fr, -⟩
  · rw [a3]; exact hI.2.2.1
  · exact mo_fr hI fr
theorem fin_thing (hI : Inv M ad tg am nt ng sp nn jj vt vw vr G sa sx sy ra gz va ac) (t : Int)  (h1 : (fun (r : Int32) (M1 : mM) => (¬ ((0 ≤ t ∧ t ≤ 7) ∧ nt < 6) ∧ r = iI (-1) ∧ M1 = M) ∨ (((0 ≤ t ∧ t ≤ 7) ∧ nt < 6) ∧ r = iI nt ∧ ∃ (ad2 : Nat → Nat → Nat → Nat) (tg2 : Nat → Nat × Nat × Nat), OvOk M1 ad2 (nt + 1) ng (va_up sp nt.toNat t) (va_up nn nt.toNat 0) (va_up jj nt.toNat 0) (va_up vt nt.toNat (fun _ => 0)) (va_up vw nt.toNat (fun _ => 0)) (va_up vr nt.toNat (fun _ => 0)) G ∧ Tg tg2 ad2 (nt + 1) ng ∧ frB tg M M1 ∧ (∀ a, M a ≠ none → tg2 a = tg a) ∧ ad2 8 0 0 = ad 8 0 0)) r1 M1) (h2 : (fun (M : mM) => (fun (r : Int32) (M1 : mM) => (¬ ((0 ≤ t ∧ t ≤ 7) ∧ nt < 6) ∧ r = iI (-1) ∧ M1 = M) ∨ (((0 ≤ t ∧ t ≤ 7) ∧ nt < 6) ∧ r = iI nt ∧ MoOk M1 am (nt + 1) ng (va_up sp nt.toNat t) nn jj sa sx sy ra gz va ac ∧ (∀ a, (∀ i, i ≤ 10 → a ≠ am i) → M1 a = M a)))) M1 r2 M2) : r1 = r2 ∧ InvE M2 (ad 8 0 0) (am 0) := by
  obtain ⟨i1, i2, i3, i4, i5, i6, i7, i8, i9⟩ := id hI
  rcases h1 with ⟨a1, a2, a3⟩ | ⟨a1, a2, ad2, tg2, O2, T2, fr, tk, a8⟩ <;> rcases h2 with ⟨b1, b2, b3⟩ | ⟨b1, b2, O3, fr2⟩
  · subst a3 b3; exact ⟨a2.trans b2.symm, ad, tg, am, nt, ng, sp, nn, jj, vt, vw, vr, G, sa, sx, sy, ra, gz, va, ac, rfl, rfl, hI⟩
  · exact absurd b1 a1
  · exact absurd a1 b1
  · have nb := i1.2.2.2.2.2.2.2
    have e0 := i8 nt.toNat (by omega)
    rw [va_same e0.1, va_same e0.2] at O2
    have hm : ∀ i, i ≤ 10 → 11 ≤ (tg2 (am i)).1 := fun i hi => by rw [tk (am i) (Mo_some i3 hi)]; exact i4 i hi
    refine ⟨a2.trans b2.symm, ad2, tg2, am, nt + 1, ng, va_up sp nt.toNat t, nn, jj, va_up vt nt.toNat (fun _ => 0), va_up vw nt.toNat (fun _ => 0), va_up vr nt.toNat (fun _ => 0), G, sa, sx, sy, ra, gz, va, ac, a8, rfl, ov_fr O2 T2 hm fr2, T2, O3, hm, ?_, ?_, i7, fun i hi => i8 i (by omega), i9⟩
    · intro i hi
      by_cases e : i = nt.toNat
      · subst e
        refine ⟨by rw [e0.1]; omega, by rw [va_up_self]; exact a1.1, fun k hk => absurd hk (by rw [e0.1]; omega)⟩
      · rw [va_up_ne _ _ e]; exact i5 i (by omega)
    · intro i hi
      by_cases e : i = nt.toNat
      · subst e
        intro k hk
        exact absurd hk (by rw [e0.1]; omega)
      · rw [va_up_ne _ _ e, va_up_ne _ _ e, va_up_ne _ _ e]; exact i6 i (by omega)
theorem mid_back (hI : Inv M ad tg am nt ng sp nn jj vt vw vr G sa sx sy ra gz va ac) (t : Int) (h1 : (fun (r : Int32) (M1 : mM) => (¬ ((0 ≤ t ∧ t < nt) ∧ 0 < nn t.toNat) ∧ r = iI 0 ∧ M1 = M) ∨ ((0 ≤ t ∧ t < nt) ∧ 0 < nn t.toNat ∧ r = iI 1 ∧ OvOk M1 ad nt ng sp (va_up nn t.toNat (nn t.toNat - 1)) jj vt vw vr G ∧ frB tg M M1)) r1 M1) : MoOk M1 am nt ng sp nn jj sa sx sy ra gz va ac := by
  rcases h1 with ⟨-, -, a3⟩ | ⟨-, -, -, -, fr⟩
  · rw [a3]; exact hI.2.2.1
  · exact mo_fr hI fr
theorem fin_back (hI : Inv M ad tg am nt ng sp nn jj vt vw vr G sa sx sy ra gz va ac) (t : Int)  (h1 : (fun (r : Int32) (M1 : mM) => (¬ ((0 ≤ t ∧ t < nt) ∧ 0 < nn t.toNat) ∧ r = iI 0 ∧ M1 = M) ∨ ((0 ≤ t ∧ t < nt) ∧ 0 < nn t.toNat ∧ r = iI 1 ∧ OvOk M1 ad nt ng sp (va_up nn t.toNat (nn t.toNat - 1)) jj vt vw vr G ∧ frB tg M M1)) r1 M1) (h2 : (fun (M : mM) => (fun (r : Int32) (M1 : mM) => (¬ ((0 ≤ t ∧ t < nt) ∧ 0 < nn t.toNat) ∧ r = iI 0 ∧ M1 = M) ∨ (((0 ≤ t ∧ t < nt) ∧ 0 < nn t.toNat) ∧ r = iI 1 ∧ MoOk M1 am nt ng sp (va_up nn t.toNat (nn t.toNat - 1)) jj sa sx sy ra gz va ac ∧ (∀ a, (∀ i, i ≤ 10 → a ≠ am i) → M1 a = M a)))) M1 r2 M2) : r1 = r2 ∧ InvE M2 (ad 8 0 0) (am 0) := by
  obtain ⟨i1, i2, i3, i4, i5, i6, i7, i8, i9⟩ := id hI
  rcases h1 with ⟨a1, a2, a3⟩ | ⟨a1, a0, a2, O2, fr⟩ <;> rcases h2 with ⟨b1, b2, b3⟩ | ⟨b1, b2, O3, fr2⟩
  · subst a3 b3; exact ⟨a2.trans b2.symm, ad, tg, am, nt, ng, sp, nn, jj, vt, vw, vr, G, sa, sx, sy, ra, gz, va, ac, rfl, rfl, hI⟩
  · exact absurd b1 a1
  · exact absurd ⟨a1, a0⟩ b1
  · refine ⟨a2.trans b2.symm, ad, tg, am, nt, ng, sp, va_up nn t.toNat (nn t.toNat - 1), jj, vt, vw, vr, G, sa, sx, sy, ra, gz, va, ac, rfl, rfl, ov_fr O2 i2 i4 fr2, i2, O3, i4, ?_, ?_, i7, ?_, i9⟩
    · intro i hi
      by_cases e : i = t.toNat
      · subst e
        obtain ⟨g1, g2, g3⟩ := i5 t.toNat hi
        rw [va_up_self]
        exact ⟨by omega, g2, fun k hk => g3 k (by omega)⟩
      · rw [va_up_ne _ _ e]; exact i5 i hi
    · intro i hi
      by_cases e : i = t.toNat
      · subst e
        rw [va_up_self]
        exact fun k hk => i6 t.toNat hi k (by omega)
      · rw [va_up_ne _ _ e]; exact i6 i hi
    · intro i hi
      rw [va_up_ne _ _ (by omega)]; exact i8 i hi
theorem mid_ground (hI : Inv M ad tg am nt ng sp nn jj vt vw vr G sa sx sy ra gz va ac)  (h1 : (fun (r : Int32) (M1 : mM) => (4 ≤ ng ∧ r = iI (-1) ∧ M1 = M) ∨ (ng < 4 ∧ r = iI ng ∧ ∃ (ad2 : Nat → Nat → Nat → Nat) (tg2 : Nat → Nat × Nat × Nat), OvOk M1 ad2 nt (ng + 1) sp nn jj vt vw vr (va_up G ng.toNat (fun _ _ => false)) ∧ Tg tg2 ad2 nt (ng + 1) ∧ frB tg M M1 ∧ (∀ a, M a ≠ none → tg2 a = tg a) ∧ ad2 8 0 0 = ad 8 0 0)) r1 M1) : MoOk M1 am nt ng sp nn jj sa sx sy ra gz va ac := by
  rcases h1 with ⟨-, -, a3⟩ | ⟨-, -, ad2, tg2, -, -, fr, -⟩
  · rw [a3]; exact hI.2.2.1
  · exact mo_fr hI fr
theorem fin_ground (hI : Inv M ad tg am nt ng sp nn jj vt vw vr G sa sx sy ra gz va ac)   (h1 : (fun (r : Int32) (M1 : mM) => (4 ≤ ng ∧ r = iI (-1) ∧ M1 = M) ∨ (ng < 4 ∧ r = iI ng ∧ ∃ (ad2 : Nat → Nat → Nat → Nat) (tg2 : Nat → Nat × Nat × Nat), OvOk M1 ad2 nt (ng + 1) sp nn jj vt vw vr (va_up G ng.toNat (fun _ _ => false)) ∧ Tg tg2 ad2 nt (ng + 1) ∧ frB tg M M1 ∧ (∀ a, M a ≠ none → tg2 a = tg a) ∧ ad2 8 0 0 = ad 8 0 0)) r1 M1) (h2 : (fun (M : mM) => (fun (r : Int32) (M1 : mM) => (4 ≤ ng ∧ r = iI (-1) ∧ M1 = M) ∨ (ng < 4 ∧ r = iI ng ∧ MoOk M1 am nt (ng + 1) sp nn jj sa sx sy ra gz va ac ∧ (∀ a, (∀ i, i ≤ 10 → a ≠ am i) → M1 a = M a)))) M1 r2 M2) : r1 = r2 ∧ InvE M2 (ad 8 0 0) (am 0) := by
  obtain ⟨i1, i2, i3, i4, i5, i6, i7, i8, i9⟩ := id hI
  rcases h1 with ⟨a1, a2, a3⟩ | ⟨a1, a2, ad2, tg2, O2, T2, fr, tk, a8⟩ <;> rcases h2 with ⟨b1, b2, b3⟩ | ⟨b1, b2, O3, fr2⟩
  · subst a3 b3; exact ⟨a2.trans b2.symm, ad, tg, am, nt, ng, sp, nn, jj, vt, vw, vr, G, sa, sx, sy, ra, gz, va, ac, rfl, rfl, hI⟩
  · exact absurd a1 (by omega)
  · exact absurd a1 (by omega)
  · have nb := i1.2.2.2.2.2.2.2
    have hm : ∀ i, i ≤ 10 → 11 ≤ (tg2 (am i)).1 := fun i hi => by rw [tk (am i) (Mo_some i3 hi)]; exact i4 i hi
    refine ⟨a2.trans b2.symm, ad2, tg2, am, nt, ng + 1, sp, nn, jj, vt, vw, vr, va_up G ng.toNat (fun _ _ => false), sa, sx, sy, ra, gz, va, ac, a8, rfl, ov_fr O2 T2 hm fr2, T2, O3, hm, i5, i6, ?_, i8, fun k hk => i9 k (by omega)⟩
    intro i hi x y hx hy
    by_cases e : i = ng.toNat
    · subst e
      rw [va_up_self]
      exact (i9 (4096 * ng.toNat + 64 * x + y) (by omega)).symm
    · rw [va_up_ne _ _ e]; exact i7 i (by omega) x y hx hy
theorem mid_draw (hI : Inv M ad tg am nt ng sp nn jj vt vw vr G sa sx sy ra gz va ac) (t u v w : Int) (h1 : (fun (r : Int32) (M1 : mM) => (¬ ((0 ≤ t ∧ t < ng) ∧ (0 ≤ u ∧ u < 4096) ∧ (0 ≤ v ∧ v < 4096) ∧ u / 64 ≤ v / 64 ∧ u % 64 ≤ v % 64) ∧ r = iI (-1) ∧ OvOk M1 ad nt ng sp nn jj vt vw vr G ∧ frB tg M M1) ∨ (((0 ≤ t ∧ t < ng) ∧ (0 ≤ u ∧ u < 4096) ∧ (0 ≤ v ∧ v < 4096) ∧ u / 64 ≤ v / 64 ∧ u % 64 ≤ v % 64) ∧ r = iI (ct2 (drN (G t.toNat) u v w) 64 : Nat) ∧ OvOk M1 ad nt ng sp nn jj vt vw vr (va_up G t.toNat (drN (G t.toNat) u v w)) ∧ frB tg M M1)) r1 M1) : MoOk M1 am nt ng sp nn jj sa sx sy ra gz va ac := by
  rcases h1 with ⟨-, -, -, fr⟩ | ⟨-, -, -, fr⟩
  · exact mo_fr hI fr
  · exact mo_fr hI fr
theorem fin_draw (hI : Inv M ad tg am nt ng sp nn jj vt vw vr G sa sx sy ra gz va ac) (t u v w : Int) {wb : Bool} (hw : w = if wb = true then 1 else 0) (h1 : (fun (r : Int32) (M1 : mM) => (¬ ((0 ≤ t ∧ t < ng) ∧ (0 ≤ u ∧ u < 4096) ∧ (0 ≤ v ∧ v < 4096) ∧ u / 64 ≤ v / 64 ∧ u % 64 ≤ v % 64) ∧ r = iI (-1) ∧ OvOk M1 ad nt ng sp nn jj vt vw vr G ∧ frB tg M M1) ∨ (((0 ≤ t ∧ t < ng) ∧ (0 ≤ u ∧ u < 4096) ∧ (0 ≤ v ∧ v < 4096) ∧ u / 64 ≤ v / 64 ∧ u % 64 ≤ v % 64) ∧ r = iI (ct2 (drN (G t.toNat) u v w) 64 : Nat) ∧ OvOk M1 ad nt ng sp nn jj vt vw vr (va_up G t.toNat (drN (G t.toNat) u v w)) ∧ frB tg M M1)) r1 M1) (h2 : (fun (M : mM) => (fun (r : Int32) (M1 : mM) => (¬ ((0 ≤ t ∧ t < ng) ∧ (0 ≤ u ∧ u < 4096) ∧ (0 ≤ v ∧ v < 4096) ∧ u / 64 ≤ v / 64 ∧ u % 64 ≤ v % 64) ∧ r = iI (-1) ∧ M1 = M) ∨ (((0 ≤ t ∧ t < ng) ∧ (0 ≤ u ∧ u < 4096) ∧ (0 ≤ v ∧ v < 4096) ∧ u / 64 ≤ v / 64 ∧ u % 64 ≤ v % 64) ∧ r = iI (ctn (fun k => dz gz t u v wb 4096 (4096 * t.toNat + k)) 4096 : Nat) ∧ MoOk M1 am nt ng sp nn jj sa sx sy ra (dz gz t u v wb 4096) va ac ∧ (∀ a, (∀ i, i ≤ 10 → a ≠ am i) → M1 a = M a)))) M1 r2 M2) : r1 = r2 ∧ InvE M2 (ad 8 0 0) (am 0) := by
  obtain ⟨i1, i2, i3, i4, i5, i6, i7, i8, i9⟩ := id hI
  rcases h1 with ⟨a1, a2, O2, fr⟩ | ⟨a1, a2, O2, fr⟩ <;> rcases h2 with ⟨b1, b2, b3⟩ | ⟨b1, b2, O3, fr2⟩
  · subst b3
    exact ⟨a2.trans b2.symm, ad, tg, am, nt, ng, sp, nn, jj, vt, vw, vr, G, sa, sx, sy, ra, gz, va, ac, rfl, rfl, O2, i2, mo_fr hI fr, i4, i5, i6, i7, i8, i9⟩
  · exact absurd b1 a1
  · exact absurd a1 b1
  · have nb := i1.2.2.2.2.2.2.2
    have hS := i7 t.toNat (by omega)
    refine ⟨by rw [a2, b2, dr_ct hw (by omega) hS], ad, tg, am, nt, ng, sp, nn, jj, vt, vw, vr, va_up G t.toNat (drN (G t.toNat) u v w), sa, sx, sy, ra, dz gz t u v wb 4096, va, ac, rfl, rfl, ov_fr O2 i2 i4 fr2, i2, O3, i4, i5, i6, ?_, i8, fun k hk => by rw [dz_out (by omega)]; exact i9 k hk⟩
    intro i hi x y hx hy
    by_cases e : i = t.toNat
    · subst e
      rw [va_up_self]
      exact dr_eq hw (by omega) hS x y hx hy
    · rw [va_up_ne _ _ e, i7 i hi x y hx hy]
      exact (dz_out (k := 4096 * i + 64 * x + y) (by omega)).symm
theorem mid_entered (hI : Inv M ad tg am nt ng sp nn jj vt vw vr G sa sx sy ra gz va ac) (t v u w : Int) (h1 : (fun (r : Int32) (M1 : mM) => (¬ ((0 ≤ t ∧ t < nt) ∧ (0 ≤ v ∧ v < ng) ∧ (0 ≤ u ∧ u < 80) ∧ (0 ≤ w ∧ w < 80) ∧ u ≤ w) ∧ r = iI (-1) ∧ OvOk M1 ad nt ng sp nn jj vt vw vr G ∧ frB tg M M1) ∨ (((0 ≤ t ∧ t < nt) ∧ (0 ≤ v ∧ v < ng) ∧ (0 ≤ u ∧ u < 80) ∧ (0 ≤ w ∧ w < 80) ∧ u ≤ w) ∧ OvOk M1 ad nt ng sp nn jj vt vw vr G ∧ frB tg M M1 ∧ ((∃ d : Nat, u + d ≤ w ∧ noOut (stF (sp t.toNat) (vt t.toNat) (vw t.toNat) (vr t.toNat) (nn t.toNat).toNat) (sp t.toNat).toNat (G v.toNat) u.toNat d ∧ (∀ d2 : Nat, d2 < d → ¬ noOut (stF (sp t.toNat) (vt t.toNat) (vw t.toNat) (vr t.toNat) (nn t.toNat).toNat) (sp t.toNat).toNat (G v.toNat) u.toNat d2) ∧ r = iI (u + d)) ∨ ((∀ d : Nat, u + d ≤ w → ¬ noOut (stF (sp t.toNat) (vt t.toNat) (vw t.toNat) (vr t.toNat) (nn t.toNat).toNat) (sp t.toNat).toNat (G v.toNat) u.toNat d) ∧ r = iI (-1))))) r1 M1) : MoOk M1 am nt ng sp nn jj sa sx sy ra gz va ac := by
  rcases h1 with ⟨-, -, -, fr⟩ | ⟨-, -, fr, -⟩
  · exact mo_fr hI fr
  · exact mo_fr hI fr
theorem fin_entered (hI : Inv M ad tg am nt ng sp nn jj vt vw vr G sa sx sy ra gz va ac) (t v u w : Int)  (h1 : (fun (r : Int32) (M1 : mM) => (¬ ((0 ≤ t ∧ t < nt) ∧ (0 ≤ v ∧ v < ng) ∧ (0 ≤ u ∧ u < 80) ∧ (0 ≤ w ∧ w < 80) ∧ u ≤ w) ∧ r = iI (-1) ∧ OvOk M1 ad nt ng sp nn jj vt vw vr G ∧ frB tg M M1) ∨ (((0 ≤ t ∧ t < nt) ∧ (0 ≤ v ∧ v < ng) ∧ (0 ≤ u ∧ u < 80) ∧ (0 ≤ w ∧ w < 80) ∧ u ≤ w) ∧ OvOk M1 ad nt ng sp nn jj vt vw vr G ∧ frB tg M M1 ∧ ((∃ d : Nat, u + d ≤ w ∧ noOut (stF (sp t.toNat) (vt t.toNat) (vw t.toNat) (vr t.toNat) (nn t.toNat).toNat) (sp t.toNat).toNat (G v.toNat) u.toNat d ∧ (∀ d2 : Nat, d2 < d → ¬ noOut (stF (sp t.toNat) (vt t.toNat) (vw t.toNat) (vr t.toNat) (nn t.toNat).toNat) (sp t.toNat).toNat (G v.toNat) u.toNat d2) ∧ r = iI (u + d)) ∨ ((∀ d : Nat, u + d ≤ w → ¬ noOut (stF (sp t.toNat) (vt t.toNat) (vw t.toNat) (vr t.toNat) (nn t.toNat).toNat) (sp t.toNat).toNat (G v.toNat) u.toNat d) ∧ r = iI (-1))))) r1 M1) (h2 : (fun (M : mM) => (fun (r : Int32) (M1 : mM) => (¬ ((0 ≤ t ∧ t < nt) ∧ (0 ≤ v ∧ v < ng) ∧ (0 ≤ u ∧ u < 80) ∧ (0 ≤ w ∧ w < 80) ∧ u ≤ w) ∧ r = iI (-1) ∧ M1 = M) ∨ (((0 ≤ t ∧ t < nt) ∧ (0 ≤ v ∧ v < ng) ∧ (0 ≤ u ∧ u < 80) ∧ (0 ≤ w ∧ w < 80) ∧ u ≤ w) ∧ ∃ V A : Nat → Int, MoOk M1 am nt ng sp nn jj sa sx sy ra gz V A ∧ (∀ a, (∀ i, i ≤ 10 → a ≠ am i) → M1 a = M a) ∧ ((∃ d : Nat, u + d ≤ w ∧ (∀ j, j < 4096 → ¬ wvF 1 1000 0 (gS gz v.toNat) (mBF sp nn sa sx sy ra t.toNat) (sp t.toNat).toNat u.toNat (d + 1) j < 1000) ∧ (∀ d2 : Nat, d2 < d → ¬ (∀ j, j < 4096 → ¬ wvF 1 1000 0 (gS gz v.toNat) (mBF sp nn sa sx sy ra t.toNat) (sp t.toNat).toNat u.toNat (d2 + 1) j < 1000)) ∧ r = iI (u + d)) ∨ ((∀ d : Nat, u + d ≤ w → ¬ (∀ j, j < 4096 → ¬ wvF 1 1000 0 (gS gz v.toNat) (mBF sp nn sa sx sy ra t.toNat) (sp t.toNat).toNat u.toNat (d + 1) j < 1000)) ∧ r = iI (-1)))))) M1 r2 M2) : r1 = r2 ∧ InvE M2 (ad 8 0 0) (am 0) := by
  obtain ⟨i1, i2, i3, i4, i5, i6, i7, i8, i9⟩ := id hI
  rcases h1 with ⟨a1, a2, O2, fr⟩ | ⟨a1, O2, fr, a2⟩ <;> rcases h2 with ⟨b1, b2, b3⟩ | ⟨b1, V, A, O3, fr2, b2⟩
  · subst b3
    exact ⟨a2.trans b2.symm, ad, tg, am, nt, ng, sp, nn, jj, vt, vw, vr, G, sa, sx, sy, ra, gz, va, ac, rfl, rfl, O2, i2, mo_fr hI fr, i4, i5, i6, i7, i8, i9⟩
  · exact absurd b1 a1
  · exact absurd a1 b1
  · refine ⟨?_, ad, tg, am, nt, ng, sp, nn, jj, vt, vw, vr, G, sa, sx, sy, ra, gz, V, A, rfl, rfl, ov_fr O2 i2 i4 fr2, i2, O3, i4, i5, i6, i7, i8, i9⟩
    have e : ∀ d : Nat, u + d ≤ w → (noOut (stF (sp t.toNat) (vt t.toNat) (vw t.toNat) (vr t.toNat) (nn t.toNat).toNat) (sp t.toNat).toNat (G v.toNat) u.toNat d ↔ ∀ j, j < 4096 → ¬ wvF 1 1000 0 (gS gz v.toNat) (mBF sp nn sa sx sy ra t.toNat) (sp t.toNat).toNat u.toNat (d + 1) j < 1000) := fun d hd => (noOut_cong (i7 v.toNat (by omega)) (fun t2 ht => iv_F hI (by omega) t2 (by omega))).trans ent_eq
    rcases a2 with ⟨d, c1, c2, c3, c4⟩ | ⟨c1, c2⟩ <;> rcases b2 with ⟨d', e1, e2, e3, e4⟩ | ⟨e1, e2⟩
    · have hd : d = d' := by
        rcases Nat.lt_trichotomy d d' with q | q | q
        · exact absurd ((e d c1).mp c2) (e3 d q)
        · exact q
        · exact absurd ((e d' e1).mpr e2) (c3 d' q)
      rw [c4, e4, hd]
    · exact absurd ((e d c1).mp c2) (e1 d c1)
    · exact absurd ((e d' e1).mpr e2) (c1 d' e1)
    · exact c2.trans e2.symm
theorem mid_stay (hI : Inv M ad tg am nt ng sp nn jj vt vw vr G sa sx sy ra gz va ac) (t v u w x : Int) (h1 : (fun (r : Int32) (M1 : mM) => (¬ ((0 ≤ t ∧ t < nt) ∧ (0 ≤ v ∧ v < ng) ∧ (0 ≤ u ∧ u < 80) ∧ (0 ≤ w ∧ w < 80) ∧ u ≤ w ∧ (0 ≤ x ∧ x ≤ 1)) ∧ r = iI (-1) ∧ M1 = M) ∨ (((0 ≤ t ∧ t < nt) ∧ (0 ≤ v ∧ v < ng) ∧ (0 ≤ u ∧ u < 80) ∧ (0 ≤ w ∧ w < 80) ∧ u ≤ w ∧ (0 ≤ x ∧ x ≤ 1)) ∧ OvOk M1 ad nt ng sp nn jj vt vw vr G ∧ frB tg M M1 ∧ ∃ (z : Nat) (C : Nat → Nat → Bool), z ≤ 80 ∧ isMin (stF (sp t.toNat) (vt t.toNat) (vw t.toNat) (vr t.toNat) (nn t.toNat).toNat) (sp t.toNat).toNat C u.toNat (w - u).toNat z ∧ ((x = 0 ∧ (∀ a c : Nat, a < 64 → c < 64 → C a c = G v.toNat a c) ∧ r = iI z) ∨ (x = 1 ∧ (∀ a c : Nat, a < 64 → c < 64 → C a c = !G v.toNat a c) ∧ r = iI (w - u + 1 - z))))) r1 M1) : MoOk M1 am nt ng sp nn jj sa sx sy ra gz va ac := by
  rcases h1 with ⟨-, -, a3⟩ | ⟨-, -, fr, -⟩
  · rw [a3]; exact hI.2.2.1
  · exact mo_fr hI fr
theorem fin_stay (hI : Inv M ad tg am nt ng sp nn jj vt vw vr G sa sx sy ra gz va ac) (t v u w x : Int)  (h1 : (fun (r : Int32) (M1 : mM) => (¬ ((0 ≤ t ∧ t < nt) ∧ (0 ≤ v ∧ v < ng) ∧ (0 ≤ u ∧ u < 80) ∧ (0 ≤ w ∧ w < 80) ∧ u ≤ w ∧ (0 ≤ x ∧ x ≤ 1)) ∧ r = iI (-1) ∧ M1 = M) ∨ (((0 ≤ t ∧ t < nt) ∧ (0 ≤ v ∧ v < ng) ∧ (0 ≤ u ∧ u < 80) ∧ (0 ≤ w ∧ w < 80) ∧ u ≤ w ∧ (0 ≤ x ∧ x ≤ 1)) ∧ OvOk M1 ad nt ng sp nn jj vt vw vr G ∧ frB tg M M1 ∧ ∃ (z : Nat) (C : Nat → Nat → Bool), z ≤ 80 ∧ isMin (stF (sp t.toNat) (vt t.toNat) (vw t.toNat) (vr t.toNat) (nn t.toNat).toNat) (sp t.toNat).toNat C u.toNat (w - u).toNat z ∧ ((x = 0 ∧ (∀ a c : Nat, a < 64 → c < 64 → C a c = G v.toNat a c) ∧ r = iI z) ∨ (x = 1 ∧ (∀ a c : Nat, a < 64 → c < 64 → C a c = !G v.toNat a c) ∧ r = iI (w - u + 1 - z))))) r1 M1) (h2 : (fun (M : mM) => (fun (r : Int32) (M1 : mM) => (¬ ((0 ≤ t ∧ t < nt) ∧ (0 ≤ v ∧ v < ng) ∧ (0 ≤ u ∧ u < 80) ∧ (0 ≤ w ∧ w < 80) ∧ u ≤ w ∧ (0 ≤ x ∧ x ≤ 1)) ∧ r = iI (-1) ∧ M1 = M) ∨ (((0 ≤ t ∧ t < nt) ∧ (0 ≤ v ∧ v < ng) ∧ (0 ≤ u ∧ u < 80) ∧ (0 ≤ w ∧ w < 80) ∧ u ≤ w ∧ (0 ≤ x ∧ x ≤ 1)) ∧ ∃ V A : Nat → Int, MoOk M1 am nt ng sp nn jj sa sx sy ra gz V A ∧ (∀ a, (∀ i, i ≤ 10 → a ≠ am i) → M1 a = M a) ∧ ((x = 0 ∧ r = iI (btF 1 (wvF 1 1000 1 (gS gz v.toNat) (mBF sp nn sa sx sy ra t.toNat) (sp t.toNat).toNat u.toNat ((w - u).toNat + 1)) 1000 4096)) ∨ (x = 1 ∧ r = iI (btF 0 (wvF 0 (-1000) 1 (gS gz v.toNat) (mBF sp nn sa sx sy ra t.toNat) (sp t.toNat).toNat u.toNat ((w - u).toNat + 1)) (-1000) 4096)))))) M1 r2 M2) : r1 = r2 ∧ InvE M2 (ad 8 0 0) (am 0) := by
  obtain ⟨i1, i2, i3, i4, i5, i6, i7, i8, i9⟩ := id hI
  rcases h1 with ⟨a1, a2, a3⟩ | ⟨a1, O2, fr, z, C, z1, z2, a2⟩ <;> rcases h2 with ⟨b1, b2, b3⟩ | ⟨b1, V, A, O3, fr2, b2⟩
  · subst a3 b3; exact ⟨a2.trans b2.symm, ad, tg, am, nt, ng, sp, nn, jj, vt, vw, vr, G, sa, sx, sy, ra, gz, va, ac, rfl, rfl, hI⟩
  · exact absurd b1 a1
  · exact absurd a1 b1
  · refine ⟨?_, ad, tg, am, nt, ng, sp, nn, jj, vt, vw, vr, G, sa, sx, sy, ra, gz, V, A, rfl, rfl, ov_fr O2 i2 i4 fr2, i2, O3, i4, i5, i6, i7, i8, i9⟩
    have hF : ∀ t2, t2 ≤ u.toNat + (w - u).toNat → eqF (stF (sp t.toNat) (vt t.toNat) (vw t.toNat) (vr t.toNat) (nn t.toNat).toNat) (mBF sp nn sa sx sy ra t.toNat) t2 := fun t2 ht => iv_F hI (by omega) t2 (by omega)
    have hS := i7 v.toNat (by omega)
    rcases a2 with ⟨c1, c2, c3⟩ | ⟨c1, c2, c3⟩ <;> rcases b2 with ⟨e1, e2⟩ | ⟨e1, e2⟩
    · have := stay_least (isMin_cong (T := gS gz v.toNat) (fun x y hx hy => (c2 x y hx hy).trans (hS x y hx hy)) hF z2) z1
      rw [c3, e2, this]
    · exact absurd c1 (by omega)
    · exact absurd c1 (by omega)
    · have := stay_most (S := gS gz v.toNat) (isMin_cong (T := fun x y => !gS gz v.toNat x y) (fun x y hx hy => by rw [c2 x y hx hy, hS x y hx hy]) hF z2) z1
      rw [c3, e2, this]
      exact congrArg iI (by omega)
theorem mid_see (hI : Inv M ad tg am nt ng sp nn jj vt vw vr G sa sx sy ra gz va ac) (t u v w : Int) (h1 : (fun (r : Int32) (M1 : mM) => (¬ ((0 ≤ t ∧ t < nt) ∧ (0 ≤ u ∧ u < 80) ∧ (0 ≤ v ∧ v < 4096) ∧ (0 ≤ w ∧ w < 64)) ∧ r = iI (-1) ∧ M1 = M) ∨ (((0 ≤ t ∧ t < nt) ∧ (0 ≤ u ∧ u < 80) ∧ (0 ≤ v ∧ v < 4096) ∧ (0 ≤ w ∧ w < 64)) ∧ frB tg M M1 ∧ ((12 ≤ nn t.toNat ∧ r = iI (-1) ∧ M1 = M) ∨ (nn t.toNat < 12 ∧ (∀ t2 : Nat, t2 < 80 → neB (stF (sp t.toNat) (va_up (vt t.toNat) (nn t.toNat).toNat u) (va_up (vw t.toNat) (nn t.toNat).toNat v) (va_up (vr t.toNat) (nn t.toNat).toNat w) (nn t.toNat + 1).toNat) t2) ∧ r = iI (nn t.toNat + 1) ∧ OvOk M1 ad nt ng sp (va_up nn t.toNat (nn t.toNat + 1)) jj (va_up vt t.toNat (va_up (vt t.toNat) (nn t.toNat).toNat u)) (va_up vw t.toNat (va_up (vw t.toNat) (nn t.toNat).toNat v)) (va_up vr t.toNat (va_up (vr t.toNat) (nn t.toNat).toNat w)) G) ∨ (nn t.toNat < 12 ∧ ¬ (∀ t2 : Nat, t2 < 80 → neB (stF (sp t.toNat) (va_up (vt t.toNat) (nn t.toNat).toNat u) (va_up (vw t.toNat) (nn t.toNat).toNat v) (va_up (vr t.toNat) (nn t.toNat).toNat w) (nn t.toNat + 1).toNat) t2) ∧ r = iI (-1) ∧ OvOk M1 ad nt ng sp nn (va_up jj t.toNat (jj t.toNat + 1)) (va_up vt t.toNat (va_up (vt t.toNat) (nn t.toNat).toNat u)) (va_up vw t.toNat (va_up (vw t.toNat) (nn t.toNat).toNat v)) (va_up vr t.toNat (va_up (vr t.toNat) (nn t.toNat).toNat w)) G)))) r1 M1) : MoOk M1 am nt ng sp nn jj sa sx sy ra gz va ac := by
  rcases h1 with ⟨-, -, a3⟩ | ⟨-, fr, -⟩
  · rw [a3]; exact hI.2.2.1
  · exact mo_fr hI fr
theorem fin_see (hI : Inv M ad tg am nt ng sp nn jj vt vw vr G sa sx sy ra gz va ac) (t u v w : Int)  (h1 : (fun (r : Int32) (M1 : mM) => (¬ ((0 ≤ t ∧ t < nt) ∧ (0 ≤ u ∧ u < 80) ∧ (0 ≤ v ∧ v < 4096) ∧ (0 ≤ w ∧ w < 64)) ∧ r = iI (-1) ∧ M1 = M) ∨ (((0 ≤ t ∧ t < nt) ∧ (0 ≤ u ∧ u < 80) ∧ (0 ≤ v ∧ v < 4096) ∧ (0 ≤ w ∧ w < 64)) ∧ frB tg M M1 ∧ ((12 ≤ nn t.toNat ∧ r = iI (-1) ∧ M1 = M) ∨ (nn t.toNat < 12 ∧ (∀ t2 : Nat, t2 < 80 → neB (stF (sp t.toNat) (va_up (vt t.toNat) (nn t.toNat).toNat u) (va_up (vw t.toNat) (nn t.toNat).toNat v) (va_up (vr t.toNat) (nn t.toNat).toNat w) (nn t.toNat + 1).toNat) t2) ∧ r = iI (nn t.toNat + 1) ∧ OvOk M1 ad nt ng sp (va_up nn t.toNat (nn t.toNat + 1)) jj (va_up vt t.toNat (va_up (vt t.toNat) (nn t.toNat).toNat u)) (va_up vw t.toNat (va_up (vw t.toNat) (nn t.toNat).toNat v)) (va_up vr t.toNat (va_up (vr t.toNat) (nn t.toNat).toNat w)) G) ∨ (nn t.toNat < 12 ∧ ¬ (∀ t2 : Nat, t2 < 80 → neB (stF (sp t.toNat) (va_up (vt t.toNat) (nn t.toNat).toNat u) (va_up (vw t.toNat) (nn t.toNat).toNat v) (va_up (vr t.toNat) (nn t.toNat).toNat w) (nn t.toNat + 1).toNat) t2) ∧ r = iI (-1) ∧ OvOk M1 ad nt ng sp nn (va_up jj t.toNat (jj t.toNat + 1)) (va_up vt t.toNat (va_up (vt t.toNat) (nn t.toNat).toNat u)) (va_up vw t.toNat (va_up (vw t.toNat) (nn t.toNat).toNat v)) (va_up vr t.toNat (va_up (vr t.toNat) (nn t.toNat).toNat w)) G)))) r1 M1) (h2 : (fun (M : mM) => (fun (r : Int32) (M1 : mM) => (¬ ((0 ≤ t ∧ t < nt) ∧ (0 ≤ u ∧ u < 80) ∧ (0 ≤ v ∧ v < 4096) ∧ (0 ≤ w ∧ w < 64) ∧ nn t.toNat < 12) ∧ r = iI (-1) ∧ M1 = M) ∨ (((0 ≤ t ∧ t < nt) ∧ (0 ≤ u ∧ u < 80) ∧ (0 ≤ v ∧ v < 4096) ∧ (0 ≤ w ∧ w < 64) ∧ nn t.toNat < 12) ∧ (∀ a, (∀ i, i ≤ 10 → a ≠ am i) → M1 a = M a) ∧ (((∀ t2 : Nat, t2 < 80 → (loM 1 sp (va_up nn t.toNat (nn t.toNat + 1)) (va_up sa (12 * t + nn t.toNat).toNat u) (va_up sx (12 * t + nn t.toNat).toNat (v / 64)) (va_up sy (12 * t + nn t.toNat).toNat (v % 64)) (va_up ra (12 * t + nn t.toNat).toNat w) t.toNat t2 ≤ hiM 1 sp (va_up nn t.toNat (nn t.toNat + 1)) (va_up sa (12 * t + nn t.toNat).toNat u) (va_up sx (12 * t + nn t.toNat).toNat (v / 64)) (va_up sy (12 * t + nn t.toNat).toNat (v % 64)) (va_up ra (12 * t + nn t.toNat).toNat w) t.toNat t2 ∧ loM 0 sp (va_up nn t.toNat (nn t.toNat + 1)) (va_up sa (12 * t + nn t.toNat).toNat u) (va_up sx (12 * t + nn t.toNat).toNat (v / 64)) (va_up sy (12 * t + nn t.toNat).toNat (v % 64)) (va_up ra (12 * t + nn t.toNat).toNat w) t.toNat t2 ≤ hiM 0 sp (va_up nn t.toNat (nn t.toNat + 1)) (va_up sa (12 * t + nn t.toNat).toNat u) (va_up sx (12 * t + nn t.toNat).toNat (v / 64)) (va_up sy (12 * t + nn t.toNat).toNat (v % 64)) (va_up ra (12 * t + nn t.toNat).toNat w) t.toNat t2)) ∧ r = iI (nn t.toNat + 1) ∧ MoOk M1 am nt ng sp (va_up nn t.toNat (nn t.toNat + 1)) jj (va_up sa (12 * t + nn t.toNat).toNat u) (va_up sx (12 * t + nn t.toNat).toNat (v / 64)) (va_up sy (12 * t + nn t.toNat).toNat (v % 64)) (va_up ra (12 * t + nn t.toNat).toNat w) gz va ac) ∨ (¬ (∀ t2 : Nat, t2 < 80 → (loM 1 sp (va_up nn t.toNat (nn t.toNat + 1)) (va_up sa (12 * t + nn t.toNat).toNat u) (va_up sx (12 * t + nn t.toNat).toNat (v / 64)) (va_up sy (12 * t + nn t.toNat).toNat (v % 64)) (va_up ra (12 * t + nn t.toNat).toNat w) t.toNat t2 ≤ hiM 1 sp (va_up nn t.toNat (nn t.toNat + 1)) (va_up sa (12 * t + nn t.toNat).toNat u) (va_up sx (12 * t + nn t.toNat).toNat (v / 64)) (va_up sy (12 * t + nn t.toNat).toNat (v % 64)) (va_up ra (12 * t + nn t.toNat).toNat w) t.toNat t2 ∧ loM 0 sp (va_up nn t.toNat (nn t.toNat + 1)) (va_up sa (12 * t + nn t.toNat).toNat u) (va_up sx (12 * t + nn t.toNat).toNat (v / 64)) (va_up sy (12 * t + nn t.toNat).toNat (v % 64)) (va_up ra (12 * t + nn t.toNat).toNat w) t.toNat t2 ≤ hiM 0 sp (va_up nn t.toNat (nn t.toNat + 1)) (va_up sa (12 * t + nn t.toNat).toNat u) (va_up sx (12 * t + nn t.toNat).toNat (v / 64)) (va_up sy (12 * t + nn t.toNat).toNat (v % 64)) (va_up ra (12 * t + nn t.toNat).toNat w) t.toNat t2)) ∧ r = iI (-1) ∧ MoOk M1 am nt ng sp nn (va_up jj t.toNat (jj t.toNat + 1)) (va_up sa (12 * t + nn t.toNat).toNat u) (va_up sx (12 * t + nn t.toNat).toNat (v / 64)) (va_up sy (12 * t + nn t.toNat).toNat (v % 64)) (va_up ra (12 * t + nn t.toNat).toNat w) gz va ac))))) M1 r2 M2) : r1 = r2 ∧ InvE M2 (ad 8 0 0) (am 0) := by
  obtain ⟨i1, i2, i3, i4, i5, i6, i7, i8, i9⟩ := id hI
  have nb := i1.2.2.2.2.2.2.2
  have n9 := iv_nn hI t.toNat
  have off : ∀ i : Nat, (i : Int) < nt → i ≠ t.toNat → 0 ≤ t → nn t.toNat < 12 → ∀ k : Nat, (k : Int) < nn i → 12 * i + k ≠ (12 * t + nn t.toNat).toNat := fun i hi hn h0 h12 k hk => by
    have := iv_nn hI i
    omega
  rcases h1 with ⟨a1, a2, a3⟩ | ⟨a1, fr, a2⟩ <;> rcases h2 with ⟨b1, b2, b3⟩ | ⟨b1, fr2, b2⟩
  · subst a3 b3; exact ⟨a2.trans b2.symm, ad, tg, am, nt, ng, sp, nn, jj, vt, vw, vr, G, sa, sx, sy, ra, gz, va, ac, rfl, rfl, hI⟩
  · exact absurd ⟨b1.1, b1.2.1, b1.2.2.1, b1.2.2.2.1⟩ a1
  · rcases a2 with ⟨c1, c2, c3⟩ | ⟨c1, -⟩ | ⟨c1, -⟩
    · subst c3 b3; exact ⟨c2.trans b2.symm, ad, tg, am, nt, ng, sp, nn, jj, vt, vw, vr, G, sa, sx, sy, ra, gz, va, ac, rfl, rfl, hI⟩
    · exact absurd ⟨a1.1, a1.2.1, a1.2.2.1, a1.2.2.2, c1⟩ b1
    · exact absurd ⟨a1.1, a1.2.1, a1.2.2.1, a1.2.2.2, c1⟩ b1
  · have gd2 := mGd_up i5 (t := t) (u := u) (v := v) (w := w) (by omega) (by omega) (by omega) (by omega) (by omega) (by omega)
    have rw2 := rowE_up (ix := (12 * t + nn t.toNat).toNat) (u := u) (v := v) (w := w) (i6 t.toNat (by omega)) (by omega) (by omega)
    have hF : ∀ t2, t2 < 80 → eqF (stF (sp t.toNat) (va_up (vt t.toNat) (nn t.toNat).toNat u) (va_up (vw t.toNat) (nn t.toNat).toNat v) (va_up (vr t.toNat) (nn t.toNat).toNat w) (nn t.toNat + 1).toNat) (mBF sp (va_up nn t.toNat (nn t.toNat + 1)) (va_up sa (12 * t + nn t.toNat).toNat u) (va_up sx (12 * t + nn t.toNat).toNat (v / 64)) (va_up sy (12 * t + nn t.toNat).toNat (v % 64)) (va_up ra (12 * t + nn t.toNat).toNat w) t.toNat) t2 := fun t2 ht => by
      have h9 := F_eq gd2 (i := t.toNat) (by omega) (by rw [va_up_self]; exact rw2) ht
      rw [va_up_self] at h9
      exact h9
    have can : (∀ t2 : Nat, t2 < 80 → neB (stF (sp t.toNat) (va_up (vt t.toNat) (nn t.toNat).toNat u) (va_up (vw t.toNat) (nn t.toNat).toNat v) (va_up (vr t.toNat) (nn t.toNat).toNat w) (nn t.toNat + 1).toNat) t2) ↔ (∀ t2 : Nat, t2 < 80 → (loM 1 sp (va_up nn t.toNat (nn t.toNat + 1)) (va_up sa (12 * t + nn t.toNat).toNat u) (va_up sx (12 * t + nn t.toNat).toNat (v / 64)) (va_up sy (12 * t + nn t.toNat).toNat (v % 64)) (va_up ra (12 * t + nn t.toNat).toNat w) t.toNat t2 ≤ hiM 1 sp (va_up nn t.toNat (nn t.toNat + 1)) (va_up sa (12 * t + nn t.toNat).toNat u) (va_up sx (12 * t + nn t.toNat).toNat (v / 64)) (va_up sy (12 * t + nn t.toNat).toNat (v % 64)) (va_up ra (12 * t + nn t.toNat).toNat w) t.toNat t2 ∧ loM 0 sp (va_up nn t.toNat (nn t.toNat + 1)) (va_up sa (12 * t + nn t.toNat).toNat u) (va_up sx (12 * t + nn t.toNat).toNat (v / 64)) (va_up sy (12 * t + nn t.toNat).toNat (v % 64)) (va_up ra (12 * t + nn t.toNat).toNat w) t.toNat t2 ≤ hiM 0 sp (va_up nn t.toNat (nn t.toNat + 1)) (va_up sa (12 * t + nn t.toNat).toNat u) (va_up sx (12 * t + nn t.toNat).toNat (v / 64)) (va_up sy (12 * t + nn t.toNat).toNat (v % 64)) (va_up ra (12 * t + nn t.toNat).toNat w) t.toNat t2)) := by
      have one : ∀ t2 : Nat, t2 < 80 → (neB (stF (sp t.toNat) (va_up (vt t.toNat) (nn t.toNat).toNat u) (va_up (vw t.toNat) (nn t.toNat).toNat v) (va_up (vr t.toNat) (nn t.toNat).toNat w) (nn t.toNat + 1).toNat) t2 ↔ (loM 1 sp (va_up nn t.toNat (nn t.toNat + 1)) (va_up sa (12 * t + nn t.toNat).toNat u) (va_up sx (12 * t + nn t.toNat).toNat (v / 64)) (va_up sy (12 * t + nn t.toNat).toNat (v % 64)) (va_up ra (12 * t + nn t.toNat).toNat w) t.toNat t2 ≤ hiM 1 sp (va_up nn t.toNat (nn t.toNat + 1)) (va_up sa (12 * t + nn t.toNat).toNat u) (va_up sx (12 * t + nn t.toNat).toNat (v / 64)) (va_up sy (12 * t + nn t.toNat).toNat (v % 64)) (va_up ra (12 * t + nn t.toNat).toNat w) t.toNat t2 ∧ loM 0 sp (va_up nn t.toNat (nn t.toNat + 1)) (va_up sa (12 * t + nn t.toNat).toNat u) (va_up sx (12 * t + nn t.toNat).toNat (v / 64)) (va_up sy (12 * t + nn t.toNat).toNat (v % 64)) (va_up ra (12 * t + nn t.toNat).toNat w) t.toNat t2 ≤ hiM 0 sp (va_up nn t.toNat (nn t.toNat + 1)) (va_up sa (12 * t + nn t.toNat).toNat u) (va_up sx (12 * t + nn t.toNat).toNat (v / 64)) (va_up sy (12 * t + nn t.toNat).toNat (v % 64)) (va_up ra (12 * t + nn t.toNat).toNat w) t.toNat t2)) := fun t2 ht => by
        unfold neB
        rw [hF t2 ht 0 (by omega), hF t2 ht 1 (by omega), hF t2 ht 2 (by omega), hF t2 ht 3 (by omega)]
        exact Iff.rfl
      exact ⟨fun h t2 ht => (one t2 ht).mp (h t2 ht), fun h t2 ht => (one t2 ht).mpr (h t2 ht)⟩
    rcases a2 with ⟨c1, c2, c3⟩ | ⟨c1, c0, c2, O2⟩ | ⟨c1, c0, c2, O2⟩ <;> rcases b2 with ⟨e0, e2, O3⟩ | ⟨e0, e2, O3⟩
    · exact absurd b1.2.2.2.2 (by omega)
    · exact absurd b1.2.2.2.2 (by omega)
    · refine ⟨c2.trans e2.symm, ad, tg, am, nt, ng, sp, va_up nn t.toNat (nn t.toNat + 1), jj, va_up vt t.toNat (va_up (vt t.toNat) (nn t.toNat).toNat u), va_up vw t.toNat (va_up (vw t.toNat) (nn t.toNat).toNat v), va_up vr t.toNat (va_up (vr t.toNat) (nn t.toNat).toNat w), G, va_up sa (12 * t + nn t.toNat).toNat u, va_up sx (12 * t + nn t.toNat).toNat (v / 64), va_up sy (12 * t + nn t.toNat).toNat (v % 64), va_up ra (12 * t + nn t.toNat).toNat w, gz, va, ac, rfl, rfl, ov_fr O2 i2 i4 fr2, i2, O3, i4, gd2, ?_, i7, ?_, i9⟩
      · intro i hi
        by_cases e : i = t.toNat
        · subst e
          rw [va_up_self, va_up_self, va_up_self, va_up_self]; exact rw2
        · rw [va_up_ne _ _ e, va_up_ne _ _ e, va_up_ne _ _ e, va_up_ne _ _ e]; exact rowE_off (i6 i hi) (off i hi e (by omega) b1.2.2.2.2)
      · intro i hi
        rw [va_up_ne _ _ (by omega)]; exact i8 i hi
    · exact absurd (can.mp c0) e0
    · exact absurd (can.mpr e0) c0
    · have selfoff : ∀ k : Nat, (k : Int) < nn t.toNat → 12 * t.toNat + k ≠ (12 * t + nn t.toNat).toNat := fun k hk => by omega
      refine ⟨c2.trans e2.symm, ad, tg, am, nt, ng, sp, nn, va_up jj t.toNat (jj t.toNat + 1), va_up vt t.toNat (va_up (vt t.toNat) (nn t.toNat).toNat u), va_up vw t.toNat (va_up (vw t.toNat) (nn t.toNat).toNat v), va_up vr t.toNat (va_up (vr t.toNat) (nn t.toNat).toNat w), G, va_up sa (12 * t + nn t.toNat).toNat u, va_up sx (12 * t + nn t.toNat).toNat (v / 64), va_up sy (12 * t + nn t.toNat).toNat (v % 64), va_up ra (12 * t + nn t.toNat).toNat w, gz, va, ac, rfl, rfl, ov_fr O2 i2 i4 fr2, i2, O3, i4, ?_, ?_, i7, ?_, i9⟩
      · intro i hi
        obtain ⟨g1, g2, g3⟩ := i5 i hi
        refine ⟨g1, g2, mSo_off g3 ?_⟩
        by_cases e : i = t.toNat
        · subst e; exact selfoff
        · exact off i hi e (by omega) b1.2.2.2.2
      · intro i hi
        by_cases e : i = t.toNat
        · subst e
          rw [va_up_self, va_up_self, va_up_self]; exact rowE_off (rowE_on (i6 t.toNat hi)) selfoff
        · rw [va_up_ne _ _ e, va_up_ne _ _ e, va_up_ne _ _ e]; exact rowE_off (i6 i hi) (off i hi e (by omega) b1.2.2.2.2)
      · intro i hi
        rw [va_up_ne _ _ (by omega)]; exact i8 i hi
end STEP
