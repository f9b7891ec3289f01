def am11 (a0 a1 a2 a3 a4 a5 a6 a7 a8 a9 a10 : Nat) : Nat → Nat
  | 0 => a0 | 1 => a1 | 2 => a2 | 3 => a3 | 4 => a4 | 5 => a5 | 6 => a6 | 7 => a7 | 8 => a8 | 9 => a9 | _ => a10
theorem inj11 {am : Nat → Nat} (h : ∀ j, j ≤ 10 → ∀ i, i < j → am i ≠ am j) : ∀ i j, i ≤ 10 → j ≤ 10 → am i = am j → i = j := fun i j hi hj he => by
  rcases Nat.lt_trichotomy i j with q | q | q
  · exact absurd he (h j hj i q)
  · exact q
  · exact absurd he.symm (h i hi j q)
theorem aQ_ne {C C2 : String} {n n2 : Nat} {v v2 : Nat → Option Nat} (h : n ≠ n2) : aQ C n v ≠ aQ C2 n2 v2 := fun e => h (by have e1 := Sum.inl.inj e; exact (Prod.mk.inj (Prod.mk.inj e1).2).1)
/-- the tags of a watch just made -/
noncomputable def tgI (o q1 q2 ta lv q3 r3 : Nat) (pk rk : Nat → Nat) (a : Nat) : Nat × Nat × Nat := if a = o then (8, 0, 0) else if a = q1 then (9, 0, 0) else if a = q2 then (10, 0, 0) else if a = ta then (6, 0, 0) else if a = lv then (7, 0, 0) else if a = q3 then (4, 4, 0) else if a = r3 then (5, 4, 0) else
  @dite _ (∃ k, k < 81 ∧ pk k = a) (Classical.propDecidable _) (fun h => (4, 5 + h.choose, 0)) (fun _ => @dite _ (∃ k, k < 81 ∧ rk k = a) (Classical.propDecidable _) (fun h => (5, 5 + h.choose, 0)) (fun _ => (11, 0, 0)))
theorem Ov_init {N : mM} {o q1 q2 ta lv q3 r3 : Nat} {pk rk : Nat → Nat} {lf : Nat → Option Nat} (c1 : N o = some (.inr (4, [.ref q1, .ref q2, .ref q3, .ref ta, .int (iI 0), .int (iI 0)]))) (c2 : N q1 = some (aQ RX3 6 (fun _ => none))) (c3 : N q2 = some (aQ RX1 4 (fun _ => none))) (c4 : N q3 = some (Pl r3)) (c5 : N r3 = some (aL 64 (fun _ _ => false))) (c6 : TaOk N ta lv lf pk rk 0 0 (fun _ _ _ => false)) (d1 : ∀ k, k < 81 → pk k ≠ q3) (d2 : ∀ k, k < 81 → rk k ≠ r3) :
    ∃ (ad : Nat → Nat → Nat → Nat) (tg : Nat → Nat × Nat × Nat), ad 8 0 0 = o ∧ (∀ (sp nn jj : Nat → Int) (vt vw vr : Nat → Nat → Int) (G : Nat → Nat → Nat → Bool), OvOk N ad 0 0 sp nn jj vt vw vr G) ∧ Tg tg ad 0 0 ∧ ∀ a, N a = none → tg a = (11, 0, 0) := by
  obtain ⟨t1, t2, t3, t4, t5, t6⟩ := id c6
  have pinj : ∀ k k2, k < 81 → k2 < 81 → pk k = pk k2 → k = k2 := fun k k2 h h2 he => by
    have e1 := t4 k h
    rw [he, t4 k2 h2] at e1
    have e2 := Option.some.inj e1
    injection e2 with e3
    injection e3 with e4 e5
    injection e5 with e6 e7
    injection e6 with e8
    exact t6 k k2 h h2 e8.symm
  refine ⟨fun k i _ => if k = 4 then (if i = 4 then q3 else pk (i - 5)) else if k = 5 then (if i = 4 then r3 else rk (i - 5)) else if k = 6 then ta else if k = 7 then lv else if k = 8 then o else if k = 9 then q1 else q2, tgI o q1 q2 ta lv q3 r3 pk rk, rfl, fun sp nn jj vt vw vr G => ⟨c1, ⟨_, c2, fun i hi => absurd hi (by omega), fun _ _ => rfl⟩, ⟨_, c3, fun i hi => absurd hi (by omega)⟩, fun i hi => absurd hi (by omega), fun i hi => absurd hi (by omega), ⟨_, c4, c5⟩, ⟨lf, 0, 0, fun _ _ _ => false, ?_⟩, ⟨by omega, by omega, by omega, by omega⟩⟩, ?_, ?_⟩
  · have e1 : (fun k => if 4 = 4 then (if 5 + k = 4 then q3 else pk (5 + k - 5)) else if 4 = 5 then (if 5 + k = 4 then r3 else rk (5 + k - 5)) else if 4 = 6 then ta else if 4 = 7 then lv else if 4 = 8 then o else if 4 = 9 then q1 else q2) = pk := funext fun k => by rw [if_pos rfl, if_neg (by omega), show 5 + k - 5 = k by omega]
    have e2 : (fun k => if 5 = 4 then (if 5 + k = 4 then q3 else pk (5 + k - 5)) else if 5 = 5 then (if 5 + k = 4 then r3 else rk (5 + k - 5)) else if 5 = 6 then ta else if 5 = 7 then lv else if 5 = 8 then o else if 5 = 9 then q1 else q2) = rk := funext fun k => by rw [if_neg (by omega), if_pos rfl, if_neg (by omega), show 5 + k - 5 = k by omega]
    show TaOk N ta lv lf (fun k => if 4 = 4 then (if 5 + k = 4 then q3 else pk (5 + k - 5)) else if 4 = 5 then (if 5 + k = 4 then r3 else rk (5 + k - 5)) else if 4 = 6 then ta else if 4 = 7 then lv else if 4 = 8 then o else if 4 = 9 then q1 else q2) (fun k => if 5 = 4 then (if 5 + k = 4 then q3 else pk (5 + k - 5)) else if 5 = 5 then (if 5 + k = 4 then r3 else rk (5 + k - 5)) else if 5 = 6 then ta else if 5 = 7 then lv else if 5 = 8 then o else if 5 = 9 then q1 else q2) 0 0 (fun _ _ _ => false)
    rw [e1, e2]
    exact c6
  · intro k i t hl
    unfold live at hl
    rcases hl with h | h | h | h | ⟨h0, h, rfl⟩ | ⟨h0, rfl, rfl⟩
    · exact absurd h.2.1 (by omega)
    · exact absurd h.2.1 (by omega)
    · exact absurd h.2.1 (by omega)
    · exact absurd h.2.1 (by omega)
    · rcases h0 with rfl | rfl
      · by_cases h4 : i = 4
        · subst h4
          show tgI o q1 q2 ta lv q3 r3 pk rk q3 = _
          unfold tgI
          rw [if_neg (mne c4 c1 (by intro h; cases h)), if_neg (mne c4 c2 (by intro h; cases h)), if_neg (mne c4 c3 (by intro h; cases h)), if_neg (mne c4 t1 (by intro h; cases h)), if_neg (mne c4 t2 (by intro h; cases h)), if_pos rfl]
        · have hp := t4 (i - 5) (by omega)
          show tgI o q1 q2 ta lv q3 r3 pk rk (if i = 4 then q3 else pk (i - 5)) = _
          rw [if_neg h4]
          unfold tgI
          rw [if_neg (mne hp c1 (by intro h; cases h)), if_neg (mne hp c2 (by intro h; cases h)), if_neg (mne hp c3 (by intro h; cases h)), if_neg (mne hp t1 (by intro h; cases h)), if_neg (mne hp t2 (by intro h; cases h)), if_neg (d1 _ (by omega)), if_neg (mne hp c5 (by intro h; cases h))]
          have hex : ∃ k, k < 81 ∧ pk k = pk (i - 5) := ⟨i - 5, by omega, rfl⟩
          rw [dif_pos hex]
          have := pinj _ _ hex.choose_spec.1 (by omega) hex.choose_spec.2
          rw [this, show 5 + (i - 5) = i by omega]
      · by_cases h4 : i = 4
        · subst h4
          show tgI o q1 q2 ta lv q3 r3 pk rk r3 = _
          unfold tgI
          rw [if_neg (mne c5 c1 (by intro h; cases h)), if_neg (mne c5 c2 (by intro h; cases h)), if_neg (mne c5 c3 (by intro h; cases h)), if_neg (mne c5 t1 (by intro h; cases h)), if_neg (mne c5 t2 (by intro h; cases h)), if_neg (mne c5 c4 (by intro h; cases h)), if_pos rfl]
        · have hp := t5 (i - 5) (by omega)
          show tgI o q1 q2 ta lv q3 r3 pk rk (if i = 4 then r3 else rk (i - 5)) = _
          rw [if_neg h4]
          unfold tgI
          rw [if_neg (mne hp c1 (by intro h; cases h)), if_neg (mne hp c2 (by intro h; cases h)), if_neg (mne hp c3 (by intro h; cases h)), if_neg (mne hp t1 (by intro h; cases h)), if_neg (mne hp t2 (by intro h; cases h)), if_neg (mne hp c4 (by intro h; cases h)), if_neg (d2 _ (by omega))]
          rw [dif_neg (fun ⟨k, h1, h2⟩ => mne (t4 k h1) hp (by intro h; cases h) h2)]
          have hex : ∃ k, k < 81 ∧ rk k = rk (i - 5) := ⟨i - 5, by omega, rfl⟩
          rw [dif_pos hex]
          have := t6 _ _ hex.choose_spec.1 (by omega) hex.choose_spec.2
          rw [this, show 5 + (i - 5) = i by omega]
    · rcases (show k = 6 ∨ k = 7 ∨ k = 8 ∨ k = 9 ∨ k = 10 by omega) with rfl | rfl | rfl | rfl | rfl
      · show tgI o q1 q2 ta lv q3 r3 pk rk ta = _
        unfold tgI
        rw [if_neg (mne t1 c1 (by intro h; cases h)), if_neg (mne t1 c2 (by intro h; cases h)), if_neg (mne t1 c3 (by intro h; cases h)), if_pos rfl]
      · show tgI o q1 q2 ta lv q3 r3 pk rk lv = _
        unfold tgI
        rw [if_neg (mne t2 c1 (by intro h; cases h)), if_neg (mne t2 c2 (aQ_ne (by decide))), if_neg (mne t2 c3 (aQ_ne (by decide))), if_neg (mne t2 t1 (by intro h; cases h)), if_pos rfl]
      · show tgI o q1 q2 ta lv q3 r3 pk rk o = _
        unfold tgI
        rw [if_pos rfl]
      · show tgI o q1 q2 ta lv q3 r3 pk rk q1 = _
        unfold tgI
        rw [if_neg (mne c2 c1 (by intro h; cases h)), if_pos rfl]
      · show tgI o q1 q2 ta lv q3 r3 pk rk q2 = _
        unfold tgI
        rw [if_neg (mne c3 c1 (by intro h; cases h)), if_neg (mne c3 c2 (aQ_ne (by decide))), if_pos rfl]
  · intro a ha
    have no : ∀ {x : Nat} {v : mE}, N x = some v → a ≠ x := fun h => (mfresh ha h).symm
    unfold tgI
    rw [if_neg (no c1), if_neg (no c2), if_neg (no c3), if_neg (no t1), if_neg (no t2), if_neg (no c4), if_neg (no c5), dif_neg (fun ⟨k, h1, h2⟩ => no (t4 k h1) h2.symm), dif_neg (fun ⟨k, h1, h2⟩ => no (t5 k h1) h2.symm)]
/-- a thing comes -/
noncomputable def tgT (M : mM) (tg : Nat → Nat × Nat × Nat) (n th tk wh ra rc : Nat) (bx : Nat → Nat) (a : Nat) : Nat × Nat × Nat := @ite _ (M a = none) (Classical.propDecidable _) (if a = th then (0, n, 0) else if a = tk then (1, n, 0) else if a = wh then (1, n, 1) else if a = ra then (1, n, 2) else if a = rc then (2, n, 0) else @dite _ (∃ t, t < 80 ∧ bx t = a) (Classical.propDecidable _) (fun h => (3, n, h.choose)) (fun _ => tg a)) (tg a)
def adT (ad : Nat → Nat → Nat → Nat) (n th tk wh ra rc : Nat) (bx : Nat → Nat) (k i t : Nat) : Nat := if i = n ∧ k ≤ 3 then (if k = 0 then th else if k = 1 then (if t = 0 then tk else if t = 1 then wh else ra) else if k = 2 then rc else bx t) else ad k i t
theorem live_dt {nt ng : Int} {k i t : Nat} (hl : live (nt + 1) ng k i t) (h : ¬ (i = nt.toNat ∧ k ≤ 3)) : live nt ng k i t := by
  rcases hl with ⟨g1, g2, g3⟩ | ⟨g1, g2, g3⟩ | ⟨g1, g2, g3⟩ | ⟨g1, g2, g3⟩ | g | g
  · exact Or.inl ⟨g1, by omega, g3⟩
  · exact Or.inr (Or.inl ⟨g1, by omega, g3⟩)
  · exact Or.inr (Or.inr (Or.inl ⟨g1, by omega, g3⟩))
  · exact Or.inr (Or.inr (Or.inr (Or.inl ⟨g1, by omega, g3⟩)))
  · exact Or.inr (Or.inr (Or.inr (Or.inr (Or.inl g))))
  · exact Or.inr (Or.inr (Or.inr (Or.inr (Or.inr g))))
theorem Ov_newth {M M1 : mM} {ad : Nat → Nat → Nat → Nat} {nt ng : Int} {sp nn jj : Nat → Int} {vt vw vr : Nat → Nat → Int} {G : Nat → Nat → Nat → Bool} {tg : Nat → Nat × Nat × Nat} (hO : OvOk M ad nt ng sp nn jj vt vw vr G) (hT : Tg tg ad nt ng) (hnt : nt < 6) {th tk wh ra rc : Nat} {rf : Nat → Option Nat} {bx : Nat → Nat} {s : Int} (hs : 0 ≤ s ∧ s ≤ 7) (hn0 : M th = none) (hn1 : M tk = none) (hn2 : M wh = none) (hn3 : M ra = none) (hn4 : M rc = none) (hnb : ∀ t, t < 80 → M (bx t) = none) {tf : Nat → Option Nat} (htf : M (ad 9 0 0) = some (aQ RX3 6 tf))
    (hth : ThOk M1 th tk wh ra rc rf bx s 0 0 (fun _ => 0) (fun _ => 0) (fun _ => 0) (stF s (fun _ => 0) (fun _ => 0) (fun _ => 0) 0)) (m3 : M1 (ad 8 0 0) = some (Ov ad (nt + 1) ng)) (m4 : M1 (ad 9 0 0) = some (aQ RX3 6 (va_up tf nt.toNat (some th)))) (hk : ∀ a, M a ≠ none → a ≠ ad 8 0 0 → a ≠ ad 9 0 0 → M1 a = M a) :
    ∃ (ad2 : Nat → Nat → Nat → Nat) (tg2 : Nat → Nat × Nat × Nat), OvOk M1 ad2 (nt + 1) ng (va_up sp nt.toNat s) (va_up nn nt.toNat 0) (va_up jj nt.toNat 0) (va_up vt nt.toNat (fun _ => 0)) (va_up vw nt.toNat (fun _ => 0)) (va_up vr nt.toNat (fun _ => 0)) G ∧ Tg tg2 ad2 (nt + 1) ng ∧ (∀ a, M a ≠ none → tg2 a = tg a) ∧ ad2 8 0 0 = ad 8 0 0 := by
  obtain ⟨o1, ⟨tf0, o2, o3, o3n⟩, ⟨gf0, o4, o5⟩, oT, oG, ⟨SO, o6, o7⟩, ⟨lf, f, g, S, oA⟩, ⟨b1, b2, b3, b4⟩⟩ := id hO
  have hgg : tf0 = tf := by
    have := Option.some.inj (o2.symm.trans htf)
    simpa using this
  subst hgg
  obtain ⟨ad2, had⟩ : ∃ ad2 : Nat → Nat → Nat → Nat, ad2 = adT ad nt.toNat th tk wh ra rc bx := ⟨_, rfl⟩
  have ea : ∀ k c t, ¬ (c = nt.toNat ∧ k ≤ 3) → ad2 k c t = ad k c t := fun k c t h1 => by rw [had]; unfold adT; rw [if_neg h1]
  have a0 : ad2 0 nt.toNat 0 = th := by rw [had]; unfold adT; rw [if_pos ⟨rfl, by omega⟩, if_pos rfl]
  have a10 : ad2 1 nt.toNat 0 = tk := by rw [had]; unfold adT; rw [if_pos ⟨rfl, by omega⟩, if_neg (by omega), if_pos rfl, if_pos rfl]
  have a11 : ad2 1 nt.toNat 1 = wh := by rw [had]; unfold adT; rw [if_pos ⟨rfl, by omega⟩, if_neg (by omega), if_pos rfl, if_neg (by omega), if_pos rfl]
  have a12 : ad2 1 nt.toNat 2 = ra := by rw [had]; unfold adT; rw [if_pos ⟨rfl, by omega⟩, if_neg (by omega), if_pos rfl, if_neg (by omega), if_neg (by omega)]
  have a2 : ad2 2 nt.toNat 0 = rc := by rw [had]; unfold adT; rw [if_pos ⟨rfl, by omega⟩, if_neg (by omega), if_neg (by omega), if_pos rfl]
  have a3 : ∀ t, ad2 3 nt.toNat t = bx t := fun t => by rw [had]; unfold adT; rw [if_pos ⟨rfl, by omega⟩, if_neg (by omega), if_neg (by omega), if_neg (by omega)]
  have kp : ∀ {k c t : Nat} {v : mE}, live nt ng k c t → ¬ (k = 8 ∨ k = 9) → M (ad k c t) = some v → M1 (ad k c t) = M (ad k c t) := fun hl hn h => hk _ (msome h) (hT.ne hl (by unfold live; omega) (by omega)) (hT.ne hl (by unfold live; omega) (by omega))
  obtain ⟨w1, w2, w3, w4, w5, w6, w7, ⟨w8, w9, w10⟩, w11⟩ := id hth
  refine ⟨ad2, tgT M tg nt.toNat th tk wh ra rc bx, ⟨?_, ⟨va_up tf0 nt.toNat (some th), ?_, ?_, fun i hi => (va_up_ne _ _ (by omega)).trans (o3n i (by omega))⟩, ⟨gf0, ?_, ?_⟩, ?_, ?_, ⟨SO, ?_, ?_⟩, ⟨lf, f, g, S, ?_⟩, ⟨by omega, by omega, b3, b4⟩⟩, ?_, ?_, ea 8 0 0 (by omega)⟩
  · rw [ea 8 0 0 (by omega), m3]
    show some (Ov ad (nt + 1) ng) = some (Ov ad2 (nt + 1) ng)
    unfold Ov
    rw [ea 9 0 0 (by omega), ea 10 0 0 (by omega), ea 4 4 0 (by omega), ea 6 0 0 (by omega)]
  · rw [ea 9 0 0 (by omega)]; exact m4
  · intro i hi
    by_cases h : i = nt.toNat
    · rw [h, va_up_self, a0]
    · rw [va_up_ne _ _ h, ea 0 i 0 (by omega)]; exact o3 i (by omega)
  · rw [ea 10 0 0 (by omega)]; exact (kp (by unfold live; omega) (by omega) o4).trans o4
  · intro i hi; rw [ea 4 i 0 (by omega)]; exact o5 i hi
  · intro i hi
    by_cases h : i = nt.toNat
    · subst h
      simp only [va_up_self]
      rw [a0, a10, a11, a12, a2, show ad2 3 nt.toNat = bx from funext a3]
      refine ⟨⟨rf, hth⟩, hs, ⟨by omega, by omega⟩, fun k hk => absurd hk (by omega), fun t ht => ?_⟩
      have e := stF_eq (s := s) (vt := fun _ => 0) (vw := fun _ => 0) (vr := fun _ => 0) (n := 0) hs.1 (fun k hk => absurd hk (Nat.not_lt_zero k)) ht
      show stF s (fun _ => 0) (fun _ => 0) (fun _ => 0) 0 t 0 ≤ stF s (fun _ => 0) (fun _ => 0) (fun _ => 0) 0 t 1 ∧ stF s (fun _ => 0) (fun _ => 0) (fun _ => 0) 0 t 2 ≤ stF s (fun _ => 0) (fun _ => 0) (fun _ => 0) 0 t 3
      rw [e.1, e.2.1, e.2.2.1, e.2.2.2]
      exact ⟨(by decide : (0 : Int) ≤ -(-63)), (by decide : (0 : Int) ≤ -(-63))⟩
    · obtain ⟨⟨rf2, h2⟩, h3⟩ := oT i (by omega)
      rw [va_up_ne _ _ h, va_up_ne _ _ h, va_up_ne _ _ h, va_up_ne _ _ h, va_up_ne _ _ h, va_up_ne _ _ h]
      rw [ea 0 i 0 (by omega), ea 1 i 0 (by omega), ea 1 i 1 (by omega), ea 1 i 2 (by omega), ea 2 i 0 (by omega), show ad2 3 i = ad 3 i from funext fun t => ea 3 i t (by omega)]
      exact ⟨⟨rf2, ThOk_keep h2 (kp (by unfold live; omega) (by omega) h2.1) (kp (by unfold live; omega) (by omega) h2.2.1) (kp (by unfold live; omega) (by omega) h2.2.2.1) (kp (by unfold live; omega) (by omega) h2.2.2.2.1) (kp (by unfold live; omega) (by omega) h2.2.2.2.2.1) (fun t z => kp (by unfold live; omega) (by omega) (h2.2.2.2.2.2.2.1 t z))⟩, h3⟩
  · intro i hi
    rw [ea 4 i 0 (by omega), ea 5 i 0 (by omega)]
    have := oG i hi
    exact ⟨(kp (by unfold live; omega) (by omega) this.1).trans this.1, (kp (by unfold live; omega) (by omega) this.2).trans this.2⟩
  · rw [ea 4 4 0 (by omega), ea 5 4 0 (by omega)]; exact (kp (by unfold live; omega) (by omega) o6).trans o6
  · rw [ea 5 4 0 (by omega)]; exact (kp (by unfold live; omega) (by omega) o7).trans o7
  · rw [ea 6 0 0 (by omega), ea 7 0 0 (by omega), show (fun k => ad2 4 (5 + k) 0) = (fun k => ad 4 (5 + k) 0) from funext fun k => ea _ _ _ (by omega), show (fun k => ad2 5 (5 + k) 0) = (fun k => ad 5 (5 + k) 0) from funext fun k => ea _ _ _ (by omega)]
    exact TaOk_keep oA (kp (by unfold live; omega) (by omega) oA.1) (kp (by unfold live; omega) (by omega) oA.2.1) (fun k z => kp (by unfold live; omega) (by omega) (oA.2.2.2.1 k z)) (fun k z => kp (by unfold live; omega) (by omega) (oA.2.2.2.2.1 k z))
  · intro k i t hl
    by_cases h : i = nt.toNat ∧ k ≤ 3
    · obtain ⟨rfl, hk3⟩ := h
      rcases hl with ⟨rfl, g2, rfl⟩ | ⟨rfl, g2, g3⟩ | ⟨rfl, g2, rfl⟩ | ⟨rfl, g2, g3⟩ | g | g
      · rw [a0]; unfold tgT; rw [if_pos hn0, if_pos rfl]
      · rcases (show t = 0 ∨ t = 1 ∨ t = 2 by omega) with rfl | rfl | rfl
        · rw [a10]; unfold tgT; rw [if_pos hn1, if_neg (mne w2 w1 (by intro h; cases h)), if_pos rfl]
        · rw [a11]; unfold tgT; rw [if_pos hn2, if_neg (mne w3 w1 (by intro h; cases h)), if_neg w8.symm, if_pos rfl]
        · rw [a12]; unfold tgT; rw [if_pos hn3, if_neg (mne w4 w1 (by intro h; cases h)), if_neg w9.symm, if_neg w10.symm, if_pos rfl]
      · rw [a2]; unfold tgT; rw [if_pos hn4, if_neg (mne w5 w1 (by intro h; cases h)), if_neg (mne w5 w2 (by intro h; cases h)), if_neg (mne w5 w3 (by intro h; cases h)), if_neg (mne w5 w4 (by intro h; cases h)), if_pos rfl]
      · have wb := w7 t g3
        rw [a3]; unfold tgT
        have hex : ∃ t2, t2 < 80 ∧ bx t2 = bx t := ⟨t, g3, rfl⟩
        rw [if_pos (hnb t g3), if_neg (mne wb w1 (by intro h; cases h)), if_neg (mne wb w2 (by intro h; cases h)), if_neg (mne wb w3 (by intro h; cases h)), if_neg (mne wb w4 (by intro h; cases h)), if_neg (mne wb w5 (by intro h; cases h)), dif_pos hex]
        rw [w11 _ _ hex.choose_spec.1 g3 hex.choose_spec.2]
      · omega
      · omega
    · rw [ea k i t h]
      have hl2 := live_dt hl h
      obtain ⟨v, hv⟩ := Ov_some hO hl2
      unfold tgT
      rw [if_neg (msome hv)]
      exact hT k i t hl2
  · intro a ha
    unfold tgT
    rw [if_neg ha]

set_option maxHeartbeats 4000000 in
set_option maxRecDepth 100000 in
theorem c_X4_init (l : Launch) (D : va_G) (b : Nat) (M : mM) (o : Nat) (h0 : M o = some (.inr (4, [.null, .null, .null, .null, .int (iI 0), .int (iI 0)]))) : Met l yX4_init wsX4_init ({ frames := 3, cells := 168, slots := 5424, locals := 53 } : Room) (mPc [.ref o] D b M) (mQv D b (fun M1 => ∃ (ad : Nat → Nat → Nat → Nat) (tg : Nat → Nat × Nat × Nat), ad 8 0 0 = o ∧ (∀ (sp nn jj : Nat → Int) (vt vw vr : Nat → Nat → Int) (G : Nat → Nat → Nat → Bool), OvOk M1 ad 0 0 sp nn jj vt vw vr G) ∧ Tg tg ad 0 0 ∧ (∀ a, a ≠ o → M a ≠ none → M1 a = M a) ∧ ∀ a, M1 a = none → tg a = (11, 0, 0))) 168 5424 (mF b) := by
  refine m_met (cc := cX4_init) (maxL := 1) (ret := none) (by decide) rfl (Nat.le_of_ble_eq_true rfl) ?_
  intro p e s m args below meth c Q ls hx hb hml hr hts hown hlk hnm hQ K hG hS hl
  have hown : s.vm.findClass RX4 = some m.cls := hown
  have hl : lv_has ls 1 [(0, .ref o)] := hl
  refine lv_aload_n hx hb dX4_init_0 rfl (lv_at hl 0 rfl) ?_
  refine W.objInit hx hb hown (hts (.methodLink RX4 3 objectInit) (by decide +kernel)) (hts (.instanceMethod objectInit) (by decide +kernel)) (hts (.code objectInit ⟨#[0xb1]⟩ 1 none) (by decide +kernel)) rfl (by rw [hml]; exact hl.1) rfl dX4_init_1 (Nat.le_of_ble_eq_true rfl) (Nat.le_of_ble_eq_true rfl) ?_
  refine W.eq (g2 := F0 m 4 ls []) rfl ?_
  refine lv_aload_n hx hb dX4_init_4 rfl (lv_at hl 0 rfl) ?_
  refine lv_bipush (v := iI 6) hx hb dX4_init_5 (by decide) ?_
  refine m_newq (C := RX3) (N' := 6) hx hb hts hown (by decide +kernel) K.2.2.2.2.2.2 hG hS rfl (by decide) (Nat.le_of_ble_eq_true rfl) (Nat.le_of_ble_eq_true rfl) dX4_init_7 (fun q1 H hq1 hG hS => ?_)
  have ne2 : o ≠ q1 := mfresh hq1 h0
  have hG : mG D b (mset M q1 (aQ RX3 6 (fun _ => none))) s H := hG
  refine m_putF (ci := 4) (v := .ref q1) (ty := .array (.object "OverLine$Thing")) (fs' := [.ref q1, .null, .null, .null, .int (iI 0), .int (iI 0)]) (C := RX4) (T := TX4) (N := 6) hx hb hts (by decide +kernel) tyX4 tyX4_ok nmX4 hown K hG hS ((mset_ne ne2).trans h0) rfl 0 (by decide) (by decide +kernel) rfl hnm rfl (by decide +kernel) rfl rfl (Nat.le_of_ble_eq_true rfl) rfl dX4_init_10 (fun H locs hG hS => ?_)
  have hG : mG D b (mset (mset M q1 (aQ RX3 6 (fun _ => none))) o (.inr (4, [.ref q1, .null, .null, .null, .int (iI 0), .int (iI 0)]))) s H := hG
  refine lv_aload_n hx hb dX4_init_13 rfl (lv_at hl 0 rfl) ?_
  refine lv_iconst (v := iI 4) hx hb dX4_init_14 rfl ?_
  refine m_newq (C := RX1) (N' := 4) hx hb hts hown (by decide +kernel) K.2.2.2.2.2.1 hG hS rfl (by decide) (Nat.le_of_ble_eq_true rfl) (Nat.le_of_ble_eq_true rfl) dX4_init_15 (fun q3 H hq3 hG hS => ?_)
  have ne4 : o ≠ q3 := mfresh hq3 mset_self
  have ne5 : q1 ≠ q3 := mfresh hq3 ((mset_ne (Ne.symm ne2)).trans mset_self)
  have hG : mG D b (mset (mset (mset M q1 (aQ RX3 6 (fun _ => none))) o (.inr (4, [.ref q1, .null, .null, .null, .int (iI 0), .int (iI 0)]))) q3 (aQ RX1 4 (fun _ => none))) s H := hG
  refine m_putF (ci := 4) (v := .ref q3) (ty := .array (.object "OverLine$Places")) (fs' := [.ref q1, .ref q3, .null, .null, .int (iI 0), .int (iI 0)]) (C := RX4) (T := TX4) (N := 6) hx hb hts (by decide +kernel) tyX4 tyX4_ok nmX4 hown K hG hS ((mset_ne ne4).trans mset_self) rfl 1 (by decide) (by decide +kernel) rfl hnm rfl (by decide +kernel) rfl rfl (Nat.le_of_ble_eq_true rfl) rfl dX4_init_18 (fun H locs hG hS => ?_)
  rw [mset_skip ne4] at hG
  have hG : mG D b (mset (mset (mset M q1 (aQ RX3 6 (fun _ => none))) o (.inr (4, [.ref q1, .ref q3, .null, .null, .int (iI 0), .int (iI 0)]))) q3 (aQ RX1 4 (fun _ => none))) s H := hG
  refine lv_aload_n hx hb dX4_init_21 rfl (lv_at hl 0 rfl) ?_
  refine m_new (ci := 1) (fs := [.null]) (C := RX1) (T := TX1) (N := 1) hx hb hts (by decide +kernel) tyX1 tyX1_ok hown (by decide +kernel) (by decide +kernel) (by decide +kernel) K hG hS rfl (fun j hj => by rcases (show j = 0 by omega) with rfl <;> rfl) (Nat.le_of_ble_eq_true rfl) (Nat.le_of_ble_eq_true rfl) dX4_init_22 (fun q6 H hq6 hG hS => ?_)
  have ne7 : o ≠ q6 := mfresh hq6 ((mset_ne ne4).trans mset_self)
  have ne8 : q1 ≠ q6 := mfresh hq6 ((mset_ne ne5).trans ((mset_ne (Ne.symm ne2)).trans mset_self))
  have ne9 : q3 ≠ q6 := mfresh hq6 mset_self
  have hG : mG D b (mset (mset (mset (mset M q1 (aQ RX3 6 (fun _ => none))) o (.inr (4, [.ref q1, .ref q3, .null, .null, .int (iI 0), .int (iI 0)]))) q3 (aQ RX1 4 (fun _ => none))) q6 (.inr (1, [.null]))) s H := hG
  refine lv_dup hx hb dX4_init_25 rfl ?_
  refine m_callv (m_runI (a := q6) (As := []) (rest := [.ref q6, .ref o]) ⟨hx, hb, hml, hown, hts⟩ (c_X1_init l D b _ q6 mset_self) (cwI 0 hts gX4_init_X1_init rfl rfl rfl (hts (.initialized RX1) (by decide +kernel)) (hts (.methodLink RX4 21 yX1_init) (by decide +kernel)) (hts (.instanceMethod yX1_init) (by decide +kernel)) rfl (by decide +kernel) ⟨Nat.le_of_ble_eq_true rfl, Nat.le_of_ble_eq_true rfl⟩) K hG rfl rfl hl.1 rfl (Nat.le_of_ble_eq_true rfl) dX4_init_26 ⟨Nat.le_of_ble_eq_true rfl, Nat.le_of_ble_eq_true rfl⟩) hS (fun M11 H locs hw12 hG hS => ?_)
  obtain ⟨z13, hz13, hwMz13⟩ := hw12
  have ne14 : o ≠ z13 := mfresh hz13 ((mset_ne ne7).trans ((mset_ne ne4).trans mset_self))
  have ne15 : q1 ≠ z13 := mfresh hz13 ((mset_ne ne8).trans ((mset_ne ne5).trans ((mset_ne (Ne.symm ne2)).trans mset_self)))
  have ne16 : o ≠ z13 := mfresh hz13 ((mset_ne ne7).trans ((mset_ne ne4).trans mset_self))
  have ne17 : q3 ≠ z13 := mfresh hz13 ((mset_ne ne9).trans mset_self)
  have ne18 : q6 ≠ z13 := mfresh hz13 mset_self
  rw [hwMz13, mset_skip ne18] at hG
  have hG : mG D b (mset (mset (mset (mset (mset M q1 (aQ RX3 6 (fun _ => none))) o (.inr (4, [.ref q1, .ref q3, .null, .null, .int (iI 0), .int (iI 0)]))) q3 (aQ RX1 4 (fun _ => none))) q6 (.inr (1, [.ref z13]))) z13 (aL 64 (fun _ _ => false))) s H := hG
  refine m_putF (ci := 4) (v := .ref q6) (ty := .object "OverLine$Places") (fs' := [.ref q1, .ref q3, .ref q6, .null, .int (iI 0), .int (iI 0)]) (C := RX4) (T := TX4) (N := 6) hx hb hts (by decide +kernel) tyX4 tyX4_ok nmX4 hown K hG hS ((mset_ne ne16).trans ((mset_ne ne7).trans ((mset_ne ne4).trans mset_self))) rfl 2 (by decide) (by decide +kernel) rfl hnm rfl (by decide +kernel) rfl rfl (Nat.le_of_ble_eq_true rfl) rfl dX4_init_29 (fun H locs hG hS => ?_)
  rw [mset_swap (Ne.symm ne16), mset_swap (Ne.symm ne7), mset_swap (Ne.symm ne4), mset_mset] at hG
  have hG : mG D b (mset (mset (mset (mset (mset M q1 (aQ RX3 6 (fun _ => none))) o (.inr (4, [.ref q1, .ref q3, .ref q6, .null, .int (iI 0), .int (iI 0)]))) q3 (aQ RX1 4 (fun _ => none))) q6 (.inr (1, [.ref z13]))) z13 (aL 64 (fun _ _ => false))) s H := hG
  refine lv_aload_n hx hb dX4_init_32 rfl (lv_at hl 0 rfl) ?_
  refine m_new (ci := 2) (fs := [.null, .int (iI 0), .int (iI 0)]) (C := RX2) (T := TX2) (N := 3) hx hb hts (by decide +kernel) tyX2 tyX2_ok hown (by decide +kernel) (by decide +kernel) (by decide +kernel) K hG hS rfl (fun j hj => by rcases (show j = 0 ∨ j = 1 ∨ j = 2 by omega) with rfl | rfl | rfl <;> rfl) (Nat.le_of_ble_eq_true rfl) (Nat.le_of_ble_eq_true rfl) dX4_init_33 (fun q19 H hq19 hG hS => ?_)
  have ne20 : o ≠ q19 := mfresh hq19 ((mset_ne ne16).trans ((mset_ne ne7).trans ((mset_ne ne4).trans mset_self)))
  have ne21 : q1 ≠ q19 := mfresh hq19 ((mset_ne ne15).trans ((mset_ne ne8).trans ((mset_ne ne5).trans ((mset_ne (Ne.symm ne2)).trans mset_self))))
  have ne22 : q3 ≠ q19 := mfresh hq19 ((mset_ne ne17).trans ((mset_ne ne9).trans mset_self))
  have ne23 : q6 ≠ q19 := mfresh hq19 ((mset_ne ne18).trans mset_self)
  have ne24 : z13 ≠ q19 := mfresh hq19 mset_self
  have hG : mG D b (mset (mset (mset (mset (mset (mset M q1 (aQ RX3 6 (fun _ => none))) o (.inr (4, [.ref q1, .ref q3, .ref q6, .null, .int (iI 0), .int (iI 0)]))) q3 (aQ RX1 4 (fun _ => none))) q6 (.inr (1, [.ref z13]))) z13 (aL 64 (fun _ _ => false))) q19 (.inr (2, [.null, .int (iI 0), .int (iI 0)]))) s H := hG
  refine lv_dup hx hb dX4_init_36 rfl ?_
  refine m_callv (m_runI (a := q19) (As := []) (rest := [.ref q19, .ref o]) ⟨hx, hb, hml, hown, hts⟩ (c_X2_init l D b _ q19 mset_self) (cwI 0 hts gX4_init_X2_init rfl rfl rfl (hts (.initialized RX2) (by decide +kernel)) (hts (.methodLink RX4 28 yX2_init) (by decide +kernel)) (hts (.instanceMethod yX2_init) (by decide +kernel)) rfl (by decide +kernel) ⟨Nat.le_of_ble_eq_true rfl, Nat.le_of_ble_eq_true rfl⟩) K hG rfl rfl hl.1 rfl (Nat.le_of_ble_eq_true rfl) dX4_init_37 ⟨Nat.le_of_ble_eq_true rfl, Nat.le_of_ble_eq_true rfl⟩) hS (fun M26 H locs hw27 hG hS => ?_)
  obtain ⟨lv, lf, pk, rk, hA, hFa, hlv, hpr⟩ := hw27
  have u28 : M26 q1 = some (aQ RX3 6 (fun _ => none)) := (hFa q1 ne21 (msome ((mset_ne ne21).trans ((mset_ne ne15).trans ((mset_ne ne8).trans ((mset_ne ne5).trans ((mset_ne (Ne.symm ne2)).trans mset_self))))))).trans ((mset_ne ne21).trans ((mset_ne ne15).trans ((mset_ne ne8).trans ((mset_ne ne5).trans ((mset_ne (Ne.symm ne2)).trans mset_self)))))
  have u29 : M26 o = some (.inr (4, [.ref q1, .ref q3, .ref q6, .null, .int (iI 0), .int (iI 0)])) := (hFa o ne20 (msome ((mset_ne ne20).trans ((mset_ne ne16).trans ((mset_ne ne7).trans ((mset_ne ne4).trans mset_self)))))).trans ((mset_ne ne20).trans ((mset_ne ne16).trans ((mset_ne ne7).trans ((mset_ne ne4).trans mset_self))))
  have u30 : M26 q3 = some (aQ RX1 4 (fun _ => none)) := (hFa q3 ne22 (msome ((mset_ne ne22).trans ((mset_ne ne17).trans ((mset_ne ne9).trans mset_self))))).trans ((mset_ne ne22).trans ((mset_ne ne17).trans ((mset_ne ne9).trans mset_self)))
  have u31 : M26 q6 = some (.inr (1, [.ref z13])) := (hFa q6 ne23 (msome ((mset_ne ne23).trans ((mset_ne ne18).trans mset_self)))).trans ((mset_ne ne23).trans ((mset_ne ne18).trans mset_self))
  have u32 : M26 z13 = some (aL 64 (fun _ _ => false)) := (hFa z13 ne24 (msome ((mset_ne ne24).trans mset_self))).trans ((mset_ne ne24).trans mset_self)
  refine m_putF (ci := 4) (v := .ref q19) (ty := .object "OverLine$Tally") (fs' := [.ref q1, .ref q3, .ref q6, .ref q19, .int (iI 0), .int (iI 0)]) (C := RX4) (T := TX4) (N := 6) hx hb hts (by decide +kernel) tyX4 tyX4_ok nmX4 hown K hG hS u29 rfl 3 (by decide) (by decide +kernel) rfl hnm rfl (by decide +kernel) rfl rfl (Nat.le_of_ble_eq_true rfl) rfl dX4_init_40 (fun H locs hG hS => ?_)
  have hG : mG D b (mset M26 o (.inr (4, [.ref q1, .ref q3, .ref q6, .ref q19, .int (iI 0), .int (iI 0)]))) s H := hG
  refine lv_aload_n hx hb dX4_init_43 rfl (lv_at hl 0 rfl) ?_
  refine lv_iconst (v := iI 0) hx hb dX4_init_44 rfl ?_
  refine m_put (ci := 4) (v := .int (iI 0)) (ty := .int) (fs' := [.ref q1, .ref q3, .ref q6, .ref q19, .int (iI 0), .int (iI 0)]) (C := RX4) (T := TX4) (N := 6) hx hb hts (by decide +kernel) tyX4 tyX4_ok nmX4 hown K hG hS mset_self rfl 4 (by decide) (by decide +kernel) rfl (by decide +kernel) rfl rfl (Nat.le_of_ble_eq_true rfl) rfl dX4_init_45 (fun H locs hG hS => ?_)
  rw [mset_mset] at hG
  have hG : mG D b (mset M26 o (.inr (4, [.ref q1, .ref q3, .ref q6, .ref q19, .int (iI 0), .int (iI 0)]))) s H := hG
  refine lv_aload_n hx hb dX4_init_48 rfl (lv_at hl 0 rfl) ?_
  refine lv_iconst (v := iI 0) hx hb dX4_init_49 rfl ?_
  refine m_put (ci := 4) (v := .int (iI 0)) (ty := .int) (fs' := [.ref q1, .ref q3, .ref q6, .ref q19, .int (iI 0), .int (iI 0)]) (C := RX4) (T := TX4) (N := 6) hx hb hts (by decide +kernel) tyX4 tyX4_ok nmX4 hown K hG hS mset_self rfl 5 (by decide) (by decide +kernel) rfl (by decide +kernel) rfl rfl (Nat.le_of_ble_eq_true rfl) rfl dX4_init_50 (fun H locs hG hS => ?_)
  rw [mset_mset] at hG
  have hG : mG D b (mset M26 o (.inr (4, [.ref q1, .ref q3, .ref q6, .ref q19, .int (iI 0), .int (iI 0)]))) s H := hG
  exact m_vret hx hb hr hlk hQ hG hS (Nat.le_of_ble_eq_true rfl) (Nat.le_of_ble_eq_true rfl) dX4_init_53 (by obtain ⟨ad, tg, y1, y2, y3, y4⟩ := Ov_init mset_self ((mset_ne (Ne.symm ne2)).trans u28) ((mset_ne (Ne.symm ne4)).trans u30) ((mset_ne (Ne.symm ne7)).trans u31) ((mset_ne (Ne.symm ne16)).trans u32) (TaOk_keep hA (mset_ne (Ne.symm ne20)) (mset_ne (mne hA.2.1 u29 (by intro h; cases h))) (fun k q => mset_ne (mne (hA.2.2.2.1 k q) u29 (by intro h; cases h))) (fun k q => mset_ne (mne (hA.2.2.2.2.1 k q) u29 (by intro h; cases h)))) (fun k q => (mfresh (hpr k q).1 ((mset_ne ne23).trans ((mset_ne ne18).trans mset_self))).symm) (fun k q => (mfresh (hpr k q).2 ((mset_ne ne24).trans mset_self)).symm); exact ⟨ad, tg, y1, y2, y3, (fun a g1 g2 => by have g3 : (mset (mset (mset (mset (mset (mset M q1 (aQ RX3 6 (fun _ => none))) o (.inr (4, [.ref q1, .ref q3, .ref q6, .null, .int (iI 0), .int (iI 0)]))) q3 (aQ RX1 4 (fun _ => none))) q6 (.inr (1, [.ref z13]))) z13 (aL 64 (fun _ _ => false))) q19 (.inr (2, [.null, .int (iI 0), .int (iI 0)]))) a = M a := ((mset_ne (fun z9 => g2 (by rw [z9]; exact (mset_none (mset_none (mset_none (mset_none (mset_none hq19)))))))).trans ((mset_ne (fun z9 => g2 (by rw [z9]; exact (mset_none (mset_none (mset_none (mset_none hz13))))))).trans ((mset_ne (fun z9 => g2 (by rw [z9]; exact (mset_none (mset_none (mset_none hq6)))))).trans ((mset_ne (fun z9 => g2 (by rw [z9]; exact (mset_none (mset_none hq3))))).trans ((mset_ne g1).trans (mset_ne (fun z9 => g2 (by rw [z9]; exact hq1)))))))); exact (mset_ne g1).trans ((hFa a (fun z9 => g2 (by rw [z9]; exact (mset_none (mset_none (mset_none (mset_none (mset_none hq19))))))) (by rw [g3]; exact g2)).trans g3)), y4⟩)

set_option maxHeartbeats 4000000 in
set_option maxRecDepth 100000 in
theorem c_X5_init (l : Launch) (D : va_G) (b : Nat) (M : mM) (mo : Nat) (h0 : M mo = some (.inr (5, [.int (iI 0), .null, .null, .null, .null, .null, .null, .null, .int (iI 0), .null, .null, .null]))) : Met l yX5_init wsX5_init ({ frames := 1, cells := 10, slots := 24882, locals := 12 } : Room) (mPc [.ref mo] D b M) (mQv D b (fun M1 => ∃ am : Nat → Nat, am 0 = mo ∧ MoOk M1 am 0 0 (fun _ => 0) (fun _ => 0) (fun _ => 0) (fun _ => 0) (fun _ => 0) (fun _ => 0) (fun _ => 0) (fun _ => false) (fun _ => 0) (fun _ => 0) ∧ (∀ a, a ≠ mo → M a ≠ none → M1 a = M a) ∧ ∀ i, 1 ≤ i → i ≤ 10 → M (am i) = none)) 10 24882 (mF b) := by
  refine m_met (cc := cX5_init) (maxL := 1) (ret := none) (by decide) rfl (Nat.le_of_ble_eq_true rfl) ?_
  intro p e s m args below meth c Q ls hx hb hml hr hts hown hlk hnm hQ K hG hS hl
  have hown : s.vm.findClass RX5 = some m.cls := hown
  have hl : lv_has ls 1 [(0, .ref mo)] := hl
  refine lv_aload_n hx hb dX5_init_0 rfl (lv_at hl 0 rfl) ?_
  refine W.objInit hx hb hown (hts (.methodLink RX5 1 objectInit) (by decide +kernel)) (hts (.instanceMethod objectInit) (by decide +kernel)) (hts (.code objectInit ⟨#[0xb1]⟩ 1 none) (by decide +kernel)) rfl (by rw [hml]; exact hl.1) rfl dX5_init_1 (Nat.le_of_ble_eq_true rfl) (Nat.le_of_ble_eq_true rfl) ?_
  refine W.eq (g2 := F0 m 4 ls []) rfl ?_
  refine lv_aload_n hx hb dX5_init_4 rfl (lv_at hl 0 rfl) ?_
  refine lv_bipush (v := iI 6) hx hb dX5_init_5 (by decide) ?_
  refine m_newa_i (N' := 6) hx hb hts (by decide +kernel) hG hS rfl (by decide) (Nat.le_of_ble_eq_true rfl) (Nat.le_of_ble_eq_true rfl) dX5_init_7 (fun q1 H hq1 hG hS => ?_)
  have ne2 : mo ≠ q1 := mfresh hq1 h0
  have hG : mG D b (mset M q1 (aI 6 (fun _ => 0))) s H := hG
  refine m_putF (ci := 5) (v := .ref q1) (ty := .array .int) (fs' := [.int (iI 0), .ref q1, .null, .null, .null, .null, .null, .null, .int (iI 0), .null, .null, .null]) (C := RX5) (T := TX5) (N := 12) hx hb hts (by decide +kernel) tyX5 tyX5_ok nmX5 hown K hG hS ((mset_ne ne2).trans h0) rfl 1 (by decide) (by decide +kernel) rfl hnm rfl (by decide +kernel) rfl rfl (Nat.le_of_ble_eq_true rfl) rfl dX5_init_9 (fun H locs hG hS => ?_)
  have hG : mG D b (mset (mset M q1 (aI 6 (fun _ => 0))) mo (.inr (5, [.int (iI 0), .ref q1, .null, .null, .null, .null, .null, .null, .int (iI 0), .null, .null, .null]))) s H := hG
  refine lv_aload_n hx hb dX5_init_12 rfl (lv_at hl 0 rfl) ?_
  refine lv_bipush (v := iI 6) hx hb dX5_init_13 (by decide) ?_
  refine m_newa_i (N' := 6) hx hb hts (by decide +kernel) hG hS rfl (by decide) (Nat.le_of_ble_eq_true rfl) (Nat.le_of_ble_eq_true rfl) dX5_init_15 (fun q3 H hq3 hG hS => ?_)
  have ne4 : mo ≠ q3 := mfresh hq3 mset_self
  have ne5 : q1 ≠ q3 := mfresh hq3 ((mset_ne (Ne.symm ne2)).trans mset_self)
  have hG : mG D b (mset (mset (mset M q1 (aI 6 (fun _ => 0))) mo (.inr (5, [.int (iI 0), .ref q1, .null, .null, .null, .null, .null, .null, .int (iI 0), .null, .null, .null]))) q3 (aI 6 (fun _ => 0))) s H := hG
  refine m_putF (ci := 5) (v := .ref q3) (ty := .array .int) (fs' := [.int (iI 0), .ref q1, .ref q3, .null, .null, .null, .null, .null, .int (iI 0), .null, .null, .null]) (C := RX5) (T := TX5) (N := 12) hx hb hts (by decide +kernel) tyX5 tyX5_ok nmX5 hown K hG hS ((mset_ne ne4).trans mset_self) rfl 2 (by decide) (by decide +kernel) rfl hnm rfl (by decide +kernel) rfl rfl (Nat.le_of_ble_eq_true rfl) rfl dX5_init_17 (fun H locs hG hS => ?_)
  rw [mset_skip ne4] at hG
  have hG : mG D b (mset (mset (mset M q1 (aI 6 (fun _ => 0))) mo (.inr (5, [.int (iI 0), .ref q1, .ref q3, .null, .null, .null, .null, .null, .int (iI 0), .null, .null, .null]))) q3 (aI 6 (fun _ => 0))) s H := hG
  refine lv_aload_n hx hb dX5_init_20 rfl (lv_at hl 0 rfl) ?_
  refine lv_bipush (v := iI 6) hx hb dX5_init_21 (by decide) ?_
  refine m_newa_i (N' := 6) hx hb hts (by decide +kernel) hG hS rfl (by decide) (Nat.le_of_ble_eq_true rfl) (Nat.le_of_ble_eq_true rfl) dX5_init_23 (fun q6 H hq6 hG hS => ?_)
  have ne7 : mo ≠ q6 := mfresh hq6 ((mset_ne ne4).trans mset_self)
  have ne8 : q1 ≠ q6 := mfresh hq6 ((mset_ne ne5).trans ((mset_ne (Ne.symm ne2)).trans mset_self))
  have ne9 : q3 ≠ q6 := mfresh hq6 mset_self
  have hG : mG D b (mset (mset (mset (mset M q1 (aI 6 (fun _ => 0))) mo (.inr (5, [.int (iI 0), .ref q1, .ref q3, .null, .null, .null, .null, .null, .int (iI 0), .null, .null, .null]))) q3 (aI 6 (fun _ => 0))) q6 (aI 6 (fun _ => 0))) s H := hG
  refine m_putF (ci := 5) (v := .ref q6) (ty := .array .int) (fs' := [.int (iI 0), .ref q1, .ref q3, .ref q6, .null, .null, .null, .null, .int (iI 0), .null, .null, .null]) (C := RX5) (T := TX5) (N := 12) hx hb hts (by decide +kernel) tyX5 tyX5_ok nmX5 hown K hG hS ((mset_ne ne7).trans ((mset_ne ne4).trans mset_self)) rfl 3 (by decide) (by decide +kernel) rfl hnm rfl (by decide +kernel) rfl rfl (Nat.le_of_ble_eq_true rfl) rfl dX5_init_25 (fun H locs hG hS => ?_)
  rw [mset_swap (Ne.symm ne7), mset_swap (Ne.symm ne4), mset_mset] at hG
  have hG : mG D b (mset (mset (mset (mset M q1 (aI 6 (fun _ => 0))) mo (.inr (5, [.int (iI 0), .ref q1, .ref q3, .ref q6, .null, .null, .null, .null, .int (iI 0), .null, .null, .null]))) q3 (aI 6 (fun _ => 0))) q6 (aI 6 (fun _ => 0))) s H := hG
  refine lv_aload_n hx hb dX5_init_28 rfl (lv_at hl 0 rfl) ?_
  refine lv_bipush (v := iI 72) hx hb dX5_init_29 (by decide) ?_
  refine m_newa_i (N' := 72) hx hb hts (by decide +kernel) hG hS rfl (by decide) (Nat.le_of_ble_eq_true rfl) (Nat.le_of_ble_eq_true rfl) dX5_init_31 (fun q10 H hq10 hG hS => ?_)
  have ne11 : mo ≠ q10 := mfresh hq10 ((mset_ne ne7).trans ((mset_ne ne4).trans mset_self))
  have ne12 : q1 ≠ q10 := mfresh hq10 ((mset_ne ne8).trans ((mset_ne ne5).trans ((mset_ne (Ne.symm ne2)).trans mset_self)))
  have ne13 : q3 ≠ q10 := mfresh hq10 ((mset_ne ne9).trans mset_self)
  have ne14 : q6 ≠ q10 := mfresh hq10 mset_self
  have hG : mG D b (mset (mset (mset (mset (mset M q1 (aI 6 (fun _ => 0))) mo (.inr (5, [.int (iI 0), .ref q1, .ref q3, .ref q6, .null, .null, .null, .null, .int (iI 0), .null, .null, .null]))) q3 (aI 6 (fun _ => 0))) q6 (aI 6 (fun _ => 0))) q10 (aI 72 (fun _ => 0))) s H := hG
  refine m_putF (ci := 5) (v := .ref q10) (ty := .array .int) (fs' := [.int (iI 0), .ref q1, .ref q3, .ref q6, .ref q10, .null, .null, .null, .int (iI 0), .null, .null, .null]) (C := RX5) (T := TX5) (N := 12) hx hb hts (by decide +kernel) tyX5 tyX5_ok nmX5 hown K hG hS ((mset_ne ne11).trans ((mset_ne ne7).trans ((mset_ne ne4).trans mset_self))) rfl 4 (by decide) (by decide +kernel) rfl hnm rfl (by decide +kernel) rfl rfl (Nat.le_of_ble_eq_true rfl) rfl dX5_init_33 (fun H locs hG hS => ?_)
  rw [mset_swap (Ne.symm ne11), mset_swap (Ne.symm ne7), mset_swap (Ne.symm ne4), mset_mset] at hG
  have hG : mG D b (mset (mset (mset (mset (mset M q1 (aI 6 (fun _ => 0))) mo (.inr (5, [.int (iI 0), .ref q1, .ref q3, .ref q6, .ref q10, .null, .null, .null, .int (iI 0), .null, .null, .null]))) q3 (aI 6 (fun _ => 0))) q6 (aI 6 (fun _ => 0))) q10 (aI 72 (fun _ => 0))) s H := hG
  refine lv_aload_n hx hb dX5_init_36 rfl (lv_at hl 0 rfl) ?_
  refine lv_bipush (v := iI 72) hx hb dX5_init_37 (by decide) ?_
  refine m_newa_i (N' := 72) hx hb hts (by decide +kernel) hG hS rfl (by decide) (Nat.le_of_ble_eq_true rfl) (Nat.le_of_ble_eq_true rfl) dX5_init_39 (fun q15 H hq15 hG hS => ?_)
  have ne16 : mo ≠ q15 := mfresh hq15 ((mset_ne ne11).trans ((mset_ne ne7).trans ((mset_ne ne4).trans mset_self)))
  have ne17 : q1 ≠ q15 := mfresh hq15 ((mset_ne ne12).trans ((mset_ne ne8).trans ((mset_ne ne5).trans ((mset_ne (Ne.symm ne2)).trans mset_self))))
  have ne18 : q3 ≠ q15 := mfresh hq15 ((mset_ne ne13).trans ((mset_ne ne9).trans mset_self))
  have ne19 : q6 ≠ q15 := mfresh hq15 ((mset_ne ne14).trans mset_self)
  have ne20 : q10 ≠ q15 := mfresh hq15 mset_self
  have hG : mG D b (mset (mset (mset (mset (mset (mset M q1 (aI 6 (fun _ => 0))) mo (.inr (5, [.int (iI 0), .ref q1, .ref q3, .ref q6, .ref q10, .null, .null, .null, .int (iI 0), .null, .null, .null]))) q3 (aI 6 (fun _ => 0))) q6 (aI 6 (fun _ => 0))) q10 (aI 72 (fun _ => 0))) q15 (aI 72 (fun _ => 0))) s H := hG
  refine m_putF (ci := 5) (v := .ref q15) (ty := .array .int) (fs' := [.int (iI 0), .ref q1, .ref q3, .ref q6, .ref q10, .ref q15, .null, .null, .int (iI 0), .null, .null, .null]) (C := RX5) (T := TX5) (N := 12) hx hb hts (by decide +kernel) tyX5 tyX5_ok nmX5 hown K hG hS ((mset_ne ne16).trans ((mset_ne ne11).trans ((mset_ne ne7).trans ((mset_ne ne4).trans mset_self)))) rfl 5 (by decide) (by decide +kernel) rfl hnm rfl (by decide +kernel) rfl rfl (Nat.le_of_ble_eq_true rfl) rfl dX5_init_41 (fun H locs hG hS => ?_)
  rw [mset_swap (Ne.symm ne16), mset_swap (Ne.symm ne11), mset_swap (Ne.symm ne7), mset_swap (Ne.symm ne4), mset_mset] at hG
  have hG : mG D b (mset (mset (mset (mset (mset (mset M q1 (aI 6 (fun _ => 0))) mo (.inr (5, [.int (iI 0), .ref q1, .ref q3, .ref q6, .ref q10, .ref q15, .null, .null, .int (iI 0), .null, .null, .null]))) q3 (aI 6 (fun _ => 0))) q6 (aI 6 (fun _ => 0))) q10 (aI 72 (fun _ => 0))) q15 (aI 72 (fun _ => 0))) s H := hG
  refine lv_aload_n hx hb dX5_init_44 rfl (lv_at hl 0 rfl) ?_
  refine lv_bipush (v := iI 72) hx hb dX5_init_45 (by decide) ?_
  refine m_newa_i (N' := 72) hx hb hts (by decide +kernel) hG hS rfl (by decide) (Nat.le_of_ble_eq_true rfl) (Nat.le_of_ble_eq_true rfl) dX5_init_47 (fun q21 H hq21 hG hS => ?_)
  have ne22 : mo ≠ q21 := mfresh hq21 ((mset_ne ne16).trans ((mset_ne ne11).trans ((mset_ne ne7).trans ((mset_ne ne4).trans mset_self))))
  have ne23 : q1 ≠ q21 := mfresh hq21 ((mset_ne ne17).trans ((mset_ne ne12).trans ((mset_ne ne8).trans ((mset_ne ne5).trans ((mset_ne (Ne.symm ne2)).trans mset_self)))))
  have ne24 : q3 ≠ q21 := mfresh hq21 ((mset_ne ne18).trans ((mset_ne ne13).trans ((mset_ne ne9).trans mset_self)))
  have ne25 : q6 ≠ q21 := mfresh hq21 ((mset_ne ne19).trans ((mset_ne ne14).trans mset_self))
  have ne26 : q10 ≠ q21 := mfresh hq21 ((mset_ne ne20).trans mset_self)
  have ne27 : q15 ≠ q21 := mfresh hq21 mset_self
  have hG : mG D b (mset (mset (mset (mset (mset (mset (mset M q1 (aI 6 (fun _ => 0))) mo (.inr (5, [.int (iI 0), .ref q1, .ref q3, .ref q6, .ref q10, .ref q15, .null, .null, .int (iI 0), .null, .null, .null]))) q3 (aI 6 (fun _ => 0))) q6 (aI 6 (fun _ => 0))) q10 (aI 72 (fun _ => 0))) q15 (aI 72 (fun _ => 0))) q21 (aI 72 (fun _ => 0))) s H := hG
  refine m_putF (ci := 5) (v := .ref q21) (ty := .array .int) (fs' := [.int (iI 0), .ref q1, .ref q3, .ref q6, .ref q10, .ref q15, .ref q21, .null, .int (iI 0), .null, .null, .null]) (C := RX5) (T := TX5) (N := 12) hx hb hts (by decide +kernel) tyX5 tyX5_ok nmX5 hown K hG hS ((mset_ne ne22).trans ((mset_ne ne16).trans ((mset_ne ne11).trans ((mset_ne ne7).trans ((mset_ne ne4).trans mset_self))))) rfl 6 (by decide) (by decide +kernel) rfl hnm rfl (by decide +kernel) rfl rfl (Nat.le_of_ble_eq_true rfl) rfl dX5_init_49 (fun H locs hG hS => ?_)
  rw [mset_swap (Ne.symm ne22), mset_swap (Ne.symm ne16), mset_swap (Ne.symm ne11), mset_swap (Ne.symm ne7), mset_swap (Ne.symm ne4), mset_mset] at hG
  have hG : mG D b (mset (mset (mset (mset (mset (mset (mset M q1 (aI 6 (fun _ => 0))) mo (.inr (5, [.int (iI 0), .ref q1, .ref q3, .ref q6, .ref q10, .ref q15, .ref q21, .null, .int (iI 0), .null, .null, .null]))) q3 (aI 6 (fun _ => 0))) q6 (aI 6 (fun _ => 0))) q10 (aI 72 (fun _ => 0))) q15 (aI 72 (fun _ => 0))) q21 (aI 72 (fun _ => 0))) s H := hG
  refine lv_aload_n hx hb dX5_init_52 rfl (lv_at hl 0 rfl) ?_
  refine lv_bipush (v := iI 72) hx hb dX5_init_53 (by decide) ?_
  refine m_newa_i (N' := 72) hx hb hts (by decide +kernel) hG hS rfl (by decide) (Nat.le_of_ble_eq_true rfl) (Nat.le_of_ble_eq_true rfl) dX5_init_55 (fun q28 H hq28 hG hS => ?_)
  have ne29 : mo ≠ q28 := mfresh hq28 ((mset_ne ne22).trans ((mset_ne ne16).trans ((mset_ne ne11).trans ((mset_ne ne7).trans ((mset_ne ne4).trans mset_self)))))
  have ne30 : q1 ≠ q28 := mfresh hq28 ((mset_ne ne23).trans ((mset_ne ne17).trans ((mset_ne ne12).trans ((mset_ne ne8).trans ((mset_ne ne5).trans ((mset_ne (Ne.symm ne2)).trans mset_self))))))
  have ne31 : q3 ≠ q28 := mfresh hq28 ((mset_ne ne24).trans ((mset_ne ne18).trans ((mset_ne ne13).trans ((mset_ne ne9).trans mset_self))))
  have ne32 : q6 ≠ q28 := mfresh hq28 ((mset_ne ne25).trans ((mset_ne ne19).trans ((mset_ne ne14).trans mset_self)))
  have ne33 : q10 ≠ q28 := mfresh hq28 ((mset_ne ne26).trans ((mset_ne ne20).trans mset_self))
  have ne34 : q15 ≠ q28 := mfresh hq28 ((mset_ne ne27).trans mset_self)
  have ne35 : q21 ≠ q28 := mfresh hq28 mset_self
  have hG : mG D b (mset (mset (mset (mset (mset (mset (mset (mset M q1 (aI 6 (fun _ => 0))) mo (.inr (5, [.int (iI 0), .ref q1, .ref q3, .ref q6, .ref q10, .ref q15, .ref q21, .null, .int (iI 0), .null, .null, .null]))) q3 (aI 6 (fun _ => 0))) q6 (aI 6 (fun _ => 0))) q10 (aI 72 (fun _ => 0))) q15 (aI 72 (fun _ => 0))) q21 (aI 72 (fun _ => 0))) q28 (aI 72 (fun _ => 0))) s H := hG
  refine m_putF (ci := 5) (v := .ref q28) (ty := .array .int) (fs' := [.int (iI 0), .ref q1, .ref q3, .ref q6, .ref q10, .ref q15, .ref q21, .ref q28, .int (iI 0), .null, .null, .null]) (C := RX5) (T := TX5) (N := 12) hx hb hts (by decide +kernel) tyX5 tyX5_ok nmX5 hown K hG hS ((mset_ne ne29).trans ((mset_ne ne22).trans ((mset_ne ne16).trans ((mset_ne ne11).trans ((mset_ne ne7).trans ((mset_ne ne4).trans mset_self)))))) rfl 7 (by decide) (by decide +kernel) rfl hnm rfl (by decide +kernel) rfl rfl (Nat.le_of_ble_eq_true rfl) rfl dX5_init_57 (fun H locs hG hS => ?_)
  rw [mset_swap (Ne.symm ne29), mset_swap (Ne.symm ne22), mset_swap (Ne.symm ne16), mset_swap (Ne.symm ne11), mset_swap (Ne.symm ne7), mset_swap (Ne.symm ne4), mset_mset] at hG
  have hG : mG D b (mset (mset (mset (mset (mset (mset (mset (mset M q1 (aI 6 (fun _ => 0))) mo (.inr (5, [.int (iI 0), .ref q1, .ref q3, .ref q6, .ref q10, .ref q15, .ref q21, .ref q28, .int (iI 0), .null, .null, .null]))) q3 (aI 6 (fun _ => 0))) q6 (aI 6 (fun _ => 0))) q10 (aI 72 (fun _ => 0))) q15 (aI 72 (fun _ => 0))) q21 (aI 72 (fun _ => 0))) q28 (aI 72 (fun _ => 0))) s H := hG
  refine lv_aload_n hx hb dX5_init_60 rfl (lv_at hl 0 rfl) ?_
  refine lv_sipush (v := iI 16384) hx hb dX5_init_61 (by decide) ?_
  refine m_newa_z (N' := 16384) hx hb hts (by decide +kernel) hG hS rfl (by decide) (Nat.le_of_ble_eq_true rfl) (Nat.le_of_ble_eq_true rfl) dX5_init_64 (fun q36 H hq36 hG hS => ?_)
  have ne37 : mo ≠ q36 := mfresh hq36 ((mset_ne ne29).trans ((mset_ne ne22).trans ((mset_ne ne16).trans ((mset_ne ne11).trans ((mset_ne ne7).trans ((mset_ne ne4).trans mset_self))))))
  have ne38 : q1 ≠ q36 := mfresh hq36 ((mset_ne ne30).trans ((mset_ne ne23).trans ((mset_ne ne17).trans ((mset_ne ne12).trans ((mset_ne ne8).trans ((mset_ne ne5).trans ((mset_ne (Ne.symm ne2)).trans mset_self)))))))
  have ne39 : q3 ≠ q36 := mfresh hq36 ((mset_ne ne31).trans ((mset_ne ne24).trans ((mset_ne ne18).trans ((mset_ne ne13).trans ((mset_ne ne9).trans mset_self)))))
  have ne40 : q6 ≠ q36 := mfresh hq36 ((mset_ne ne32).trans ((mset_ne ne25).trans ((mset_ne ne19).trans ((mset_ne ne14).trans mset_self))))
  have ne41 : q10 ≠ q36 := mfresh hq36 ((mset_ne ne33).trans ((mset_ne ne26).trans ((mset_ne ne20).trans mset_self)))
  have ne42 : q15 ≠ q36 := mfresh hq36 ((mset_ne ne34).trans ((mset_ne ne27).trans mset_self))
  have ne43 : q21 ≠ q36 := mfresh hq36 ((mset_ne ne35).trans mset_self)
  have ne44 : q28 ≠ q36 := mfresh hq36 mset_self
  have hG : mG D b (mset (mset (mset (mset (mset (mset (mset (mset (mset M q1 (aI 6 (fun _ => 0))) mo (.inr (5, [.int (iI 0), .ref q1, .ref q3, .ref q6, .ref q10, .ref q15, .ref q21, .ref q28, .int (iI 0), .null, .null, .null]))) q3 (aI 6 (fun _ => 0))) q6 (aI 6 (fun _ => 0))) q10 (aI 72 (fun _ => 0))) q15 (aI 72 (fun _ => 0))) q21 (aI 72 (fun _ => 0))) q28 (aI 72 (fun _ => 0))) q36 (aZ 16384 (fun _ => false))) s H := hG
  refine m_putF (ci := 5) (v := .ref q36) (ty := .array .boolean) (fs' := [.int (iI 0), .ref q1, .ref q3, .ref q6, .ref q10, .ref q15, .ref q21, .ref q28, .int (iI 0), .ref q36, .null, .null]) (C := RX5) (T := TX5) (N := 12) hx hb hts (by decide +kernel) tyX5 tyX5_ok nmX5 hown K hG hS ((mset_ne ne37).trans ((mset_ne ne29).trans ((mset_ne ne22).trans ((mset_ne ne16).trans ((mset_ne ne11).trans ((mset_ne ne7).trans ((mset_ne ne4).trans mset_self))))))) rfl 9 (by decide) (by decide +kernel) rfl hnm rfl (by decide +kernel) rfl rfl (Nat.le_of_ble_eq_true rfl) rfl dX5_init_66 (fun H locs hG hS => ?_)
  rw [mset_swap (Ne.symm ne37), mset_swap (Ne.symm ne29), mset_swap (Ne.symm ne22), mset_swap (Ne.symm ne16), mset_swap (Ne.symm ne11), mset_swap (Ne.symm ne7), mset_swap (Ne.symm ne4), mset_mset] at hG
  have hG : mG D b (mset (mset (mset (mset (mset (mset (mset (mset (mset M q1 (aI 6 (fun _ => 0))) mo (.inr (5, [.int (iI 0), .ref q1, .ref q3, .ref q6, .ref q10, .ref q15, .ref q21, .ref q28, .int (iI 0), .ref q36, .null, .null]))) q3 (aI 6 (fun _ => 0))) q6 (aI 6 (fun _ => 0))) q10 (aI 72 (fun _ => 0))) q15 (aI 72 (fun _ => 0))) q21 (aI 72 (fun _ => 0))) q28 (aI 72 (fun _ => 0))) q36 (aZ 16384 (fun _ => false))) s H := hG
  refine lv_aload_n hx hb dX5_init_69 rfl (lv_at hl 0 rfl) ?_
  refine lv_sipush (v := iI 4096) hx hb dX5_init_70 (by decide) ?_
  refine m_newa_i (N' := 4096) hx hb hts (by decide +kernel) hG hS rfl (by decide) (Nat.le_of_ble_eq_true rfl) (Nat.le_of_ble_eq_true rfl) dX5_init_73 (fun q45 H hq45 hG hS => ?_)
  have ne46 : mo ≠ q45 := mfresh hq45 ((mset_ne ne37).trans ((mset_ne ne29).trans ((mset_ne ne22).trans ((mset_ne ne16).trans ((mset_ne ne11).trans ((mset_ne ne7).trans ((mset_ne ne4).trans mset_self)))))))
  have ne47 : q1 ≠ q45 := mfresh hq45 ((mset_ne ne38).trans ((mset_ne ne30).trans ((mset_ne ne23).trans ((mset_ne ne17).trans ((mset_ne ne12).trans ((mset_ne ne8).trans ((mset_ne ne5).trans ((mset_ne (Ne.symm ne2)).trans mset_self))))))))
  have ne48 : q3 ≠ q45 := mfresh hq45 ((mset_ne ne39).trans ((mset_ne ne31).trans ((mset_ne ne24).trans ((mset_ne ne18).trans ((mset_ne ne13).trans ((mset_ne ne9).trans mset_self))))))
  have ne49 : q6 ≠ q45 := mfresh hq45 ((mset_ne ne40).trans ((mset_ne ne32).trans ((mset_ne ne25).trans ((mset_ne ne19).trans ((mset_ne ne14).trans mset_self)))))
  have ne50 : q10 ≠ q45 := mfresh hq45 ((mset_ne ne41).trans ((mset_ne ne33).trans ((mset_ne ne26).trans ((mset_ne ne20).trans mset_self))))
  have ne51 : q15 ≠ q45 := mfresh hq45 ((mset_ne ne42).trans ((mset_ne ne34).trans ((mset_ne ne27).trans mset_self)))
  have ne52 : q21 ≠ q45 := mfresh hq45 ((mset_ne ne43).trans ((mset_ne ne35).trans mset_self))
  have ne53 : q28 ≠ q45 := mfresh hq45 ((mset_ne ne44).trans mset_self)
  have ne54 : q36 ≠ q45 := mfresh hq45 mset_self
  have hG : mG D b (mset (mset (mset (mset (mset (mset (mset (mset (mset (mset M q1 (aI 6 (fun _ => 0))) mo (.inr (5, [.int (iI 0), .ref q1, .ref q3, .ref q6, .ref q10, .ref q15, .ref q21, .ref q28, .int (iI 0), .ref q36, .null, .null]))) q3 (aI 6 (fun _ => 0))) q6 (aI 6 (fun _ => 0))) q10 (aI 72 (fun _ => 0))) q15 (aI 72 (fun _ => 0))) q21 (aI 72 (fun _ => 0))) q28 (aI 72 (fun _ => 0))) q36 (aZ 16384 (fun _ => false))) q45 (aI 4096 (fun _ => 0))) s H := hG
  refine m_putF (ci := 5) (v := .ref q45) (ty := .array .int) (fs' := [.int (iI 0), .ref q1, .ref q3, .ref q6, .ref q10, .ref q15, .ref q21, .ref q28, .int (iI 0), .ref q36, .ref q45, .null]) (C := RX5) (T := TX5) (N := 12) hx hb hts (by decide +kernel) tyX5 tyX5_ok nmX5 hown K hG hS ((mset_ne ne46).trans ((mset_ne ne37).trans ((mset_ne ne29).trans ((mset_ne ne22).trans ((mset_ne ne16).trans ((mset_ne ne11).trans ((mset_ne ne7).trans ((mset_ne ne4).trans mset_self)))))))) rfl 10 (by decide) (by decide +kernel) rfl hnm rfl (by decide +kernel) rfl rfl (Nat.le_of_ble_eq_true rfl) rfl dX5_init_75 (fun H locs hG hS => ?_)
  rw [mset_swap (Ne.symm ne46), mset_swap (Ne.symm ne37), mset_swap (Ne.symm ne29), mset_swap (Ne.symm ne22), mset_swap (Ne.symm ne16), mset_swap (Ne.symm ne11), mset_swap (Ne.symm ne7), mset_swap (Ne.symm ne4), mset_mset] at hG
  have hG : mG D b (mset (mset (mset (mset (mset (mset (mset (mset (mset (mset M q1 (aI 6 (fun _ => 0))) mo (.inr (5, [.int (iI 0), .ref q1, .ref q3, .ref q6, .ref q10, .ref q15, .ref q21, .ref q28, .int (iI 0), .ref q36, .ref q45, .null]))) q3 (aI 6 (fun _ => 0))) q6 (aI 6 (fun _ => 0))) q10 (aI 72 (fun _ => 0))) q15 (aI 72 (fun _ => 0))) q21 (aI 72 (fun _ => 0))) q28 (aI 72 (fun _ => 0))) q36 (aZ 16384 (fun _ => false))) q45 (aI 4096 (fun _ => 0))) s H := hG
  refine lv_aload_n hx hb dX5_init_78 rfl (lv_at hl 0 rfl) ?_
  refine lv_sipush (v := iI 4096) hx hb dX5_init_79 (by decide) ?_
  refine m_newa_i (N' := 4096) hx hb hts (by decide +kernel) hG hS rfl (by decide) (Nat.le_of_ble_eq_true rfl) (Nat.le_of_ble_eq_true rfl) dX5_init_82 (fun q55 H hq55 hG hS => ?_)
  have ne56 : mo ≠ q55 := mfresh hq55 ((mset_ne ne46).trans ((mset_ne ne37).trans ((mset_ne ne29).trans ((mset_ne ne22).trans ((mset_ne ne16).trans ((mset_ne ne11).trans ((mset_ne ne7).trans ((mset_ne ne4).trans mset_self))))))))
  have ne57 : q1 ≠ q55 := mfresh hq55 ((mset_ne ne47).trans ((mset_ne ne38).trans ((mset_ne ne30).trans ((mset_ne ne23).trans ((mset_ne ne17).trans ((mset_ne ne12).trans ((mset_ne ne8).trans ((mset_ne ne5).trans ((mset_ne (Ne.symm ne2)).trans mset_self)))))))))
  have ne58 : q3 ≠ q55 := mfresh hq55 ((mset_ne ne48).trans ((mset_ne ne39).trans ((mset_ne ne31).trans ((mset_ne ne24).trans ((mset_ne ne18).trans ((mset_ne ne13).trans ((mset_ne ne9).trans mset_self)))))))
  have ne59 : q6 ≠ q55 := mfresh hq55 ((mset_ne ne49).trans ((mset_ne ne40).trans ((mset_ne ne32).trans ((mset_ne ne25).trans ((mset_ne ne19).trans ((mset_ne ne14).trans mset_self))))))
  have ne60 : q10 ≠ q55 := mfresh hq55 ((mset_ne ne50).trans ((mset_ne ne41).trans ((mset_ne ne33).trans ((mset_ne ne26).trans ((mset_ne ne20).trans mset_self)))))
  have ne61 : q15 ≠ q55 := mfresh hq55 ((mset_ne ne51).trans ((mset_ne ne42).trans ((mset_ne ne34).trans ((mset_ne ne27).trans mset_self))))
  have ne62 : q21 ≠ q55 := mfresh hq55 ((mset_ne ne52).trans ((mset_ne ne43).trans ((mset_ne ne35).trans mset_self)))
  have ne63 : q28 ≠ q55 := mfresh hq55 ((mset_ne ne53).trans ((mset_ne ne44).trans mset_self))
  have ne64 : q36 ≠ q55 := mfresh hq55 ((mset_ne ne54).trans mset_self)
  have ne65 : q45 ≠ q55 := mfresh hq55 mset_self
  have hG : mG D b (mset (mset (mset (mset (mset (mset (mset (mset (mset (mset (mset M q1 (aI 6 (fun _ => 0))) mo (.inr (5, [.int (iI 0), .ref q1, .ref q3, .ref q6, .ref q10, .ref q15, .ref q21, .ref q28, .int (iI 0), .ref q36, .ref q45, .null]))) q3 (aI 6 (fun _ => 0))) q6 (aI 6 (fun _ => 0))) q10 (aI 72 (fun _ => 0))) q15 (aI 72 (fun _ => 0))) q21 (aI 72 (fun _ => 0))) q28 (aI 72 (fun _ => 0))) q36 (aZ 16384 (fun _ => false))) q45 (aI 4096 (fun _ => 0))) q55 (aI 4096 (fun _ => 0))) s H := hG
  refine m_putF (ci := 5) (v := .ref q55) (ty := .array .int) (fs' := [.int (iI 0), .ref q1, .ref q3, .ref q6, .ref q10, .ref q15, .ref q21, .ref q28, .int (iI 0), .ref q36, .ref q45, .ref q55]) (C := RX5) (T := TX5) (N := 12) hx hb hts (by decide +kernel) tyX5 tyX5_ok nmX5 hown K hG hS ((mset_ne ne56).trans ((mset_ne ne46).trans ((mset_ne ne37).trans ((mset_ne ne29).trans ((mset_ne ne22).trans ((mset_ne ne16).trans ((mset_ne ne11).trans ((mset_ne ne7).trans ((mset_ne ne4).trans mset_self))))))))) rfl 11 (by decide) (by decide +kernel) rfl hnm rfl (by decide +kernel) rfl rfl (Nat.le_of_ble_eq_true rfl) rfl dX5_init_84 (fun H locs hG hS => ?_)
  rw [mset_swap (Ne.symm ne56), mset_swap (Ne.symm ne46), mset_swap (Ne.symm ne37), mset_swap (Ne.symm ne29), mset_swap (Ne.symm ne22), mset_swap (Ne.symm ne16), mset_swap (Ne.symm ne11), mset_swap (Ne.symm ne7), mset_swap (Ne.symm ne4), mset_mset] at hG
  have hG : mG D b (mset (mset (mset (mset (mset (mset (mset (mset (mset (mset (mset M q1 (aI 6 (fun _ => 0))) mo (.inr (5, [.int (iI 0), .ref q1, .ref q3, .ref q6, .ref q10, .ref q15, .ref q21, .ref q28, .int (iI 0), .ref q36, .ref q45, .ref q55]))) q3 (aI 6 (fun _ => 0))) q6 (aI 6 (fun _ => 0))) q10 (aI 72 (fun _ => 0))) q15 (aI 72 (fun _ => 0))) q21 (aI 72 (fun _ => 0))) q28 (aI 72 (fun _ => 0))) q36 (aZ 16384 (fun _ => false))) q45 (aI 4096 (fun _ => 0))) q55 (aI 4096 (fun _ => 0))) s H := hG
  have hinj : ∀ i j, i ≤ 10 → j ≤ 10 → am11 mo q1 q3 q6 q10 q15 q21 q28 q36 q45 q55 i = am11 mo q1 q3 q6 q10 q15 q21 q28 q36 q45 q55 j → i = j := by
    refine inj11 (fun j hj i hi => ?_)
    rcases (show j = 0 ∨ j = 1 ∨ j = 2 ∨ j = 3 ∨ j = 4 ∨ j = 5 ∨ j = 6 ∨ j = 7 ∨ j = 8 ∨ j = 9 ∨ j = 10 by omega) with rfl | rfl | rfl | rfl | rfl | rfl | rfl | rfl | rfl | rfl | rfl
    · exact absurd hi (by omega)
    · rcases (show i = 0 by omega) with rfl
      · exact ne2
    · rcases (show i = 0 ∨ i = 1 by omega) with rfl | rfl
      · exact ne4
      · exact ne5
    · rcases (show i = 0 ∨ i = 1 ∨ i = 2 by omega) with rfl | rfl | rfl
      · exact ne7
      · exact ne8
      · exact ne9
    · rcases (show i = 0 ∨ i = 1 ∨ i = 2 ∨ i = 3 by omega) with rfl | rfl | rfl | rfl
      · exact ne11
      · exact ne12
      · exact ne13
      · exact ne14
    · rcases (show i = 0 ∨ i = 1 ∨ i = 2 ∨ i = 3 ∨ i = 4 by omega) with rfl | rfl | rfl | rfl | rfl
      · exact ne16
      · exact ne17
      · exact ne18
      · exact ne19
      · exact ne20
    · rcases (show i = 0 ∨ i = 1 ∨ i = 2 ∨ i = 3 ∨ i = 4 ∨ i = 5 by omega) with rfl | rfl | rfl | rfl | rfl | rfl
      · exact ne22
      · exact ne23
      · exact ne24
      · exact ne25
      · exact ne26
      · exact ne27
    · rcases (show i = 0 ∨ i = 1 ∨ i = 2 ∨ i = 3 ∨ i = 4 ∨ i = 5 ∨ i = 6 by omega) with rfl | rfl | rfl | rfl | rfl | rfl | rfl
      · exact ne29
      · exact ne30
      · exact ne31
      · exact ne32
      · exact ne33
      · exact ne34
      · exact ne35
    · rcases (show i = 0 ∨ i = 1 ∨ i = 2 ∨ i = 3 ∨ i = 4 ∨ i = 5 ∨ i = 6 ∨ i = 7 by omega) with rfl | rfl | rfl | rfl | rfl | rfl | rfl | rfl
      · exact ne37
      · exact ne38
      · exact ne39
      · exact ne40
      · exact ne41
      · exact ne42
      · exact ne43
      · exact ne44
    · rcases (show i = 0 ∨ i = 1 ∨ i = 2 ∨ i = 3 ∨ i = 4 ∨ i = 5 ∨ i = 6 ∨ i = 7 ∨ i = 8 by omega) with rfl | rfl | rfl | rfl | rfl | rfl | rfl | rfl | rfl
      · exact ne46
      · exact ne47
      · exact ne48
      · exact ne49
      · exact ne50
      · exact ne51
      · exact ne52
      · exact ne53
      · exact ne54
    · rcases (show i = 0 ∨ i = 1 ∨ i = 2 ∨ i = 3 ∨ i = 4 ∨ i = 5 ∨ i = 6 ∨ i = 7 ∨ i = 8 ∨ i = 9 by omega) with rfl | rfl | rfl | rfl | rfl | rfl | rfl | rfl | rfl | rfl
      · exact ne56
      · exact ne57
      · exact ne58
      · exact ne59
      · exact ne60
      · exact ne61
      · exact ne62
      · exact ne63
      · exact ne64
      · exact ne65
  have hnone : ∀ i, 1 ≤ i → i ≤ 10 → M (am11 mo q1 q3 q6 q10 q15 q21 q28 q36 q45 q55 i) = none := by
    intro i h1 h2
    rcases (show i = 1 ∨ i = 2 ∨ i = 3 ∨ i = 4 ∨ i = 5 ∨ i = 6 ∨ i = 7 ∨ i = 8 ∨ i = 9 ∨ i = 10 by omega) with rfl | rfl | rfl | rfl | rfl | rfl | rfl | rfl | rfl | rfl
    · exact hq1
    · exact (mset_none (mset_none hq3))
    · exact (mset_none (mset_none (mset_none hq6)))
    · exact (mset_none (mset_none (mset_none (mset_none hq10))))
    · exact (mset_none (mset_none (mset_none (mset_none (mset_none hq15)))))
    · exact (mset_none (mset_none (mset_none (mset_none (mset_none (mset_none hq21))))))
    · exact (mset_none (mset_none (mset_none (mset_none (mset_none (mset_none (mset_none hq28)))))))
    · exact (mset_none (mset_none (mset_none (mset_none (mset_none (mset_none (mset_none (mset_none hq36))))))))
    · exact (mset_none (mset_none (mset_none (mset_none (mset_none (mset_none (mset_none (mset_none (mset_none hq45)))))))))
    · exact (mset_none (mset_none (mset_none (mset_none (mset_none (mset_none (mset_none (mset_none (mset_none (mset_none hq55))))))))))
  exact m_vret hx hb hr hlk hQ hG hS (Nat.le_of_ble_eq_true rfl) (Nat.le_of_ble_eq_true rfl) dX5_init_87 ⟨am11 mo q1 q3 q6 q10 q15 q21 q28 q36 q45 q55, rfl, ⟨((mset_ne ne56).trans ((mset_ne ne46).trans ((mset_ne ne37).trans ((mset_ne ne29).trans ((mset_ne ne22).trans ((mset_ne ne16).trans ((mset_ne ne11).trans ((mset_ne ne7).trans ((mset_ne ne4).trans mset_self))))))))), ((mset_ne ne57).trans ((mset_ne ne47).trans ((mset_ne ne38).trans ((mset_ne ne30).trans ((mset_ne ne23).trans ((mset_ne ne17).trans ((mset_ne ne12).trans ((mset_ne ne8).trans ((mset_ne ne5).trans ((mset_ne (Ne.symm ne2)).trans mset_self)))))))))), ((mset_ne ne58).trans ((mset_ne ne48).trans ((mset_ne ne39).trans ((mset_ne ne31).trans ((mset_ne ne24).trans ((mset_ne ne18).trans ((mset_ne ne13).trans ((mset_ne ne9).trans mset_self)))))))), ((mset_ne ne59).trans ((mset_ne ne49).trans ((mset_ne ne40).trans ((mset_ne ne32).trans ((mset_ne ne25).trans ((mset_ne ne19).trans ((mset_ne ne14).trans mset_self))))))), ((mset_ne ne60).trans ((mset_ne ne50).trans ((mset_ne ne41).trans ((mset_ne ne33).trans ((mset_ne ne26).trans ((mset_ne ne20).trans mset_self)))))), ((mset_ne ne61).trans ((mset_ne ne51).trans ((mset_ne ne42).trans ((mset_ne ne34).trans ((mset_ne ne27).trans mset_self))))), ((mset_ne ne62).trans ((mset_ne ne52).trans ((mset_ne ne43).trans ((mset_ne ne35).trans mset_self)))), ((mset_ne ne63).trans ((mset_ne ne53).trans ((mset_ne ne44).trans mset_self))), ((mset_ne ne64).trans ((mset_ne ne54).trans mset_self)), ((mset_ne ne65).trans mset_self), mset_self, hinj, ⟨by omega, by omega, by omega, by omega⟩⟩, (fun a g1 g2 => ((mset_ne (fun z9 => g2 (by rw [z9]; exact (mset_none (mset_none (mset_none (mset_none (mset_none (mset_none (mset_none (mset_none (mset_none (mset_none hq55))))))))))))).trans ((mset_ne (fun z9 => g2 (by rw [z9]; exact (mset_none (mset_none (mset_none (mset_none (mset_none (mset_none (mset_none (mset_none (mset_none hq45)))))))))))).trans ((mset_ne (fun z9 => g2 (by rw [z9]; exact (mset_none (mset_none (mset_none (mset_none (mset_none (mset_none (mset_none (mset_none hq36))))))))))).trans ((mset_ne (fun z9 => g2 (by rw [z9]; exact (mset_none (mset_none (mset_none (mset_none (mset_none (mset_none (mset_none hq28)))))))))).trans ((mset_ne (fun z9 => g2 (by rw [z9]; exact (mset_none (mset_none (mset_none (mset_none (mset_none (mset_none hq21))))))))).trans ((mset_ne (fun z9 => g2 (by rw [z9]; exact (mset_none (mset_none (mset_none (mset_none (mset_none hq15)))))))).trans ((mset_ne (fun z9 => g2 (by rw [z9]; exact (mset_none (mset_none (mset_none (mset_none hq10))))))).trans ((mset_ne (fun z9 => g2 (by rw [z9]; exact (mset_none (mset_none (mset_none hq6)))))).trans ((mset_ne (fun z9 => g2 (by rw [z9]; exact (mset_none (mset_none hq3))))).trans ((mset_ne g1).trans (mset_ne (fun z9 => g2 (by rw [z9]; exact hq1)))))))))))))), hnone⟩

