set_option maxHeartbeats 4000000 in
set_option maxRecDepth 100000 in
theorem whole_start {p : Program} {e : Env} {s : State} {m : MethodId} {below : List Frame} {meth : Method} {c : Code} (l : Launch) {b L : Nat} {xs : Nat → Int32} (hL : L ≤ 3072) (C0 : lw_At p s m meth c b L xs) : W p l e room_1 s m #[Value.ref b] below meth c s.heap [] 0 0 (lw_Z below #[Value.ref b] s) (entryFrame m ([Value.ref b] : List Value).toArray 4) := by
  obtain ⟨hx, hb, hr, hml, hown, hts0, hX, hbl, hlk, hgv⟩ := id C0
  have hb : c.code = cL_law := hb
  have hown : s.vm.findClass RL = some m.cls := hown
  have hts : ∀ w ∈ wsL_law, w.before #[Value.ref b] s = true := fun w h => hts0 w (wsL_law_in w h)
  obtain ⟨c0, iS0, hKn0⟩ := u_known (C := RX0) (T := TX0) (N := 4) (n := 4) hts0 wsL_x0 (hts (.instantiable RX0 4) (by decide +kernel))
  obtain ⟨c1, iS1, hKn1⟩ := u_known (C := RX1) (T := TX1) (N := 1) (n := 1) hts0 wsL_x1 (hts (.instantiable RX1 1) (by decide +kernel))
  obtain ⟨c2, iS2, hKn2⟩ := u_known (C := RX2) (T := TX2) (N := 3) (n := 3) hts0 wsL_x2 (hts (.instantiable RX2 3) (by decide +kernel))
  obtain ⟨c3, iS3, hKn3⟩ := u_known (C := RX3) (T := TX3) (N := 7) (n := 7) hts0 wsL_x3 (hts (.instantiable RX3 7) (by decide +kernel))
  obtain ⟨c4, iS4, hKn4⟩ := u_known (C := RX4) (T := TX4) (N := 6) (n := 6) hts0 wsL_x4 (hts (.instantiable RX4 6) (by decide +kernel))
  obtain ⟨c5, iS5, hKn5⟩ := u_known (C := RX5) (T := TX5) (N := 12) (n := 12) hts0 wsL_x5 (hts (.instantiable RX5 12) (by decide +kernel))
  obtain ⟨D, hKc⟩ : ∃ D : va_G, ∀ (k : Nat) (q : vw_C), vwCl[k]? = some q → u_Kn s q.1 q.2.1 q.2.2 (D.1 k) (D.2 k) := by
    refine ⟨(fun k => if k = 0 then c0 else if k = 1 then c1 else if k = 2 then c2 else if k = 3 then c3 else if k = 4 then c4 else c5, fun k => if k = 0 then iS0 else if k = 1 then iS1 else if k = 2 then iS2 else if k = 3 then iS3 else if k = 4 then iS4 else iS5), ?_⟩
    intro k q hq
    match k, hq with
    | 0, hq => cases hq; exact hKn0
    | 1, hq => cases hq; exact hKn1
    | 2, hq => cases hq; exact hKn2
    | 3, hq => cases hq; exact hKn3
    | 4, hq => cases hq; exact hKn4
    | 5, hq => cases hq; exact hKn5
    | k + 6, hq => simp [vwCl] at hq
  have K : mS D s := ⟨⟨hKc, fun k q h => by simp at h⟩, ⟨va_Nw.of rfl (hts0 (.fieldLinkNest RX1 27 "OverLine$Box" "lowX" "I" "OverLine") (by decide +kernel)), va_Nw.of rfl (hts0 (.fieldLinkNest RX1 31 "OverLine$Box" "highX" "I" "OverLine") (by decide +kernel))⟩, ⟨va_Nw.of rfl (hts0 (.fieldLinkNest RX4 73 "OverLine$Box" "lowX" "I" "OverLine") (by decide +kernel)), va_Nw.of rfl (hts0 (.fieldLinkNest RX4 78 "OverLine$Box" "highX" "I" "OverLine") (by decide +kernel)), va_Nw.of rfl (hts0 (.fieldLinkNest RX4 81 "OverLine$Box" "lowY" "I" "OverLine") (by decide +kernel)), va_Nw.of rfl (hts0 (.fieldLinkNest RX4 84 "OverLine$Box" "highY" "I" "OverLine") (by decide +kernel))⟩, ⟨va_Nw.of rfl (hts0 (.methodLinkNest RX3 63 yX4_xOf "OverLine") (by decide +kernel)), va_Nw.of rfl (hts0 (.methodLinkNest RX3 67 yX4_yOf "OverLine") (by decide +kernel))⟩, va_AO.of (hts0 (.arrayOver (.object RX0)) (by decide +kernel)), va_AO.of (hts0 (.arrayOver (.object RX1)) (by decide +kernel)), va_AO.of (hts0 (.arrayOver (.object RX3)) (by decide +kernel))⟩
  have hS : va_S (mF s.heap.size) s.heap s.heap [] := va_S.rf
  have hG : mG D s.heap.size (fun _ => none) s s.heap := ⟨Nat.le_refl _, fun a v h => by cases h⟩
  have hl := lv_entry ([.ref b]) (n := 4) (Nat.le_of_ble_eq_true rfl)
  rw [lg_entry_eq]
  generalize (lg_sl ([.ref b]) ++ List.replicate (4 - (lg_sl ([.ref b])).length) Slot.unset).toArray = ls at hl ⊢
  have hl : lv_has ls 4 [(0, .ref b)] := hl
  refine m_new (ci := 4) (fs := [.null, .null, .null, .null, .int (iI 0), .int (iI 0)]) (C := RX4) (T := TX4) (N := 6) hx hb hts (by decide +kernel) tyX4 tyX4_ok hown (by decide +kernel) (by decide +kernel) (by decide +kernel) K hG hS rfl (fun j hj => by rcases (show j = 0 ∨ j = 1 ∨ j = 2 ∨ j = 3 ∨ j = 4 ∨ j = 5 by omega) with rfl | rfl | rfl | rfl | rfl | rfl <;> rfl) (Nat.le_of_ble_eq_true rfl) (Nat.le_of_ble_eq_true rfl) dL_law_0 (fun o H ho hG hS => ?_)
  refine lv_dup hx hb dL_law_3 rfl ?_
  refine m_callv (m_runI (a := o) (As := []) (rest := [.ref o]) ⟨hx, hb, hml, hown, hts⟩ (c_X4_init l D s.heap.size _ o mset_self) (cwI 0 hts gL_law_X4_init rfl rfl rfl (hts (.initialized RX4) (by decide +kernel)) (hts (.methodLink RL 9 yX4_init) (by decide +kernel)) (hts (.instanceMethod yX4_init) (by decide +kernel)) rfl (by decide +kernel) ⟨Nat.le_of_ble_eq_true rfl, Nat.le_of_ble_eq_true rfl⟩) K hG rfl rfl hl.1 rfl (Nat.le_of_ble_eq_true rfl) dL_law_4 ⟨Nat.le_of_ble_eq_true rfl, Nat.le_of_ble_eq_true rfl⟩) hS (fun M1 H locs hwM1 hG hS => ?_)
  refine lv_astore_n (lv' := [(1, .ref o), (0, .ref b)]) hx hb dL_law_7 rfl hl (by decide) rfl (fun ls hl => ?_)
  refine m_new (ci := 5) (fs := [.int (iI 0), .null, .null, .null, .null, .null, .null, .null, .int (iI 0), .null, .null, .null]) (C := RX5) (T := TX5) (N := 12) hx hb hts (by decide +kernel) tyX5 tyX5_ok hown (by decide +kernel) (by decide +kernel) (by decide +kernel) K hG hS rfl (fun j hj => by rcases (show j = 0 ∨ j = 1 ∨ j = 2 ∨ j = 3 ∨ j = 4 ∨ j = 5 ∨ j = 6 ∨ j = 7 ∨ j = 8 ∨ j = 9 ∨ j = 10 ∨ j = 11 by omega) with rfl | rfl | rfl | rfl | rfl | rfl | rfl | rfl | rfl | rfl | rfl | rfl <;> rfl) (Nat.le_of_ble_eq_true rfl) (Nat.le_of_ble_eq_true rfl) dL_law_8 (fun mo H hmo hG hS => ?_)
  refine lv_dup hx hb dL_law_11 rfl ?_
  refine m_callv (m_runI (a := mo) (As := []) (rest := [.ref mo]) ⟨hx, hb, hml, hown, hts⟩ (c_X5_init l D s.heap.size _ mo mset_self) (cwI 0 hts gL_law_X5_init rfl rfl rfl (hts (.initialized RX5) (by decide +kernel)) (hts (.methodLink RL 12 yX5_init) (by decide +kernel)) (hts (.instanceMethod yX5_init) (by decide +kernel)) rfl (by decide +kernel) ⟨Nat.le_of_ble_eq_true rfl, Nat.le_of_ble_eq_true rfl⟩) K hG rfl rfl hl.1 rfl (Nat.le_of_ble_eq_true rfl) dL_law_12 ⟨Nat.le_of_ble_eq_true rfl, Nat.le_of_ble_eq_true rfl⟩) hS (fun M2 H locs hwM2 hG hS => ?_)
  refine lv_astore_n (lv' := [(2, .ref mo), (1, .ref o), (0, .ref b)]) hx hb dL_law_15 rfl hl (by decide) rfl (fun ls hl => ?_)
  refine lv_iconst (v := iI 0) hx hb dL_law_16 rfl ?_
  refine lv_istore_n (lv' := [(3, .int (iI 0)), (2, .ref mo), (1, .ref o), (0, .ref b)]) hx hb dL_law_17 rfl hl (by decide) rfl (fun ls hl => ?_)
  obtain ⟨ad, tg, a8, hO, hT, -, htg⟩ := hwM1
  obtain ⟨am, a0, hMo, hfr, hnew⟩ := hwM2
  have hO1 := hO (fun _ => 0) (fun _ => 0) (fun _ => 0) (fun _ _ => 0) (fun _ _ => 0) (fun _ _ => 0) (fun _ _ _ => false)
  have kp : ∀ k i t, live 0 0 k i t → M2 (ad k i t) = M1 (ad k i t) := fun k i t hk => by
    obtain ⟨v, hv⟩ := Ov_some hO1 hk
    have hne : ad k i t ≠ mo := mfresh hmo hv
    have he : ∀ v : mE, mset M1 mo v (ad k i t) = M1 (ad k i t) := fun _ => mset_ne hne
    exact (hfr _ hne (by rw [he]; exact msome hv)).trans (he _)
  have hI : InvE M2 o mo := by
    refine ⟨ad, tg, am, 0, 0, (fun _ => 0), (fun _ => 0), (fun _ => 0), fun _ _ => 0, fun _ _ => 0, fun _ _ => 0, fun _ _ _ => false, (fun _ => 0), (fun _ => 0), (fun _ => 0), (fun _ => 0), fun _ => false, (fun _ => 0), (fun _ => 0), a8, a0, OvOk_keep hO1 kp, hT, hMo, ?_, ?_, ?_, ?_, ?_, ?_⟩
    · intro i hi
      have hn : M1 (am i) = none := by
        by_cases e9 : i = 0
        · rw [e9, a0]; exact hmo
        · exact mset_none (hnew i (by omega) hi)
      rw [htg _ hn]
      decide
    · intro i hi; exact absurd hi (by omega)
    · intro i hi; exact absurd hi (by omega)
    · intro i hi; exact absurd hi (by omega)
    · intro i hi; exact ⟨rfl, rfl⟩
    · intro k hk; rfl
  refine W.widen (k := 180 + 15 * 0) (n := 40000 + 80 * 0) (Nat.le_of_ble_eq_true rfl) (Nat.le_of_ble_eq_true rfl) ?_
  exact law_loop l ⟨C0, K, hL⟩ (L + 1) 0 M2 H locs ls (Nat.zero_le L) (by omega) hI hG hS hl
