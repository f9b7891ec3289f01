theorem ltk {j : Nat} {k : Int} (h : (j : Int) < k) (h2 : k ≤ 4096) : j < 4096 := by omega
theorem kpF_at {f g : Nat → Int} {S : Nat → Nat → Bool} {F : Nat → Nat → Int} {u : Nat} {o kc : Int} {j : Nat} (h : f j = g j) : kpF f S F u o kc j = kpF g S F u o kc j := by unfold kpF; rw [h]
theorem kpF_bd {f : Nat → Int} {S : Nat → Nat → Bool} {F : Nat → Nat → Int} {u : Nat} {o kc : Int} {j : Nat} {x y : Int} (h : x ≤ f j ∧ f j ≤ y) (ho : x ≤ o ∧ o ≤ y) : x ≤ kpF f S F u o kc j ∧ kpF f S F u o kc j ≤ y + 1 := by
  unfold kpF
  split
  · split
    · split <;> omega
    · omega
  · omega
/-- the reference's values behind n ticks from a on -/
def wvF (w o kc : Int) (S : Nat → Nat → Bool) (F : Nat → Nat → Int) (dd a : Nat) : Nat → Nat → Int
  | 0 => fun _ => 0
  | 1 => kpF (fun _ => 0) S F a o kc
  | n + 2 => kpF (spF w (wvF w o kc S F dd a (n + 1)) dd) S F (a + (n + 1)) o kc
theorem wv_one {w o kc : Int} {S : Nat → Nat → Bool} {F : Nat → Nat → Int} {dd a n : Nat} (h : n = 0) : wvF w o kc S F dd a (n + 1) = kpF (wvF w o kc S F dd a n) S F (a + n) o kc := by subst h; rfl
theorem wv_next {w o kc : Int} {S : Nat → Nat → Bool} {F : Nat → Nat → Int} {dd a n : Nat} (h : 1 ≤ n) : wvF w o kc S F dd a (n + 1) = kpF (spF w (wvF w o kc S F dd a n) dd) S F (a + n) o kc := by
  cases n with
  | zero => omega
  | succ n => rfl
theorem wvF_bd {w o kc : Int} (hw : w = 0 ∨ w = 1) (ho : -1000 ≤ o ∧ o ≤ 1000) {S : Nat → Nat → Bool} {F : Nat → Nat → Int} {dd a : Nat} : ∀ (n j : Nat), j < 4096 → -1000 ≤ wvF w o kc S F dd a n j ∧ wvF w o kc S F dd a n j ≤ 1000 + n
  | 0, _, _ => ⟨by show -1000 ≤ (0 : Int); omega, by show (0 : Int) ≤ _; omega⟩
  | 1, j, _ => by
    have := kpF_bd (f := fun _ => 0) (S := S) (F := F) (u := a) (o := o) (kc := kc) (j := j) (x := -1000) (y := 1000) ⟨by omega, by omega⟩ ho
    rw [wvF]
    omega
  | n + 2, j, hj => by
    have h1 := spF_bd (f := wvF w o kc S F dd a (n + 1)) (d := dd) hw (fun k hk => wvF_bd (kc := kc) hw ho (S := S) (F := F) (dd := dd) (a := a) (n + 1) k hk) hj
    have := kpF_bd (S := S) (F := F) (u := a + (n + 1)) (o := o) (kc := kc) h1 ⟨by omega, by omega⟩
    rw [wvF]
    omega
theorem MoOk_va {M : mM} {am : Nat → Nat} {nt ng : Int} {sp nn jj sa sx sy ra : Nat → Int} {gz : Nat → Bool} {va ac V : Nat → Int} (h : MoOk M am nt ng sp nn jj sa sx sy ra gz va ac) : MoOk (mset M (am 9) (aI 4096 V)) am nt ng sp nn jj sa sx sy ra gz V ac := by
  obtain ⟨m0, m1, m2, m3, m4, m5, m6, m7, m8, m9, m10, minj, b0⟩ := h
  have ne : ∀ i, i ≤ 10 → i ≠ 9 → am i ≠ am 9 := fun i h1 h2 => am_ne minj h1 (by decide) h2
  exact ⟨(mset_ne (ne 0 (by decide) (by decide))).trans m0, (mset_ne (ne 1 (by decide) (by decide))).trans m1, (mset_ne (ne 2 (by decide) (by decide))).trans m2, (mset_ne (ne 3 (by decide) (by decide))).trans m3, (mset_ne (ne 4 (by decide) (by decide))).trans m4, (mset_ne (ne 5 (by decide) (by decide))).trans m5, (mset_ne (ne 6 (by decide) (by decide))).trans m6, (mset_ne (ne 7 (by decide) (by decide))).trans m7, (mset_ne (ne 8 (by decide) (by decide))).trans m8, mset_self, (mset_ne (ne 10 (by decide) (by decide))).trans m10, minj, b0⟩
/-- the best of all, from o on -/
def btF (w : Int) (f : Nat → Int) (o : Int) : Nat → Int
  | 0 => o
  | n + 1 => bst w (btF w f o n) (f n)
theorem btF_rg {w o : Int} {f : Nat → Int} (ho : rg o) (h : ∀ k, k < 4096 → rg (f k)) : ∀ n, n ≤ 4096 → rg (btF w f o n)
  | 0, _ => ho
  | n + 1, hn => bst_rg (btF_rg ho h n (by omega)) (h n (by omega))
theorem btF_cong {w o : Int} {f g : Nat → Int} (h : ∀ k, k < 4096 → f k = g k) : ∀ n, n ≤ 4096 → btF w f o n = btF w g o n
  | 0, _ => rfl
  | n + 1, hn => by rw [btF, btF, btF_cong h n (by omega), h n (by omega)]

set_option maxHeartbeats 4000000 in
set_option maxRecDepth 100000 in
theorem c_X5_entered (l : Launch) (D : va_G) (b : Nat) (M : mM) (am : Nat → Nat) (nt ng : Int) (sp nn jj sa sx sy ra : Nat → Int) (gz : Nat → Bool) (va ac : Nat → Int) (hO : MoOk M am nt ng sp nn jj sa sx sy ra gz va ac) (hgd : mGd nt sp nn sa sx sy ra) (t v u w : Int) (hrt : rg t) (hrv : rg v) (hru : rg u) (hrw : rg w) : Met l yX5_entered wsX5_entered ({ frames := 3, cells := 0, slots := 0, locals := 67 } : Room) (mPc [.ref (am 0), .int (iI t), .int (iI v), .int (iI u), .int (iI w)] D b M) (mQi D b (fun r M1 => (¬ ((0 ≤ t ∧ t < nt) ∧ (0 ≤ v ∧ v < ng) ∧ (0 ≤ u ∧ u < 80) ∧ (0 ≤ w ∧ w < 80) ∧ u ≤ w) ∧ r = iI (-1) ∧ M1 = M) ∨ (((0 ≤ t ∧ t < nt) ∧ (0 ≤ v ∧ v < ng) ∧ (0 ≤ u ∧ u < 80) ∧ (0 ≤ w ∧ w < 80) ∧ u ≤ w) ∧ ∃ V A : Nat → Int, MoOk M1 am nt ng sp nn jj sa sx sy ra gz V A ∧ (∀ a, (∀ i, i ≤ 10 → a ≠ am i) → M1 a = M a) ∧ ((∃ d : Nat, u + d ≤ w ∧ (∀ j, j < 4096 → ¬ wvF 1 1000 0 (gS gz v.toNat) (mBF sp nn sa sx sy ra t.toNat) (sp t.toNat).toNat u.toNat (d + 1) j < 1000) ∧ (∀ d2 : Nat, d2 < d → ¬ (∀ j, j < 4096 → ¬ wvF 1 1000 0 (gS gz v.toNat) (mBF sp nn sa sx sy ra t.toNat) (sp t.toNat).toNat u.toNat (d2 + 1) j < 1000)) ∧ r = iI (u + d)) ∨ ((∀ d : Nat, u + d ≤ w → ¬ (∀ j, j < 4096 → ¬ wvF 1 1000 0 (gS gz v.toNat) (mBF sp nn sa sx sy ra t.toNat) (sp t.toNat).toNat u.toNat (d + 1) j < 1000)) ∧ r = iI (-1)))))) 0 0 (mF b) := by
  refine m_met (cc := cX5_entered) (maxL := 8) (ret := (some .int)) (by decide) rfl (Nat.le_of_ble_eq_true rfl) ?_
  intro p e s m args below meth c Q ls hx hb hml hr hts hown hlk hnm hQ K hG hS hl
  have hown : s.vm.findClass RX5 = some m.cls := hown
  have hl : lv_has ls 8 [(0, .ref (am 0)), (1, .int (iI t)), (2, .int (iI v)), (3, .int (iI u)), (4, .int (iI w))] := hl
  obtain ⟨m0, m1, m2, m3, m4, m5, m6, m7, m8, m9, m10, minj, ⟨b1, b2, b3, b4⟩⟩ := id hO
  refine lv_aload_n hx hb dX5_entered_0 rfl (lv_at hl 0 rfl) ?_
  refine lv_iload_n hx hb dX5_entered_1 rfl (lv_at hl 1 rfl) ?_
  refine lv_iload_n hx hb dX5_entered_2 rfl (lv_at hl 2 rfl) ?_
  refine lv_iload_n hx hb dX5_entered_3 rfl (lv_at hl 3 rfl) ?_
  refine lv_iload hx hb dX5_entered_4 (lv_at hl 4 rfl) ?_
  refine m_callfi (m_runV (a := am 0) (As := [.int (iI t), .int (iI v), .int (iI u), .int (iI w)]) (rest := []) ⟨hx, hb, hml, hown, hts⟩ (c_X5_canAsk l D b _ am nt ng sp nn jj sa sx sy ra gz va ac hO t v u w hrt hrv hru hrw) (cwV 4 hts gX5_entered_X5_canAsk rfl rfl rfl (by decide +kernel) ⟨Nat.le_of_ble_eq_true rfl, Nat.le_of_ble_eq_true rfl⟩) K hG m0 rfl rfl rfl hl.1 rfl (Nat.le_of_ble_eq_true rfl) dX5_entered_6 ⟨Nat.le_of_ble_eq_true rfl, Nat.le_of_ble_eq_true rfl⟩) hS (fun H locs hG hS => ?_)
  have hG : mG D b M s H := hG
  refine m_ifb_ne (tgt := 14) hx hb dX5_entered_9 (by decide) (fun c9 => ?_) (fun c9 => ?_)
  · refine lv_iconst (v := iI 0) hx hb dX5_entered_14 rfl ?_
    refine lv_istore (lv' := [(5, .int (iI 0)), (0, .ref (am 0)), (1, .int (iI t)), (2, .int (iI v)), (3, .int (iI u)), (4, .int (iI w))]) hx hb dX5_entered_15 hl (by decide) rfl (fun ls hl => ?_)
    have loop17 : ∀ (fuel : Nat) (i : Int) (Z : Nat → Int) (H : Heap) (locs : List Loc) (ls : Array Slot), (0 ≤ i) → (i ≤ 4096) → (∀ j : Nat, (j : Int) < i → Z j = 0) → (4096 - i).toNat < fuel → mG D b (mset M (am 9) (aI 4096 Z)) s H → va_S (mF b) s.heap H locs → lv_has ls 8 [(5, .int (iI i)), (0, .ref (am 0)), (1, .int (iI t)), (2, .int (iI v)), (3, .int (iI u)), (4, .int (iI w))] → W p l e ({ frames := 3, cells := 0, slots := 0, locals := 67 } : Room) s m args below meth c H locs 0 0 Q (F0 m 17 ls []) := by
      intro fuel
      induction fuel with
      | zero => intro i Z H locs ls hi0 hi1 hZ hm; exact absurd hm (Nat.not_lt_zero _)
      | succ fuel ih17 =>
        intro i Z H locs ls hi0 hi1 hZ hm hG hS hl
        refine lv_iload hx hb dX5_entered_17 (lv_at hl 0 rfl) ?_
        refine lv_sipush (v := iI 4096) hx hb dX5_entered_19 (by decide) ?_
        refine m_icmp_ge (tgt := 39) hx hb dX5_entered_22 (by decide) ⟨by omega, by omega⟩ ⟨by omega, by omega⟩ (fun c22 => ?_) (fun c22 => ?_)
        · obtain ⟨M2, hM2⟩ : ∃ M2, M2 = mset M (am 9) (aI 4096 Z) := ⟨_, rfl⟩
          have hO2 : MoOk M2 am nt ng sp nn jj sa sx sy ra gz Z ac := by rw [hM2]; exact MoOk_va hO
          have hF2 : ∀ a, a ≠ am 9 → a ≠ am 10 → M2 a = M a := fun a q1 _ => by rw [hM2]; exact mset_ne q1
          have hG : mG D b M2 s H := by rw [hM2]; exact hG
          obtain ⟨y0, y1, y2, y3, y4, y5, y6, y7, y8, y9, y10, -, -⟩ := id hO2
          refine lv_iload_n hx hb dX5_entered_39 rfl (lv_at hl 4 rfl) ?_
          refine lv_istore (lv' := [(5, .int (iI u)), (0, .ref (am 0)), (1, .int (iI t)), (2, .int (iI v)), (3, .int (iI u)), (4, .int (iI w))]) hx hb dX5_entered_40 hl (by decide) rfl (fun ls hl => ?_)
          have loop42 : ∀ (fuel : Nat) (i : Int) (M1 : mM) (va1 : Nat → Int) (ac1 : Nat → Int) (H : Heap) (locs : List Loc) (ls : Array Slot), (u ≤ i) → (i ≤ w + 1) → (MoOk M1 am nt ng sp nn jj sa sx sy ra gz va1 ac1) → (∀ a, a ≠ am 9 → a ≠ am 10 → M1 a = M a) → (∀ j, j < 4096 → va1 j = wvF 1 1000 0 (gS gz v.toNat) (mBF sp nn sa sx sy ra t.toNat) (sp t.toNat).toNat u.toNat (i - u).toNat j) → (∀ d : Nat, (d : Int) < i - u → ¬ (∀ j, j < 4096 → ¬ wvF 1 1000 0 (gS gz v.toNat) (mBF sp nn sa sx sy ra t.toNat) (sp t.toNat).toNat u.toNat (d + 1) j < 1000)) → (w + 1 - i).toNat < fuel → mG D b M1 s H → va_S (mF b) s.heap H locs → lv_has ls 8 [(5, .int (iI i)), (0, .ref (am 0)), (1, .int (iI t)), (2, .int (iI v)), (3, .int (iI u)), (4, .int (iI w))] → W p l e ({ frames := 3, cells := 0, slots := 0, locals := 67 } : Room) s m args below meth c H locs 0 0 Q (F0 m 42 ls []) := by
            intro fuel
            induction fuel with
            | zero => intro i M1 va1 ac1 H locs ls hi0 hi1 hO1 hF1 hv1 hE hm; exact absurd hm (Nat.not_lt_zero _)
            | succ fuel ih42 =>
              intro i M1 va1 ac1 H locs ls hi0 hi1 hO1 hF1 hv1 hE hm hG hS hl
              have hr1 : ∀ j, j < 4096 → rg (va1 j) := fun j h9 => by rw [hv1 j h9]; have h8 := wvF_bd (w := 1) (o := 1000) (kc := 0) (Or.inr rfl) ⟨by omega, by omega⟩ (S := gS gz v.toNat) (F := mBF sp nn sa sx sy ra t.toNat) (dd := (sp t.toNat).toNat) (a := u.toNat) (i - u).toNat j h9; exact ⟨by omega, by omega⟩
              obtain ⟨z0, z1, z2, z3, z4, z5, z6, z7, z8, z9, z10, -, -⟩ := id hO1
              refine lv_iload hx hb dX5_entered_42 (lv_at hl 0 rfl) ?_
              refine lv_iload hx hb dX5_entered_44 (lv_at hl 5 rfl) ?_
              refine m_icmp_gt (tgt := 137) hx hb dX5_entered_46 (by decide) ⟨by omega, by omega⟩ hrw (fun c46 => ?_) (fun c46 => ?_)
              · refine lv_iconst (v := iI (-1)) hx hb dX5_entered_137 rfl ?_
                exact m_iret hx hb hr hlk hQ hG hS (Nat.le_of_ble_eq_true rfl) (Nat.le_of_ble_eq_true rfl) dX5_entered_138 (Or.inr ⟨by omega, va1, ac1, hO1, (fun a h9 => hF1 a (h9 9 (by decide)) (h9 10 (by decide))), Or.inr ⟨(fun d h9 => hE d (by omega)), rfl⟩⟩)
              · refine lv_iload hx hb dX5_entered_49 (lv_at hl 0 rfl) ?_
                refine lv_iload_n hx hb dX5_entered_51 rfl (lv_at hl 4 rfl) ?_
                refine m_icmp_le (tgt := 66) hx hb dX5_entered_52 (by decide) ⟨by omega, by omega⟩ hru (fun c52 => ?_) (fun c52 => ?_)
                · refine lv_aload_n hx hb dX5_entered_66 rfl (lv_at hl 1 rfl) ?_
                  refine lv_iload_n hx hb dX5_entered_67 rfl (lv_at hl 2 rfl) ?_
                  refine lv_iload_n hx hb dX5_entered_68 rfl (lv_at hl 3 rfl) ?_
                  refine lv_iload hx hb dX5_entered_69 (lv_at hl 0 rfl) ?_
                  refine lv_sipush (v := iI 1000) hx hb dX5_entered_71 (by decide) ?_
                  refine lv_iconst (v := iI 0) hx hb dX5_entered_74 rfl ?_
                  refine m_callfv (m_runV (a := am 0) (As := [.int (iI t), .int (iI v), .int (iI i), .int (iI 1000), .int (iI 0)]) (rest := []) ⟨hx, hb, hml, hown, hts⟩ (c_X5_keeps l D b _ am nt ng sp nn jj sa sx sy ra gz va1 ac1 hO1 hgd t v i 1000 0 (by omega) (by omega) (by omega) (by omega) (by omega) (by omega) (Or.inl rfl)) (cwV 5 hts gX5_entered_X5_keeps rfl rfl rfl (by decide +kernel) ⟨Nat.le_of_ble_eq_true rfl, Nat.le_of_ble_eq_true rfl⟩) K hG z0 rfl rfl rfl hl.1 rfl (Nat.le_of_ble_eq_true rfl) dX5_entered_75 ⟨Nat.le_of_ble_eq_true rfl, Nat.le_of_ble_eq_true rfl⟩) hS (fun H locs hG hS => ?_)
                  have hG : mG D b (mset M1 (am 9) (aI 4096 (fun (k : Nat) => if (k : Int) < 4096 then kpF va1 (gS gz v.toNat) (mBF sp nn sa sx sy ra t.toNat) i.toNat 1000 0 k else va1 k))) s H := hG
                  obtain ⟨va3, hva3⟩ : ∃ f : Nat → Int, f = (fun (k : Nat) => if (k : Int) < 4096 then kpF va1 (gS gz v.toNat) (mBF sp nn sa sx sy ra t.toNat) i.toNat 1000 0 k else va1 k) := ⟨_, rfl⟩
                  rw [← hva3] at hG
                  obtain ⟨M3, hM3⟩ : ∃ M3, M3 = mset M1 (am 9) (aI 4096 va3) := ⟨_, rfl⟩
                  have hO3 : MoOk M3 am nt ng sp nn jj sa sx sy ra gz va3 ac1 := by rw [hM3]; exact MoOk_va hO1
                  have hF3 : ∀ a, a ≠ am 9 → a ≠ am 10 → M3 a = M a := fun a q1 q2 => by rw [hM3]; exact (mset_ne q1).trans (hF1 a q1 q2)
                  have hG : mG D b M3 s H := by rw [hM3]; exact hG
                  have hv3 : ∀ j, j < 4096 → va3 j = wvF 1 1000 0 (gS gz v.toNat) (mBF sp nn sa sx sy ra t.toNat) (sp t.toNat).toNat u.toNat ((i - u).toNat + 1) j := fun j h9 => by rw [hva3]; show (if (j : Int) < 4096 then _ else _) = _; rw [if_pos (by omega)]; rw [wv_one (by omega), show u.toNat + (i - u).toNat = i.toNat by omega]; exact kpF_at (hv1 j h9)
                  have hr3 : ∀ j, j < 4096 → rg (va3 j) := fun j h9 => by rw [hv3 j h9]; have h8 := wvF_bd (w := 1) (o := 1000) (kc := 0) (Or.inr rfl) ⟨by omega, by omega⟩ (S := gS gz v.toNat) (F := mBF sp nn sa sx sy ra t.toNat) (dd := (sp t.toNat).toNat) (a := u.toNat) ((i - u).toNat + 1) j h9; exact ⟨by omega, by omega⟩
                  obtain ⟨x0, x1, x2, x3, x4, x5, x6, x7, x8, x9, x10, -, -⟩ := id hO3
                  refine lv_iconst (v := iI 0) hx hb dX5_entered_78 rfl ?_
                  refine lv_istore (lv' := [(6, .int (iI 0)), (5, .int (iI i)), (0, .ref (am 0)), (1, .int (iI t)), (2, .int (iI v)), (3, .int (iI u)), (4, .int (iI w))]) hx hb dX5_entered_79 hl (by decide) rfl (fun ls hl => ?_)
                  refine lv_iconst (v := iI 0) hx hb dX5_entered_81 rfl ?_
                  refine lv_istore (lv' := [(7, .int (iI 0)), (6, .int (iI 0)), (5, .int (iI i)), (0, .ref (am 0)), (1, .int (iI t)), (2, .int (iI v)), (3, .int (iI u)), (4, .int (iI w))]) hx hb dX5_entered_82 hl (by decide) rfl (fun ls hl => ?_)
                  have loop84 : ∀ (fuel : Nat) (kk : Int) (z : Int) (H : Heap) (locs : List Loc) (ls : Array Slot), (0 ≤ kk) → (kk ≤ 4096) → (isE z (∃ j : Nat, (j : Int) < kk ∧ va3 j < 1000)) → (4096 - kk).toNat < fuel → mG D b M3 s H → va_S (mF b) s.heap H locs → lv_has ls 8 [(7, .int (iI kk)), (6, .int (iI z)), (5, .int (iI i)), (0, .ref (am 0)), (1, .int (iI t)), (2, .int (iI v)), (3, .int (iI u)), (4, .int (iI w))] → W p l e ({ frames := 3, cells := 0, slots := 0, locals := 67 } : Room) s m args below meth c H locs 0 0 Q (F0 m 84 ls []) := by
                    intro fuel
                    induction fuel with
                    | zero => intro kk z H locs ls hk0 hk1 hz hm; exact absurd hm (Nat.not_lt_zero _)
                    | succ fuel ih84 =>
                      intro kk z H locs ls hk0 hk1 hz hm hG hS hl
                      refine lv_iload hx hb dX5_entered_84 (lv_at hl 0 rfl) ?_
                      refine lv_sipush (v := iI 4096) hx hb dX5_entered_86 (by decide) ?_
                      refine m_icmp_ge (tgt := 123) hx hb dX5_entered_89 (by decide) ⟨by omega, by omega⟩ ⟨by omega, by omega⟩ (fun c89 => ?_) (fun c89 => ?_)
                      · refine lv_iload hx hb dX5_entered_123 (lv_at hl 1 rfl) ?_
                        refine m_if_ne (tgt := 131) hx hb dX5_entered_125 (by decide) ⟨by omega, by omega⟩ (fun c125 => ?_) (fun c125 => ?_)
                        · refine m_iinc (lv' := [(5, .int (iI (i + 1))), (7, .int (iI kk)), (6, .int (iI z)), (0, .ref (am 0)), (1, .int (iI t)), (2, .int (iI v)), (3, .int (iI u)), (4, .int (iI w))]) (k := 2) hx hb dX5_entered_131 hl rfl (by decide) rfl (fun ls hl => ?_)
                          refine lv_goto (tgt := 42) hx hb dX5_entered_134 (by decide) ?_
                          exact ih42 (i + 1) M3 va3 ac1 _ _ _ (by omega) (by omega) hO3 hF3 (fun j h9 => by rw [show (i + 1 - u).toNat = (i - u).toNat + 1 by omega]; exact hv3 j h9) (fun d h9 hn => by rcases Int.lt_or_le (d : Int) (i - u) with q | q; exact hE d q hn; rw [show d = (i - u).toNat by omega] at hn; have hz1 : z = 1 := hz.1.resolve_left c125; obtain ⟨j, q1, q2⟩ := hz.2.mp hz1; rw [hv3 j (ltk q1 hk1)] at q2; exact hn j (ltk q1 hk1) q2) (by clear hz; omega) hG hS (lv_sub hl [0, 3, 4, 5, 6, 7] rfl)
                        · refine lv_iload hx hb dX5_entered_128 (lv_at hl 2 rfl) ?_
                          exact m_iret hx hb hr hlk hQ hG hS (Nat.le_of_ble_eq_true rfl) (Nat.le_of_ble_eq_true rfl) dX5_entered_130 (Or.inr ⟨by omega, va3, _, hO3, (fun a h9 => hF3 a (h9 9 (by decide)) (h9 10 (by decide))), Or.inl ⟨(i - u).toNat, by omega, (fun j h9 q => by rw [← hv3 j h9] at q; have h7 := hz.2.mpr ⟨j, by omega, q⟩; omega), (fun d2 h9 => hE d2 (by omega)), congrArg iI (by omega)⟩⟩)
                      · refine lv_iload hx hb dX5_entered_92 (lv_at hl 1 rfl) ?_
                        refine m_if_ne (tgt := 110) hx hb dX5_entered_94 (by decide) ⟨by omega, by omega⟩ (fun c94 => ?_) (fun c94 => ?_)
                        · refine lv_iconst (v := iI 1) hx hb dX5_entered_110 rfl ?_
                          refine lv_goto (tgt := 115) hx hb dX5_entered_111 (by decide) ?_
                          refine lv_istore (lv' := [(6, .int (iI 1)), (7, .int (iI kk)), (5, .int (iI i)), (0, .ref (am 0)), (1, .int (iI t)), (2, .int (iI v)), (3, .int (iI u)), (4, .int (iI w))]) hx hb dX5_entered_115 hl (by decide) rfl (fun ls hl => ?_)
                          refine m_iinc (lv' := [(7, .int (iI (kk + 1))), (6, .int (iI 1)), (5, .int (iI i)), (0, .ref (am 0)), (1, .int (iI t)), (2, .int (iI v)), (3, .int (iI u)), (4, .int (iI w))]) (k := 1) hx hb dX5_entered_117 hl rfl (by decide) rfl (fun ls hl => ?_)
                          refine lv_goto (tgt := 84) hx hb dX5_entered_120 (by decide) ?_
                          exact ih84 (kk + 1) 1 _ _ _ (by omega) (by omega) ⟨Or.inr rfl, ⟨fun _ => (by obtain ⟨j, q1, q2⟩ := hz.2.mp (by omega); exact ⟨j, by omega, q2⟩), fun _ => rfl⟩⟩ (by omega) hG hS (lv_sub hl [0, 1, 2, 3, 4, 5, 6, 7] rfl)
                        · refine lv_aload_n hx hb dX5_entered_97 rfl (lv_at hl 3 rfl) ?_
                          refine m_get (ci := 5) (v := .ref (am 9)) (C := RX5) (T := TX5) (N := 12) hx hb hts (by decide +kernel) hown K hG x0 rfl 10 (by decide) (by decide +kernel) rfl dX5_entered_98 ?_
                          refine lv_iload hx hb dX5_entered_101 (lv_at hl 0 rfl) ?_
                          refine m_iald hx hb hG x9 kk.toNat (by omega) (by omega) (by decide) dX5_entered_103 ?_
                          refine lv_sipush (v := iI 1000) hx hb dX5_entered_104 (by decide) ?_
                          refine m_icmp_ge (tgt := 114) hx hb dX5_entered_107 (by decide) (hr3 _ (by omega)) ⟨by omega, by omega⟩ (fun c107 => ?_) (fun c107 => ?_)
                          · refine lv_iconst (v := iI 0) hx hb dX5_entered_114 rfl ?_
                            refine lv_istore (lv' := [(6, .int (iI 0)), (7, .int (iI kk)), (5, .int (iI i)), (0, .ref (am 0)), (1, .int (iI t)), (2, .int (iI v)), (3, .int (iI u)), (4, .int (iI w))]) hx hb dX5_entered_115 hl (by decide) rfl (fun ls hl => ?_)
                            refine m_iinc (lv' := [(7, .int (iI (kk + 1))), (6, .int (iI 0)), (5, .int (iI i)), (0, .ref (am 0)), (1, .int (iI t)), (2, .int (iI v)), (3, .int (iI u)), (4, .int (iI w))]) (k := 1) hx hb dX5_entered_117 hl rfl (by decide) rfl (fun ls hl => ?_)
                            refine lv_goto (tgt := 84) hx hb dX5_entered_120 (by decide) ?_
                            exact ih84 (kk + 1) 0 _ _ _ (by omega) (by omega) ⟨Or.inl rfl, ⟨fun h9 => absurd h9 (by decide), fun ⟨j, q1, q2⟩ => by rcases Int.lt_or_le (j : Int) kk with q | q; have h7 := hz.2.mpr ⟨j, q, q2⟩; omega; rw [show j = kk.toNat by omega] at q2; omega⟩⟩ (by omega) hG hS (lv_sub hl [0, 1, 2, 3, 4, 5, 6, 7] rfl)
                          · refine lv_iconst (v := iI 1) hx hb dX5_entered_110 rfl ?_
                            refine lv_goto (tgt := 115) hx hb dX5_entered_111 (by decide) ?_
                            refine lv_istore (lv' := [(6, .int (iI 1)), (7, .int (iI kk)), (5, .int (iI i)), (0, .ref (am 0)), (1, .int (iI t)), (2, .int (iI v)), (3, .int (iI u)), (4, .int (iI w))]) hx hb dX5_entered_115 hl (by decide) rfl (fun ls hl => ?_)
                            refine m_iinc (lv' := [(7, .int (iI (kk + 1))), (6, .int (iI 1)), (5, .int (iI i)), (0, .ref (am 0)), (1, .int (iI t)), (2, .int (iI v)), (3, .int (iI u)), (4, .int (iI w))]) (k := 1) hx hb dX5_entered_117 hl rfl (by decide) rfl (fun ls hl => ?_)
                            refine lv_goto (tgt := 84) hx hb dX5_entered_120 (by decide) ?_
                            exact ih84 (kk + 1) 1 _ _ _ (by omega) (by omega) ⟨Or.inr rfl, ⟨fun _ => ⟨kk.toNat, by omega, by omega⟩, fun _ => rfl⟩⟩ (by omega) hG hS (lv_sub hl [0, 1, 2, 3, 4, 5, 6, 7] rfl)
                  exact loop84 _ 0 0 _ _ _ (by omega) (by omega) ⟨Or.inl rfl, ⟨fun h9 => absurd h9 (by decide), fun ⟨j, q1, q2⟩ => absurd q1 (by omega)⟩⟩ (Nat.lt_succ_self _) hG hS (lv_sub hl [0, 1, 2, 3, 4, 5, 6, 7] rfl)
                · refine lv_aload_n hx hb dX5_entered_55 rfl (lv_at hl 1 rfl) ?_
                  refine lv_aload_n hx hb dX5_entered_56 rfl (lv_at hl 1 rfl) ?_
                  refine m_get (ci := 5) (v := .ref (am 1)) (C := RX5) (T := TX5) (N := 12) hx hb hts (by decide +kernel) hown K hG z0 rfl 1 (by decide) (by decide +kernel) rfl dX5_entered_57 ?_
                  refine lv_iload_n hx hb dX5_entered_60 rfl (lv_at hl 2 rfl) ?_
                  refine m_iald hx hb hG z1 t.toNat (by omega) (by omega) (by decide) dX5_entered_61 ?_
                  refine lv_iconst (v := iI 1) hx hb dX5_entered_62 rfl ?_
                  refine m_callv (m_runV (a := am 0) (As := [.int (iI (sp t.toNat)), .int (iI 1)]) (rest := []) ⟨hx, hb, hml, hown, hts⟩ (c_X5_spreads l D b _ am nt ng sp nn jj sa sx sy ra gz va1 ac1 hO1 (sp t.toNat) 1 (hgd t.toNat (by omega)).2.1.1 (hgd t.toNat (by omega)).2.1.2 (Or.inr rfl) hr1) (cwV 2 hts gX5_entered_X5_spreads rfl rfl rfl (by decide +kernel) ⟨Nat.le_of_ble_eq_true rfl, Nat.le_of_ble_eq_true rfl⟩) K hG z0 rfl rfl rfl hl.1 rfl (Nat.le_of_ble_eq_true rfl) dX5_entered_63 ⟨Nat.le_of_ble_eq_true rfl, Nat.le_of_ble_eq_true rfl⟩) hS (fun M2 H locs hw3 hG hS => ?_)
                  obtain ⟨V2, A2, hO2, hF2, hV2⟩ := hw3
                  have hF2 : ∀ a, a ≠ am 9 → a ≠ am 10 → M2 a = M a := fun a q1 q2 => (hF2 a q1 q2).trans (hF1 a q1 q2)
                  have hp : ∀ j, j < 4096 → V2 j = spF 1 (wvF 1 1000 0 (gS gz v.toNat) (mBF sp nn sa sx sy ra t.toNat) (sp t.toNat).toNat u.toNat (i - u).toNat) (sp t.toNat).toNat j := fun j h9 => (hV2 j h9).trans (spF_cong hv1 h9 _)
                  obtain ⟨y0, y1, y2, y3, y4, y5, y6, y7, y8, y9, y10, -, -⟩ := id hO2
                  refine lv_aload_n hx hb dX5_entered_66 rfl (lv_at hl 1 rfl) ?_
                  refine lv_iload_n hx hb dX5_entered_67 rfl (lv_at hl 2 rfl) ?_
                  refine lv_iload_n hx hb dX5_entered_68 rfl (lv_at hl 3 rfl) ?_
                  refine lv_iload hx hb dX5_entered_69 (lv_at hl 0 rfl) ?_
                  refine lv_sipush (v := iI 1000) hx hb dX5_entered_71 (by decide) ?_
                  refine lv_iconst (v := iI 0) hx hb dX5_entered_74 rfl ?_
                  refine m_callfv (m_runV (a := am 0) (As := [.int (iI t), .int (iI v), .int (iI i), .int (iI 1000), .int (iI 0)]) (rest := []) ⟨hx, hb, hml, hown, hts⟩ (c_X5_keeps l D b _ am nt ng sp nn jj sa sx sy ra gz V2 A2 hO2 hgd t v i 1000 0 (by omega) (by omega) (by omega) (by omega) (by omega) (by omega) (Or.inl rfl)) (cwV 5 hts gX5_entered_X5_keeps rfl rfl rfl (by decide +kernel) ⟨Nat.le_of_ble_eq_true rfl, Nat.le_of_ble_eq_true rfl⟩) K hG y0 rfl rfl rfl hl.1 rfl (Nat.le_of_ble_eq_true rfl) dX5_entered_75 ⟨Nat.le_of_ble_eq_true rfl, Nat.le_of_ble_eq_true rfl⟩) hS (fun H locs hG hS => ?_)
                  have hG : mG D b (mset M2 (am 9) (aI 4096 (fun (k : Nat) => if (k : Int) < 4096 then kpF V2 (gS gz v.toNat) (mBF sp nn sa sx sy ra t.toNat) i.toNat 1000 0 k else V2 k))) s H := hG
                  obtain ⟨va3, hva3⟩ : ∃ f : Nat → Int, f = (fun (k : Nat) => if (k : Int) < 4096 then kpF V2 (gS gz v.toNat) (mBF sp nn sa sx sy ra t.toNat) i.toNat 1000 0 k else V2 k) := ⟨_, rfl⟩
                  rw [← hva3] at hG
                  obtain ⟨M3, hM3⟩ : ∃ M3, M3 = mset M2 (am 9) (aI 4096 va3) := ⟨_, rfl⟩
                  have hO3 : MoOk M3 am nt ng sp nn jj sa sx sy ra gz va3 A2 := by rw [hM3]; exact MoOk_va hO2
                  have hF3 : ∀ a, a ≠ am 9 → a ≠ am 10 → M3 a = M a := fun a q1 q2 => by rw [hM3]; exact (mset_ne q1).trans (hF2 a q1 q2)
                  have hG : mG D b M3 s H := by rw [hM3]; exact hG
                  have hv3 : ∀ j, j < 4096 → va3 j = wvF 1 1000 0 (gS gz v.toNat) (mBF sp nn sa sx sy ra t.toNat) (sp t.toNat).toNat u.toNat ((i - u).toNat + 1) j := fun j h9 => by rw [hva3]; show (if (j : Int) < 4096 then _ else _) = _; rw [if_pos (by omega)]; rw [wv_next (by omega), show u.toNat + (i - u).toNat = i.toNat by omega]; exact kpF_at (hp j h9)
                  have hr3 : ∀ j, j < 4096 → rg (va3 j) := fun j h9 => by rw [hv3 j h9]; have h8 := wvF_bd (w := 1) (o := 1000) (kc := 0) (Or.inr rfl) ⟨by omega, by omega⟩ (S := gS gz v.toNat) (F := mBF sp nn sa sx sy ra t.toNat) (dd := (sp t.toNat).toNat) (a := u.toNat) ((i - u).toNat + 1) j h9; exact ⟨by omega, by omega⟩
                  obtain ⟨x0, x1, x2, x3, x4, x5, x6, x7, x8, x9, x10, -, -⟩ := id hO3
                  refine lv_iconst (v := iI 0) hx hb dX5_entered_78 rfl ?_
                  refine lv_istore (lv' := [(6, .int (iI 0)), (5, .int (iI i)), (0, .ref (am 0)), (1, .int (iI t)), (2, .int (iI v)), (3, .int (iI u)), (4, .int (iI w))]) hx hb dX5_entered_79 hl (by decide) rfl (fun ls hl => ?_)
                  refine lv_iconst (v := iI 0) hx hb dX5_entered_81 rfl ?_
                  refine lv_istore (lv' := [(7, .int (iI 0)), (6, .int (iI 0)), (5, .int (iI i)), (0, .ref (am 0)), (1, .int (iI t)), (2, .int (iI v)), (3, .int (iI u)), (4, .int (iI w))]) hx hb dX5_entered_82 hl (by decide) rfl (fun ls hl => ?_)
                  have loop84 : ∀ (fuel : Nat) (kk : Int) (z : Int) (H : Heap) (locs : List Loc) (ls : Array Slot), (0 ≤ kk) → (kk ≤ 4096) → (isE z (∃ j : Nat, (j : Int) < kk ∧ va3 j < 1000)) → (4096 - kk).toNat < fuel → mG D b M3 s H → va_S (mF b) s.heap H locs → lv_has ls 8 [(7, .int (iI kk)), (6, .int (iI z)), (5, .int (iI i)), (0, .ref (am 0)), (1, .int (iI t)), (2, .int (iI v)), (3, .int (iI u)), (4, .int (iI w))] → W p l e ({ frames := 3, cells := 0, slots := 0, locals := 67 } : Room) s m args below meth c H locs 0 0 Q (F0 m 84 ls []) := by
                    intro fuel
                    induction fuel with
                    | zero => intro kk z H locs ls hk0 hk1 hz hm; exact absurd hm (Nat.not_lt_zero _)
                    | succ fuel ih84 =>
                      intro kk z H locs ls hk0 hk1 hz hm hG hS hl
                      refine lv_iload hx hb dX5_entered_84 (lv_at hl 0 rfl) ?_
                      refine lv_sipush (v := iI 4096) hx hb dX5_entered_86 (by decide) ?_
                      refine m_icmp_ge (tgt := 123) hx hb dX5_entered_89 (by decide) ⟨by omega, by omega⟩ ⟨by omega, by omega⟩ (fun c89 => ?_) (fun c89 => ?_)
                      · refine lv_iload hx hb dX5_entered_123 (lv_at hl 1 rfl) ?_
                        refine m_if_ne (tgt := 131) hx hb dX5_entered_125 (by decide) ⟨by omega, by omega⟩ (fun c125 => ?_) (fun c125 => ?_)
                        · refine m_iinc (lv' := [(5, .int (iI (i + 1))), (7, .int (iI kk)), (6, .int (iI z)), (0, .ref (am 0)), (1, .int (iI t)), (2, .int (iI v)), (3, .int (iI u)), (4, .int (iI w))]) (k := 2) hx hb dX5_entered_131 hl rfl (by decide) rfl (fun ls hl => ?_)
                          refine lv_goto (tgt := 42) hx hb dX5_entered_134 (by decide) ?_
                          exact ih42 (i + 1) M3 va3 A2 _ _ _ (by omega) (by omega) hO3 hF3 (fun j h9 => by rw [show (i + 1 - u).toNat = (i - u).toNat + 1 by omega]; exact hv3 j h9) (fun d h9 hn => by rcases Int.lt_or_le (d : Int) (i - u) with q | q; exact hE d q hn; rw [show d = (i - u).toNat by omega] at hn; have hz1 : z = 1 := hz.1.resolve_left c125; obtain ⟨j, q1, q2⟩ := hz.2.mp hz1; rw [hv3 j (ltk q1 hk1)] at q2; exact hn j (ltk q1 hk1) q2) (by clear hz; omega) hG hS (lv_sub hl [0, 3, 4, 5, 6, 7] rfl)
                        · refine lv_iload hx hb dX5_entered_128 (lv_at hl 2 rfl) ?_
                          exact m_iret hx hb hr hlk hQ hG hS (Nat.le_of_ble_eq_true rfl) (Nat.le_of_ble_eq_true rfl) dX5_entered_130 (Or.inr ⟨by omega, va3, _, hO3, (fun a h9 => hF3 a (h9 9 (by decide)) (h9 10 (by decide))), Or.inl ⟨(i - u).toNat, by omega, (fun j h9 q => by rw [← hv3 j h9] at q; have h7 := hz.2.mpr ⟨j, by omega, q⟩; omega), (fun d2 h9 => hE d2 (by omega)), congrArg iI (by omega)⟩⟩)
                      · refine lv_iload hx hb dX5_entered_92 (lv_at hl 1 rfl) ?_
                        refine m_if_ne (tgt := 110) hx hb dX5_entered_94 (by decide) ⟨by omega, by omega⟩ (fun c94 => ?_) (fun c94 => ?_)
                        · refine lv_iconst (v := iI 1) hx hb dX5_entered_110 rfl ?_
                          refine lv_goto (tgt := 115) hx hb dX5_entered_111 (by decide) ?_
                          refine lv_istore (lv' := [(6, .int (iI 1)), (7, .int (iI kk)), (5, .int (iI i)), (0, .ref (am 0)), (1, .int (iI t)), (2, .int (iI v)), (3, .int (iI u)), (4, .int (iI w))]) hx hb dX5_entered_115 hl (by decide) rfl (fun ls hl => ?_)
                          refine m_iinc (lv' := [(7, .int (iI (kk + 1))), (6, .int (iI 1)), (5, .int (iI i)), (0, .ref (am 0)), (1, .int (iI t)), (2, .int (iI v)), (3, .int (iI u)), (4, .int (iI w))]) (k := 1) hx hb dX5_entered_117 hl rfl (by decide) rfl (fun ls hl => ?_)
                          refine lv_goto (tgt := 84) hx hb dX5_entered_120 (by decide) ?_
                          exact ih84 (kk + 1) 1 _ _ _ (by omega) (by omega) ⟨Or.inr rfl, ⟨fun _ => (by obtain ⟨j, q1, q2⟩ := hz.2.mp (by omega); exact ⟨j, by omega, q2⟩), fun _ => rfl⟩⟩ (by omega) hG hS (lv_sub hl [0, 1, 2, 3, 4, 5, 6, 7] rfl)
                        · refine lv_aload_n hx hb dX5_entered_97 rfl (lv_at hl 3 rfl) ?_
                          refine m_get (ci := 5) (v := .ref (am 9)) (C := RX5) (T := TX5) (N := 12) hx hb hts (by decide +kernel) hown K hG x0 rfl 10 (by decide) (by decide +kernel) rfl dX5_entered_98 ?_
                          refine lv_iload hx hb dX5_entered_101 (lv_at hl 0 rfl) ?_
                          refine m_iald hx hb hG x9 kk.toNat (by omega) (by omega) (by decide) dX5_entered_103 ?_
                          refine lv_sipush (v := iI 1000) hx hb dX5_entered_104 (by decide) ?_
                          refine m_icmp_ge (tgt := 114) hx hb dX5_entered_107 (by decide) (hr3 _ (by omega)) ⟨by omega, by omega⟩ (fun c107 => ?_) (fun c107 => ?_)
                          · refine lv_iconst (v := iI 0) hx hb dX5_entered_114 rfl ?_
                            refine lv_istore (lv' := [(6, .int (iI 0)), (7, .int (iI kk)), (5, .int (iI i)), (0, .ref (am 0)), (1, .int (iI t)), (2, .int (iI v)), (3, .int (iI u)), (4, .int (iI w))]) hx hb dX5_entered_115 hl (by decide) rfl (fun ls hl => ?_)
                            refine m_iinc (lv' := [(7, .int (iI (kk + 1))), (6, .int (iI 0)), (5, .int (iI i)), (0, .ref (am 0)), (1, .int (iI t)), (2, .int (iI v)), (3, .int (iI u)), (4, .int (iI w))]) (k := 1) hx hb dX5_entered_117 hl rfl (by decide) rfl (fun ls hl => ?_)
                            refine lv_goto (tgt := 84) hx hb dX5_entered_120 (by decide) ?_
                            exact ih84 (kk + 1) 0 _ _ _ (by omega) (by omega) ⟨Or.inl rfl, ⟨fun h9 => absurd h9 (by decide), fun ⟨j, q1, q2⟩ => by rcases Int.lt_or_le (j : Int) kk with q | q; have h7 := hz.2.mpr ⟨j, q, q2⟩; omega; rw [show j = kk.toNat by omega] at q2; omega⟩⟩ (by omega) hG hS (lv_sub hl [0, 1, 2, 3, 4, 5, 6, 7] rfl)
                          · refine lv_iconst (v := iI 1) hx hb dX5_entered_110 rfl ?_
                            refine lv_goto (tgt := 115) hx hb dX5_entered_111 (by decide) ?_
                            refine lv_istore (lv' := [(6, .int (iI 1)), (7, .int (iI kk)), (5, .int (iI i)), (0, .ref (am 0)), (1, .int (iI t)), (2, .int (iI v)), (3, .int (iI u)), (4, .int (iI w))]) hx hb dX5_entered_115 hl (by decide) rfl (fun ls hl => ?_)
                            refine m_iinc (lv' := [(7, .int (iI (kk + 1))), (6, .int (iI 1)), (5, .int (iI i)), (0, .ref (am 0)), (1, .int (iI t)), (2, .int (iI v)), (3, .int (iI u)), (4, .int (iI w))]) (k := 1) hx hb dX5_entered_117 hl rfl (by decide) rfl (fun ls hl => ?_)
                            refine lv_goto (tgt := 84) hx hb dX5_entered_120 (by decide) ?_
                            exact ih84 (kk + 1) 1 _ _ _ (by omega) (by omega) ⟨Or.inr rfl, ⟨fun _ => ⟨kk.toNat, by omega, by omega⟩, fun _ => rfl⟩⟩ (by omega) hG hS (lv_sub hl [0, 1, 2, 3, 4, 5, 6, 7] rfl)
                  exact loop84 _ 0 0 _ _ _ (by omega) (by omega) ⟨Or.inl rfl, ⟨fun h9 => absurd h9 (by decide), fun ⟨j, q1, q2⟩ => absurd q1 (by omega)⟩⟩ (Nat.lt_succ_self _) hG hS (lv_sub hl [0, 1, 2, 3, 4, 5, 6, 7] rfl)
          exact loop42 _ u M2 Z ac _ _ _ (by omega) (by omega) hO2 hF2 (fun j h9 => by rw [show (u - u).toNat = 0 by omega]; exact hZ j (by omega)) (fun d h9 => absurd h9 (by omega)) (Nat.lt_succ_self _) hG hS (lv_sub hl [0, 1, 2, 3, 4, 5] rfl)
        · refine lv_aload_n hx hb dX5_entered_25 rfl (lv_at hl 1 rfl) ?_
          refine m_get (ci := 5) (v := .ref (am 9)) (C := RX5) (T := TX5) (N := 12) hx hb hts (by decide +kernel) hown K hG ((mset_ne (am_ne minj (i := 0) (j := 9) (by decide) (by decide) (by decide))).trans m0) rfl 10 (by decide) (by decide +kernel) rfl dX5_entered_26 ?_
          refine lv_iload hx hb dX5_entered_29 (lv_at hl 0 rfl) ?_
          refine lv_iconst (v := iI 0) hx hb dX5_entered_31 rfl ?_
          refine m_iast hx hb hG hS mset_self i.toNat (by omega) (by omega) (by decide) dX5_entered_32 (fun H locs hG hS => ?_)
          rw [mset_mset] at hG
          have hG : mG D b (mset M (am 9) (aI 4096 (va_up Z i.toNat 0))) s H := hG
          refine m_iinc (lv' := [(5, .int (iI (i + 1))), (0, .ref (am 0)), (1, .int (iI t)), (2, .int (iI v)), (3, .int (iI u)), (4, .int (iI w))]) (k := 0) hx hb dX5_entered_33 hl rfl (by decide) rfl (fun ls hl => ?_)
          refine lv_goto (tgt := 17) hx hb dX5_entered_36 (by decide) ?_
          exact ih17 (i + 1) (va_up Z i.toNat 0) _ _ _ (by omega) (by omega) (fun j h9 => by by_cases e9 : j = i.toNat; rw [e9, va_up_self]; rw [va_up_ne _ _ e9]; exact hZ j (by omega)) (by omega) hG hS (lv_sub hl [0, 1, 2, 3, 4, 5] rfl)
    exact loop17 _ 0 va _ _ _ (by omega) (by omega) (fun j h9 => absurd h9 (by omega)) (Nat.lt_succ_self _) (by rw [mset_id m9]; exact hG) hS (lv_sub hl [0, 1, 2, 3, 4, 5] rfl)
  · refine lv_iconst (v := iI (-1)) hx hb dX5_entered_12 rfl ?_
    exact m_iret hx hb hr hlk hQ hG hS (Nat.le_of_ble_eq_true rfl) (Nat.le_of_ble_eq_true rfl) dX5_entered_13 (Or.inl ⟨by omega, rfl, rfl⟩)

set_option maxHeartbeats 4000000 in
set_option maxRecDepth 100000 in
theorem c_X5_stay (l : Launch) (D : va_G) (b : Nat) (M : mM) (am : Nat → Nat) (nt ng : Int) (sp nn jj sa sx sy ra : Nat → Int) (gz : Nat → Bool) (va ac : Nat → Int) (hO : MoOk M am nt ng sp nn jj sa sx sy ra gz va ac) (hgd : mGd nt sp nn sa sx sy ra) (t v u w x : Int) (hrt : rg t) (hrv : rg v) (hru : rg u) (hrw : rg w) (hrx : rg x) : Met l yX5_stay wsX5_stay ({ frames := 3, cells := 0, slots := 0, locals := 67 } : Room) (mPc [.ref (am 0), .int (iI t), .int (iI v), .int (iI u), .int (iI w), .int (iI x)] D b M) (mQi D b (fun r M1 => (¬ ((0 ≤ t ∧ t < nt) ∧ (0 ≤ v ∧ v < ng) ∧ (0 ≤ u ∧ u < 80) ∧ (0 ≤ w ∧ w < 80) ∧ u ≤ w ∧ (0 ≤ x ∧ x ≤ 1)) ∧ r = iI (-1) ∧ M1 = M) ∨ (((0 ≤ t ∧ t < nt) ∧ (0 ≤ v ∧ v < ng) ∧ (0 ≤ u ∧ u < 80) ∧ (0 ≤ w ∧ w < 80) ∧ u ≤ w ∧ (0 ≤ x ∧ x ≤ 1)) ∧ ∃ V A : Nat → Int, MoOk M1 am nt ng sp nn jj sa sx sy ra gz V A ∧ (∀ a, (∀ i, i ≤ 10 → a ≠ am i) → M1 a = M a) ∧ ((x = 0 ∧ r = iI (btF 1 (wvF 1 1000 1 (gS gz v.toNat) (mBF sp nn sa sx sy ra t.toNat) (sp t.toNat).toNat u.toNat ((w - u).toNat + 1)) 1000 4096)) ∨ (x = 1 ∧ r = iI (btF 0 (wvF 0 (-1000) 1 (gS gz v.toNat) (mBF sp nn sa sx sy ra t.toNat) (sp t.toNat).toNat u.toNat ((w - u).toNat + 1)) (-1000) 4096)))))) 0 0 (mF b) := by
  refine m_met (cc := cX5_stay) (maxL := 10) (ret := (some .int)) (by decide) rfl (Nat.le_of_ble_eq_true rfl) ?_
  intro p e s m args below meth c Q ls hx hb hml hr hts hown hlk hnm hQ K hG hS hl
  have hown : s.vm.findClass RX5 = some m.cls := hown
  have hl : lv_has ls 10 [(0, .ref (am 0)), (1, .int (iI t)), (2, .int (iI v)), (3, .int (iI u)), (4, .int (iI w)), (5, .int (iI x))] := hl
  obtain ⟨m0, m1, m2, m3, m4, m5, m6, m7, m8, m9, m10, minj, ⟨b1, b2, b3, b4⟩⟩ := id hO
  refine lv_aload_n hx hb dX5_stay_0 rfl (lv_at hl 0 rfl) ?_
  refine lv_iload_n hx hb dX5_stay_1 rfl (lv_at hl 1 rfl) ?_
  refine lv_iload_n hx hb dX5_stay_2 rfl (lv_at hl 2 rfl) ?_
  refine lv_iload_n hx hb dX5_stay_3 rfl (lv_at hl 3 rfl) ?_
  refine lv_iload hx hb dX5_stay_4 (lv_at hl 4 rfl) ?_
  refine m_callfi (m_runV (a := am 0) (As := [.int (iI t), .int (iI v), .int (iI u), .int (iI w)]) (rest := []) ⟨hx, hb, hml, hown, hts⟩ (c_X5_canAsk l D b _ am nt ng sp nn jj sa sx sy ra gz va ac hO t v u w hrt hrv hru hrw) (cwV 4 hts gX5_stay_X5_canAsk rfl rfl rfl (by decide +kernel) ⟨Nat.le_of_ble_eq_true rfl, Nat.le_of_ble_eq_true rfl⟩) K hG m0 rfl rfl rfl hl.1 rfl (Nat.le_of_ble_eq_true rfl) dX5_stay_6 ⟨Nat.le_of_ble_eq_true rfl, Nat.le_of_ble_eq_true rfl⟩) hS (fun H locs hG hS => ?_)
  have hG : mG D b M s H := hG
  refine m_ifb_eq (tgt := 22) hx hb dX5_stay_9 (by decide) (fun c9 => ?_) (fun c9 => ?_)
  · refine lv_iconst (v := iI (-1)) hx hb dX5_stay_22 rfl ?_
    exact m_iret hx hb hr hlk hQ hG hS (Nat.le_of_ble_eq_true rfl) (Nat.le_of_ble_eq_true rfl) dX5_stay_23 (Or.inl ⟨by omega, rfl, rfl⟩)
  · refine lv_iload hx hb dX5_stay_12 (lv_at hl 5 rfl) ?_
    refine lv_iconst (v := iI 0) hx hb dX5_stay_14 rfl ?_
    refine lv_iconst (v := iI 1) hx hb dX5_stay_15 rfl ?_
    refine m_callfi (m_runS (As := [.int (iI x), .int (iI 0), .int (iI 1)]) (rest := []) ⟨hx, hb, hml, hown, hts⟩ (c_X5_in l D b _ x 0 1 hrx ⟨by omega, by omega⟩ ⟨by omega, by omega⟩) (va_cwS 3 hts gX5_stay_X5_in rfl rfl rfl (by decide +kernel) ⟨Nat.le_of_ble_eq_true rfl, Nat.le_of_ble_eq_true rfl⟩) K hG rfl hl.1 rfl (Nat.le_of_ble_eq_true rfl) dX5_stay_16 ⟨Nat.le_of_ble_eq_true rfl, Nat.le_of_ble_eq_true rfl⟩) hS (fun H locs hG hS => ?_)
    have hG : mG D b M s H := hG
    refine m_ifb_ne (tgt := 24) hx hb dX5_stay_19 (by decide) (fun c19 => ?_) (fun c19 => ?_)
    · refine lv_iload hx hb dX5_stay_24 (lv_at hl 5 rfl) ?_
      refine m_if_ne (tgt := 33) hx hb dX5_stay_26 (by decide) hrx (fun c26 => ?_) (fun c26 => ?_)
      · refine lv_iconst (v := iI 0) hx hb dX5_stay_33 rfl ?_
        refine lv_istore (lv' := [(6, .int (iI 0)), (0, .ref (am 0)), (1, .int (iI t)), (2, .int (iI v)), (3, .int (iI u)), (4, .int (iI w)), (5, .int (iI x))]) hx hb dX5_stay_34 hl (by decide) rfl (fun ls hl => ?_)
        refine lv_iload hx hb dX5_stay_36 (lv_at hl 0 rfl) ?_
        refine m_if_eq (tgt := 47) hx hb dX5_stay_38 (by decide) ⟨by decide, by decide⟩ (fun c38 => ?_) (fun c38 => absurd c38 (by decide))
        refine lv_sipush (v := iI (-1000)) hx hb dX5_stay_47 (by decide) ?_
        refine lv_istore (lv' := [(7, .int (iI (-1000))), (6, .int (iI 0)), (0, .ref (am 0)), (1, .int (iI t)), (2, .int (iI v)), (3, .int (iI u)), (4, .int (iI w)), (5, .int (iI x))]) hx hb dX5_stay_50 hl (by decide) rfl (fun ls hl => ?_)
        refine lv_iconst (v := iI 0) hx hb dX5_stay_52 rfl ?_
        refine lv_istore (lv' := [(8, .int (iI 0)), (7, .int (iI (-1000))), (6, .int (iI 0)), (0, .ref (am 0)), (1, .int (iI t)), (2, .int (iI v)), (3, .int (iI u)), (4, .int (iI w)), (5, .int (iI x))]) hx hb dX5_stay_53 hl (by decide) rfl (fun ls hl => ?_)
        have loop55 : ∀ (fuel : Nat) (i : Int) (Z : Nat → Int) (H : Heap) (locs : List Loc) (ls : Array Slot), (0 ≤ i) → (i ≤ 4096) → (∀ j : Nat, (j : Int) < i → Z j = 0) → (4096 - i).toNat < fuel → mG D b (mset M (am 9) (aI 4096 Z)) s H → va_S (mF b) s.heap H locs → lv_has ls 10 [(8, .int (iI i)), (6, .int (iI 0)), (7, .int (iI (-1000))), (0, .ref (am 0)), (1, .int (iI t)), (2, .int (iI v)), (3, .int (iI u)), (4, .int (iI w)), (5, .int (iI x))] → W p l e ({ frames := 3, cells := 0, slots := 0, locals := 67 } : Room) s m args below meth c H locs 0 0 Q (F0 m 55 ls []) := by
          intro fuel
          induction fuel with
          | zero => intro i Z H locs ls hi0 hi1 hZ hm; exact absurd hm (Nat.not_lt_zero _)
          | succ fuel ih55 =>
            intro i Z H locs ls hi0 hi1 hZ hm hG hS hl
            refine lv_iload hx hb dX5_stay_55 (lv_at hl 0 rfl) ?_
            refine lv_sipush (v := iI 4096) hx hb dX5_stay_57 (by decide) ?_
            refine m_icmp_ge (tgt := 77) hx hb dX5_stay_60 (by decide) ⟨by omega, by omega⟩ ⟨by omega, by omega⟩ (fun c60 => ?_) (fun c60 => ?_)
            · obtain ⟨M2, hM2⟩ : ∃ M2, M2 = mset M (am 9) (aI 4096 Z) := ⟨_, rfl⟩
              have hO2 : MoOk M2 am nt ng sp nn jj sa sx sy ra gz Z ac := by rw [hM2]; exact MoOk_va hO
              have hF2 : ∀ a, a ≠ am 9 → a ≠ am 10 → M2 a = M a := fun a q1 _ => by rw [hM2]; exact mset_ne q1
              have hG : mG D b M2 s H := by rw [hM2]; exact hG
              obtain ⟨y0, y1, y2, y3, y4, y5, y6, y7, y8, y9, y10, -, -⟩ := id hO2
              refine lv_iload_n hx hb dX5_stay_77 rfl (lv_at hl 6 rfl) ?_
              refine lv_istore (lv' := [(8, .int (iI u)), (6, .int (iI 0)), (7, .int (iI (-1000))), (0, .ref (am 0)), (1, .int (iI t)), (2, .int (iI v)), (3, .int (iI u)), (4, .int (iI w)), (5, .int (iI x))]) hx hb dX5_stay_78 hl (by decide) rfl (fun ls hl => ?_)
              have loop80 : ∀ (fuel : Nat) (i : Int) (M1 : mM) (va1 : Nat → Int) (ac1 : Nat → Int) (H : Heap) (locs : List Loc) (ls : Array Slot), (u ≤ i) → (i ≤ w + 1) → (MoOk M1 am nt ng sp nn jj sa sx sy ra gz va1 ac1) → (∀ a, a ≠ am 9 → a ≠ am 10 → M1 a = M a) → (∀ j, j < 4096 → va1 j = wvF 0 (-1000) 1 (gS gz v.toNat) (mBF sp nn sa sx sy ra t.toNat) (sp t.toNat).toNat u.toNat (i - u).toNat j) → (w + 1 - i).toNat < fuel → mG D b M1 s H → va_S (mF b) s.heap H locs → lv_has ls 10 [(8, .int (iI i)), (6, .int (iI 0)), (7, .int (iI (-1000))), (0, .ref (am 0)), (1, .int (iI t)), (2, .int (iI v)), (3, .int (iI u)), (4, .int (iI w)), (5, .int (iI x))] → W p l e ({ frames := 3, cells := 0, slots := 0, locals := 67 } : Room) s m args below meth c H locs 0 0 Q (F0 m 80 ls []) := by
                intro fuel
                induction fuel with
                | zero => intro i M1 va1 ac1 H locs ls hi0 hi1 hO1 hF1 hv1 hm; exact absurd hm (Nat.not_lt_zero _)
                | succ fuel ih80 =>
                  intro i M1 va1 ac1 H locs ls hi0 hi1 hO1 hF1 hv1 hm hG hS hl
                  have hr1 : ∀ j, j < 4096 → rg (va1 j) := fun j h9 => by rw [hv1 j h9]; have h8 := wvF_bd (w := 0) (o := (-1000)) (kc := 1) (Or.inl rfl) ⟨by omega, by omega⟩ (S := gS gz v.toNat) (F := mBF sp nn sa sx sy ra t.toNat) (dd := (sp t.toNat).toNat) (a := u.toNat) (i - u).toNat j h9; exact ⟨by omega, by omega⟩
                  obtain ⟨z0, z1, z2, z3, z4, z5, z6, z7, z8, z9, z10, -, -⟩ := id hO1
                  refine lv_iload hx hb dX5_stay_80 (lv_at hl 0 rfl) ?_
                  refine lv_iload hx hb dX5_stay_82 (lv_at hl 7 rfl) ?_
                  refine m_icmp_gt (tgt := 122) hx hb dX5_stay_84 (by decide) ⟨by omega, by omega⟩ hrw (fun c84 => ?_) (fun c84 => ?_)
                  · refine lv_iload hx hb dX5_stay_122 (lv_at hl 2 rfl) ?_
                    refine lv_istore (lv' := [(8, .int (iI (-1000))), (6, .int (iI 0)), (7, .int (iI (-1000))), (0, .ref (am 0)), (1, .int (iI t)), (2, .int (iI v)), (3, .int (iI u)), (4, .int (iI w)), (5, .int (iI x))]) hx hb dX5_stay_124 hl (by decide) rfl (fun ls hl => ?_)
                    refine lv_iconst (v := iI 0) hx hb dX5_stay_126 rfl ?_
                    refine lv_istore (lv' := [(9, .int (iI 0)), (8, .int (iI (-1000))), (6, .int (iI 0)), (7, .int (iI (-1000))), (0, .ref (am 0)), (1, .int (iI t)), (2, .int (iI v)), (3, .int (iI u)), (4, .int (iI w)), (5, .int (iI x))]) hx hb dX5_stay_127 hl (by decide) rfl (fun ls hl => ?_)
                    have loop129 : ∀ (fuel : Nat) (kk : Int) (z : Int) (H : Heap) (locs : List Loc) (ls : Array Slot), (0 ≤ kk) → (kk ≤ 4096) → (z = btF 0 va1 (-1000) kk.toNat) → (rg z) → (4096 - kk).toNat < fuel → mG D b M1 s H → va_S (mF b) s.heap H locs → lv_has ls 10 [(9, .int (iI kk)), (8, .int (iI z)), (6, .int (iI 0)), (7, .int (iI (-1000))), (0, .ref (am 0)), (1, .int (iI t)), (2, .int (iI v)), (3, .int (iI u)), (4, .int (iI w)), (5, .int (iI x))] → W p l e ({ frames := 3, cells := 0, slots := 0, locals := 67 } : Room) s m args below meth c H locs 0 0 Q (F0 m 129 ls []) := by
                      intro fuel
                      induction fuel with
                      | zero => intro kk z H locs ls hk0 hk1 hz hxr hm; exact absurd hm (Nat.not_lt_zero _)
                      | succ fuel ih129 =>
                        intro kk z H locs ls hk0 hk1 hz hxr hm hG hS hl
                        refine lv_iload hx hb dX5_stay_129 (lv_at hl 0 rfl) ?_
                        refine lv_sipush (v := iI 4096) hx hb dX5_stay_131 (by decide) ?_
                        refine m_icmp_ge (tgt := 159) hx hb dX5_stay_134 (by decide) ⟨by omega, by omega⟩ ⟨by omega, by omega⟩ (fun c134 => ?_) (fun c134 => ?_)
                        · refine lv_iload hx hb dX5_stay_159 (lv_at hl 1 rfl) ?_
                          exact m_iret hx hb hr hlk hQ hG hS (Nat.le_of_ble_eq_true rfl) (Nat.le_of_ble_eq_true rfl) dX5_stay_161 (Or.inr ⟨by omega, va1, ac1, hO1, (fun a h9 => hF1 a (h9 9 (by decide)) (h9 10 (by decide))), Or.inr ⟨by omega, congrArg iI (by rw [hz, show kk.toNat = 4096 by omega]; exact btF_cong (fun j h9 => by rw [hv1 j h9, show (i - u).toNat = (w - u).toNat + 1 by omega]) 4096 (Nat.le_refl _))⟩⟩)
                        · refine lv_iload hx hb dX5_stay_137 (lv_at hl 1 rfl) ?_
                          refine lv_aload_n hx hb dX5_stay_139 rfl (lv_at hl 4 rfl) ?_
                          refine m_get (ci := 5) (v := .ref (am 9)) (C := RX5) (T := TX5) (N := 12) hx hb hts (by decide +kernel) hown K hG z0 rfl 10 (by decide) (by decide +kernel) rfl dX5_stay_140 ?_
                          refine lv_iload hx hb dX5_stay_143 (lv_at hl 0 rfl) ?_
                          refine m_iald hx hb hG z9 kk.toNat (by omega) (by omega) (by decide) dX5_stay_145 ?_
                          refine lv_iload hx hb dX5_stay_146 (lv_at hl 2 rfl) ?_
                          refine m_callfi (m_runS (As := [.int (iI z), .int (iI (va1 kk.toNat)), .int (iI 0)]) (rest := []) ⟨hx, hb, hml, hown, hts⟩ (c_X5_better l D b _ z (va1 kk.toNat) 0 (by first | exact hxr | exact hr1 _ (by omega)) (by first | exact hxr | exact hr1 _ (by omega)) (Or.inl rfl)) (va_cwS 3 hts gX5_stay_X5_better rfl rfl rfl (by decide +kernel) ⟨Nat.le_of_ble_eq_true rfl, Nat.le_of_ble_eq_true rfl⟩) K hG rfl hl.1 rfl (Nat.le_of_ble_eq_true rfl) dX5_stay_148 ⟨Nat.le_of_ble_eq_true rfl, Nat.le_of_ble_eq_true rfl⟩) hS (fun H locs hG hS => ?_)
                          refine W.eq (g2 := F0 m 151 ls [.int (iI (bst 0 z (va1 kk.toNat)))]) rfl ?_
                          have hG : mG D b M1 s H := hG
                          refine lv_istore (lv' := [(8, .int (iI (bst 0 z (va1 kk.toNat)))), (9, .int (iI kk)), (6, .int (iI 0)), (7, .int (iI (-1000))), (0, .ref (am 0)), (1, .int (iI t)), (2, .int (iI v)), (3, .int (iI u)), (4, .int (iI w)), (5, .int (iI x))]) hx hb dX5_stay_151 hl (by decide) rfl (fun ls hl => ?_)
                          refine m_iinc (lv' := [(9, .int (iI (kk + 1))), (8, .int (iI (bst 0 z (va1 kk.toNat)))), (6, .int (iI 0)), (7, .int (iI (-1000))), (0, .ref (am 0)), (1, .int (iI t)), (2, .int (iI v)), (3, .int (iI u)), (4, .int (iI w)), (5, .int (iI x))]) (k := 1) hx hb dX5_stay_153 hl rfl (by decide) rfl (fun ls hl => ?_)
                          refine lv_goto (tgt := 129) hx hb dX5_stay_156 (by decide) ?_
                          exact ih129 (kk + 1) (bst 0 z (va1 kk.toNat)) _ _ _ (by omega) (by omega) (by rw [hz, show (kk + 1).toNat = kk.toNat + 1 by omega, btF]) (bst_rg hxr (hr1 _ (by omega))) (by omega) hG hS (lv_sub hl [0, 1, 2, 3, 4, 5, 6, 7, 8, 9] rfl)
                    exact loop129 _ 0 (-1000) _ _ _ (by omega) (by omega) rfl ⟨by omega, by omega⟩ (Nat.lt_succ_self _) hG hS (lv_sub hl [0, 1, 2, 3, 4, 5, 6, 7, 8, 9] rfl)
                  · refine lv_iload hx hb dX5_stay_87 (lv_at hl 0 rfl) ?_
                    refine lv_iload_n hx hb dX5_stay_89 rfl (lv_at hl 6 rfl) ?_
                    refine m_icmp_le (tgt := 105) hx hb dX5_stay_90 (by decide) ⟨by omega, by omega⟩ hru (fun c90 => ?_) (fun c90 => ?_)
                    · refine lv_aload_n hx hb dX5_stay_105 rfl (lv_at hl 3 rfl) ?_
                      refine lv_iload_n hx hb dX5_stay_106 rfl (lv_at hl 4 rfl) ?_
                      refine lv_iload_n hx hb dX5_stay_107 rfl (lv_at hl 5 rfl) ?_
                      refine lv_iload hx hb dX5_stay_108 (lv_at hl 0 rfl) ?_
                      refine lv_iload hx hb dX5_stay_110 (lv_at hl 2 rfl) ?_
                      refine lv_iconst (v := iI 1) hx hb dX5_stay_112 rfl ?_
                      refine m_callfv (m_runV (a := am 0) (As := [.int (iI t), .int (iI v), .int (iI i), .int (iI (-1000)), .int (iI 1)]) (rest := []) ⟨hx, hb, hml, hown, hts⟩ (c_X5_keeps l D b _ am nt ng sp nn jj sa sx sy ra gz va1 ac1 hO1 hgd t v i (-1000) 1 (by omega) (by omega) (by omega) (by omega) (by omega) (by omega) (Or.inr rfl)) (cwV 5 hts gX5_stay_X5_keeps rfl rfl rfl (by decide +kernel) ⟨Nat.le_of_ble_eq_true rfl, Nat.le_of_ble_eq_true rfl⟩) K hG z0 rfl rfl rfl hl.1 rfl (Nat.le_of_ble_eq_true rfl) dX5_stay_113 ⟨Nat.le_of_ble_eq_true rfl, Nat.le_of_ble_eq_true rfl⟩) hS (fun H locs hG hS => ?_)
                      have hG : mG D b (mset M1 (am 9) (aI 4096 (fun (k : Nat) => if (k : Int) < 4096 then kpF va1 (gS gz v.toNat) (mBF sp nn sa sx sy ra t.toNat) i.toNat (-1000) 1 k else va1 k))) s H := hG
                      obtain ⟨va3, hva3⟩ : ∃ f : Nat → Int, f = (fun (k : Nat) => if (k : Int) < 4096 then kpF va1 (gS gz v.toNat) (mBF sp nn sa sx sy ra t.toNat) i.toNat (-1000) 1 k else va1 k) := ⟨_, rfl⟩
                      rw [← hva3] at hG
                      obtain ⟨M3, hM3⟩ : ∃ M3, M3 = mset M1 (am 9) (aI 4096 va3) := ⟨_, rfl⟩
                      have hO3 : MoOk M3 am nt ng sp nn jj sa sx sy ra gz va3 ac1 := by rw [hM3]; exact MoOk_va hO1
                      have hF3 : ∀ a, a ≠ am 9 → a ≠ am 10 → M3 a = M a := fun a q1 q2 => by rw [hM3]; exact (mset_ne q1).trans (hF1 a q1 q2)
                      have hG : mG D b M3 s H := by rw [hM3]; exact hG
                      have hv3 : ∀ j, j < 4096 → va3 j = wvF 0 (-1000) 1 (gS gz v.toNat) (mBF sp nn sa sx sy ra t.toNat) (sp t.toNat).toNat u.toNat ((i - u).toNat + 1) j := fun j h9 => by rw [hva3]; show (if (j : Int) < 4096 then _ else _) = _; rw [if_pos (by omega)]; rw [wv_one (by omega), show u.toNat + (i - u).toNat = i.toNat by omega]; exact kpF_at (hv1 j h9)
                      have hr3 : ∀ j, j < 4096 → rg (va3 j) := fun j h9 => by rw [hv3 j h9]; have h8 := wvF_bd (w := 0) (o := (-1000)) (kc := 1) (Or.inl rfl) ⟨by omega, by omega⟩ (S := gS gz v.toNat) (F := mBF sp nn sa sx sy ra t.toNat) (dd := (sp t.toNat).toNat) (a := u.toNat) ((i - u).toNat + 1) j h9; exact ⟨by omega, by omega⟩
                      obtain ⟨x0, x1, x2, x3, x4, x5, x6, x7, x8, x9, x10, -, -⟩ := id hO3
                      refine m_iinc (lv' := [(8, .int (iI (i + 1))), (6, .int (iI 0)), (7, .int (iI (-1000))), (0, .ref (am 0)), (1, .int (iI t)), (2, .int (iI v)), (3, .int (iI u)), (4, .int (iI w)), (5, .int (iI x))]) (k := 0) hx hb dX5_stay_116 hl rfl (by decide) rfl (fun ls hl => ?_)
                      refine lv_goto (tgt := 80) hx hb dX5_stay_119 (by decide) ?_
                      exact ih80 (i + 1) M3 va3 ac1 _ _ _ (by omega) (by omega) hO3 hF3 (fun j h9 => by rw [show (i + 1 - u).toNat = (i - u).toNat + 1 by omega]; exact hv3 j h9) (by omega) hG hS (lv_sub hl [0, 1, 2, 3, 4, 5, 6, 7, 8] rfl)
                    · refine lv_aload_n hx hb dX5_stay_93 rfl (lv_at hl 3 rfl) ?_
                      refine lv_aload_n hx hb dX5_stay_94 rfl (lv_at hl 3 rfl) ?_
                      refine m_get (ci := 5) (v := .ref (am 1)) (C := RX5) (T := TX5) (N := 12) hx hb hts (by decide +kernel) hown K hG z0 rfl 1 (by decide) (by decide +kernel) rfl dX5_stay_95 ?_
                      refine lv_iload_n hx hb dX5_stay_98 rfl (lv_at hl 4 rfl) ?_
                      refine m_iald hx hb hG z1 t.toNat (by omega) (by omega) (by decide) dX5_stay_99 ?_
                      refine lv_iload hx hb dX5_stay_100 (lv_at hl 1 rfl) ?_
                      refine m_callv (m_runV (a := am 0) (As := [.int (iI (sp t.toNat)), .int (iI 0)]) (rest := []) ⟨hx, hb, hml, hown, hts⟩ (c_X5_spreads l D b _ am nt ng sp nn jj sa sx sy ra gz va1 ac1 hO1 (sp t.toNat) 0 (hgd t.toNat (by omega)).2.1.1 (hgd t.toNat (by omega)).2.1.2 (Or.inl rfl) hr1) (cwV 2 hts gX5_stay_X5_spreads rfl rfl rfl (by decide +kernel) ⟨Nat.le_of_ble_eq_true rfl, Nat.le_of_ble_eq_true rfl⟩) K hG z0 rfl rfl rfl hl.1 rfl (Nat.le_of_ble_eq_true rfl) dX5_stay_102 ⟨Nat.le_of_ble_eq_true rfl, Nat.le_of_ble_eq_true rfl⟩) hS (fun M2 H locs hw3 hG hS => ?_)
                      obtain ⟨V2, A2, hO2, hF2, hV2⟩ := hw3
                      have hF2 : ∀ a, a ≠ am 9 → a ≠ am 10 → M2 a = M a := fun a q1 q2 => (hF2 a q1 q2).trans (hF1 a q1 q2)
                      have hp : ∀ j, j < 4096 → V2 j = spF 0 (wvF 0 (-1000) 1 (gS gz v.toNat) (mBF sp nn sa sx sy ra t.toNat) (sp t.toNat).toNat u.toNat (i - u).toNat) (sp t.toNat).toNat j := fun j h9 => (hV2 j h9).trans (spF_cong hv1 h9 _)
                      obtain ⟨y0, y1, y2, y3, y4, y5, y6, y7, y8, y9, y10, -, -⟩ := id hO2
                      refine lv_aload_n hx hb dX5_stay_105 rfl (lv_at hl 3 rfl) ?_
                      refine lv_iload_n hx hb dX5_stay_106 rfl (lv_at hl 4 rfl) ?_
                      refine lv_iload_n hx hb dX5_stay_107 rfl (lv_at hl 5 rfl) ?_
                      refine lv_iload hx hb dX5_stay_108 (lv_at hl 0 rfl) ?_
                      refine lv_iload hx hb dX5_stay_110 (lv_at hl 2 rfl) ?_
                      refine lv_iconst (v := iI 1) hx hb dX5_stay_112 rfl ?_
                      refine m_callfv (m_runV (a := am 0) (As := [.int (iI t), .int (iI v), .int (iI i), .int (iI (-1000)), .int (iI 1)]) (rest := []) ⟨hx, hb, hml, hown, hts⟩ (c_X5_keeps l D b _ am nt ng sp nn jj sa sx sy ra gz V2 A2 hO2 hgd t v i (-1000) 1 (by omega) (by omega) (by omega) (by omega) (by omega) (by omega) (Or.inr rfl)) (cwV 5 hts gX5_stay_X5_keeps rfl rfl rfl (by decide +kernel) ⟨Nat.le_of_ble_eq_true rfl, Nat.le_of_ble_eq_true rfl⟩) K hG y0 rfl rfl rfl hl.1 rfl (Nat.le_of_ble_eq_true rfl) dX5_stay_113 ⟨Nat.le_of_ble_eq_true rfl, Nat.le_of_ble_eq_true rfl⟩) hS (fun H locs hG hS => ?_)
                      have hG : mG D b (mset M2 (am 9) (aI 4096 (fun (k : Nat) => if (k : Int) < 4096 then kpF V2 (gS gz v.toNat) (mBF sp nn sa sx sy ra t.toNat) i.toNat (-1000) 1 k else V2 k))) s H := hG
                      obtain ⟨va3, hva3⟩ : ∃ f : Nat → Int, f = (fun (k : Nat) => if (k : Int) < 4096 then kpF V2 (gS gz v.toNat) (mBF sp nn sa sx sy ra t.toNat) i.toNat (-1000) 1 k else V2 k) := ⟨_, rfl⟩
                      rw [← hva3] at hG
                      obtain ⟨M3, hM3⟩ : ∃ M3, M3 = mset M2 (am 9) (aI 4096 va3) := ⟨_, rfl⟩
                      have hO3 : MoOk M3 am nt ng sp nn jj sa sx sy ra gz va3 A2 := by rw [hM3]; exact MoOk_va hO2
                      have hF3 : ∀ a, a ≠ am 9 → a ≠ am 10 → M3 a = M a := fun a q1 q2 => by rw [hM3]; exact (mset_ne q1).trans (hF2 a q1 q2)
                      have hG : mG D b M3 s H := by rw [hM3]; exact hG
                      have hv3 : ∀ j, j < 4096 → va3 j = wvF 0 (-1000) 1 (gS gz v.toNat) (mBF sp nn sa sx sy ra t.toNat) (sp t.toNat).toNat u.toNat ((i - u).toNat + 1) j := fun j h9 => by rw [hva3]; show (if (j : Int) < 4096 then _ else _) = _; rw [if_pos (by omega)]; rw [wv_next (by omega), show u.toNat + (i - u).toNat = i.toNat by omega]; exact kpF_at (hp j h9)
                      have hr3 : ∀ j, j < 4096 → rg (va3 j) := fun j h9 => by rw [hv3 j h9]; have h8 := wvF_bd (w := 0) (o := (-1000)) (kc := 1) (Or.inl rfl) ⟨by omega, by omega⟩ (S := gS gz v.toNat) (F := mBF sp nn sa sx sy ra t.toNat) (dd := (sp t.toNat).toNat) (a := u.toNat) ((i - u).toNat + 1) j h9; exact ⟨by omega, by omega⟩
                      obtain ⟨x0, x1, x2, x3, x4, x5, x6, x7, x8, x9, x10, -, -⟩ := id hO3
                      refine m_iinc (lv' := [(8, .int (iI (i + 1))), (6, .int (iI 0)), (7, .int (iI (-1000))), (0, .ref (am 0)), (1, .int (iI t)), (2, .int (iI v)), (3, .int (iI u)), (4, .int (iI w)), (5, .int (iI x))]) (k := 0) hx hb dX5_stay_116 hl rfl (by decide) rfl (fun ls hl => ?_)
                      refine lv_goto (tgt := 80) hx hb dX5_stay_119 (by decide) ?_
                      exact ih80 (i + 1) M3 va3 A2 _ _ _ (by omega) (by omega) hO3 hF3 (fun j h9 => by rw [show (i + 1 - u).toNat = (i - u).toNat + 1 by omega]; exact hv3 j h9) (by omega) hG hS (lv_sub hl [0, 1, 2, 3, 4, 5, 6, 7, 8] rfl)
              exact loop80 _ u M2 Z ac _ _ _ (by omega) (by omega) hO2 hF2 (fun j h9 => by rw [show (u - u).toNat = 0 by omega]; exact hZ j (by omega)) (Nat.lt_succ_self _) hG hS (lv_sub hl [0, 1, 2, 3, 4, 5, 6, 7, 8] rfl)
            · refine lv_aload_n hx hb dX5_stay_63 rfl (lv_at hl 3 rfl) ?_
              refine m_get (ci := 5) (v := .ref (am 9)) (C := RX5) (T := TX5) (N := 12) hx hb hts (by decide +kernel) hown K hG ((mset_ne (am_ne minj (i := 0) (j := 9) (by decide) (by decide) (by decide))).trans m0) rfl 10 (by decide) (by decide +kernel) rfl dX5_stay_64 ?_
              refine lv_iload hx hb dX5_stay_67 (lv_at hl 0 rfl) ?_
              refine lv_iconst (v := iI 0) hx hb dX5_stay_69 rfl ?_
              refine m_iast hx hb hG hS mset_self i.toNat (by omega) (by omega) (by decide) dX5_stay_70 (fun H locs hG hS => ?_)
              rw [mset_mset] at hG
              have hG : mG D b (mset M (am 9) (aI 4096 (va_up Z i.toNat 0))) s H := hG
              refine m_iinc (lv' := [(8, .int (iI (i + 1))), (6, .int (iI 0)), (7, .int (iI (-1000))), (0, .ref (am 0)), (1, .int (iI t)), (2, .int (iI v)), (3, .int (iI u)), (4, .int (iI w)), (5, .int (iI x))]) (k := 0) hx hb dX5_stay_71 hl rfl (by decide) rfl (fun ls hl => ?_)
              refine lv_goto (tgt := 55) hx hb dX5_stay_74 (by decide) ?_
              exact ih55 (i + 1) (va_up Z i.toNat 0) _ _ _ (by omega) (by omega) (fun j h9 => by by_cases e9 : j = i.toNat; rw [e9, va_up_self]; rw [va_up_ne _ _ e9]; exact hZ j (by omega)) (by omega) hG hS (lv_sub hl [0, 1, 2, 3, 4, 5, 6, 7, 8] rfl)
        exact loop55 _ 0 va _ _ _ (by omega) (by omega) (fun j h9 => absurd h9 (by omega)) (Nat.lt_succ_self _) (by rw [mset_id m9]; exact hG) hS (lv_sub hl [0, 2, 1, 3, 4, 5, 6, 7, 8] rfl)
      · refine lv_iconst (v := iI 1) hx hb dX5_stay_29 rfl ?_
        refine lv_goto (tgt := 34) hx hb dX5_stay_30 (by decide) ?_
        refine lv_istore (lv' := [(6, .int (iI 1)), (0, .ref (am 0)), (1, .int (iI t)), (2, .int (iI v)), (3, .int (iI u)), (4, .int (iI w)), (5, .int (iI x))]) hx hb dX5_stay_34 hl (by decide) rfl (fun ls hl => ?_)
        refine lv_iload hx hb dX5_stay_36 (lv_at hl 0 rfl) ?_
        refine m_if_eq (tgt := 47) hx hb dX5_stay_38 (by decide) ⟨by decide, by decide⟩ (fun c38 => absurd c38 (by decide)) (fun c38 => ?_)
        refine lv_sipush (v := iI 1000) hx hb dX5_stay_41 (by decide) ?_
        refine lv_goto (tgt := 50) hx hb dX5_stay_44 (by decide) ?_
        refine lv_istore (lv' := [(7, .int (iI 1000)), (6, .int (iI 1)), (0, .ref (am 0)), (1, .int (iI t)), (2, .int (iI v)), (3, .int (iI u)), (4, .int (iI w)), (5, .int (iI x))]) hx hb dX5_stay_50 hl (by decide) rfl (fun ls hl => ?_)
        refine lv_iconst (v := iI 0) hx hb dX5_stay_52 rfl ?_
        refine lv_istore (lv' := [(8, .int (iI 0)), (7, .int (iI 1000)), (6, .int (iI 1)), (0, .ref (am 0)), (1, .int (iI t)), (2, .int (iI v)), (3, .int (iI u)), (4, .int (iI w)), (5, .int (iI x))]) hx hb dX5_stay_53 hl (by decide) rfl (fun ls hl => ?_)
        have loop55 : ∀ (fuel : Nat) (i : Int) (Z : Nat → Int) (H : Heap) (locs : List Loc) (ls : Array Slot), (0 ≤ i) → (i ≤ 4096) → (∀ j : Nat, (j : Int) < i → Z j = 0) → (4096 - i).toNat < fuel → mG D b (mset M (am 9) (aI 4096 Z)) s H → va_S (mF b) s.heap H locs → lv_has ls 10 [(8, .int (iI i)), (6, .int (iI 1)), (7, .int (iI 1000)), (0, .ref (am 0)), (1, .int (iI t)), (2, .int (iI v)), (3, .int (iI u)), (4, .int (iI w)), (5, .int (iI x))] → W p l e ({ frames := 3, cells := 0, slots := 0, locals := 67 } : Room) s m args below meth c H locs 0 0 Q (F0 m 55 ls []) := by
          intro fuel
          induction fuel with
          | zero => intro i Z H locs ls hi0 hi1 hZ hm; exact absurd hm (Nat.not_lt_zero _)
          | succ fuel ih55 =>
            intro i Z H locs ls hi0 hi1 hZ hm hG hS hl
            refine lv_iload hx hb dX5_stay_55 (lv_at hl 0 rfl) ?_
            refine lv_sipush (v := iI 4096) hx hb dX5_stay_57 (by decide) ?_
            refine m_icmp_ge (tgt := 77) hx hb dX5_stay_60 (by decide) ⟨by omega, by omega⟩ ⟨by omega, by omega⟩ (fun c60 => ?_) (fun c60 => ?_)
            · obtain ⟨M2, hM2⟩ : ∃ M2, M2 = mset M (am 9) (aI 4096 Z) := ⟨_, rfl⟩
              have hO2 : MoOk M2 am nt ng sp nn jj sa sx sy ra gz Z ac := by rw [hM2]; exact MoOk_va hO
              have hF2 : ∀ a, a ≠ am 9 → a ≠ am 10 → M2 a = M a := fun a q1 _ => by rw [hM2]; exact mset_ne q1
              have hG : mG D b M2 s H := by rw [hM2]; exact hG
              obtain ⟨y0, y1, y2, y3, y4, y5, y6, y7, y8, y9, y10, -, -⟩ := id hO2
              refine lv_iload_n hx hb dX5_stay_77 rfl (lv_at hl 6 rfl) ?_
              refine lv_istore (lv' := [(8, .int (iI u)), (6, .int (iI 1)), (7, .int (iI 1000)), (0, .ref (am 0)), (1, .int (iI t)), (2, .int (iI v)), (3, .int (iI u)), (4, .int (iI w)), (5, .int (iI x))]) hx hb dX5_stay_78 hl (by decide) rfl (fun ls hl => ?_)
              have loop80 : ∀ (fuel : Nat) (i : Int) (M1 : mM) (va1 : Nat → Int) (ac1 : Nat → Int) (H : Heap) (locs : List Loc) (ls : Array Slot), (u ≤ i) → (i ≤ w + 1) → (MoOk M1 am nt ng sp nn jj sa sx sy ra gz va1 ac1) → (∀ a, a ≠ am 9 → a ≠ am 10 → M1 a = M a) → (∀ j, j < 4096 → va1 j = wvF 1 1000 1 (gS gz v.toNat) (mBF sp nn sa sx sy ra t.toNat) (sp t.toNat).toNat u.toNat (i - u).toNat j) → (w + 1 - i).toNat < fuel → mG D b M1 s H → va_S (mF b) s.heap H locs → lv_has ls 10 [(8, .int (iI i)), (6, .int (iI 1)), (7, .int (iI 1000)), (0, .ref (am 0)), (1, .int (iI t)), (2, .int (iI v)), (3, .int (iI u)), (4, .int (iI w)), (5, .int (iI x))] → W p l e ({ frames := 3, cells := 0, slots := 0, locals := 67 } : Room) s m args below meth c H locs 0 0 Q (F0 m 80 ls []) := by
                intro fuel
                induction fuel with
                | zero => intro i M1 va1 ac1 H locs ls hi0 hi1 hO1 hF1 hv1 hm; exact absurd hm (Nat.not_lt_zero _)
                | succ fuel ih80 =>
                  intro i M1 va1 ac1 H locs ls hi0 hi1 hO1 hF1 hv1 hm hG hS hl
                  have hr1 : ∀ j, j < 4096 → rg (va1 j) := fun j h9 => by rw [hv1 j h9]; have h8 := wvF_bd (w := 1) (o := 1000) (kc := 1) (Or.inr rfl) ⟨by omega, by omega⟩ (S := gS gz v.toNat) (F := mBF sp nn sa sx sy ra t.toNat) (dd := (sp t.toNat).toNat) (a := u.toNat) (i - u).toNat j h9; exact ⟨by omega, by omega⟩
                  obtain ⟨z0, z1, z2, z3, z4, z5, z6, z7, z8, z9, z10, -, -⟩ := id hO1
                  refine lv_iload hx hb dX5_stay_80 (lv_at hl 0 rfl) ?_
                  refine lv_iload hx hb dX5_stay_82 (lv_at hl 7 rfl) ?_
                  refine m_icmp_gt (tgt := 122) hx hb dX5_stay_84 (by decide) ⟨by omega, by omega⟩ hrw (fun c84 => ?_) (fun c84 => ?_)
                  · refine lv_iload hx hb dX5_stay_122 (lv_at hl 2 rfl) ?_
                    refine lv_istore (lv' := [(8, .int (iI 1000)), (6, .int (iI 1)), (7, .int (iI 1000)), (0, .ref (am 0)), (1, .int (iI t)), (2, .int (iI v)), (3, .int (iI u)), (4, .int (iI w)), (5, .int (iI x))]) hx hb dX5_stay_124 hl (by decide) rfl (fun ls hl => ?_)
                    refine lv_iconst (v := iI 0) hx hb dX5_stay_126 rfl ?_
                    refine lv_istore (lv' := [(9, .int (iI 0)), (8, .int (iI 1000)), (6, .int (iI 1)), (7, .int (iI 1000)), (0, .ref (am 0)), (1, .int (iI t)), (2, .int (iI v)), (3, .int (iI u)), (4, .int (iI w)), (5, .int (iI x))]) hx hb dX5_stay_127 hl (by decide) rfl (fun ls hl => ?_)
                    have loop129 : ∀ (fuel : Nat) (kk : Int) (z : Int) (H : Heap) (locs : List Loc) (ls : Array Slot), (0 ≤ kk) → (kk ≤ 4096) → (z = btF 1 va1 1000 kk.toNat) → (rg z) → (4096 - kk).toNat < fuel → mG D b M1 s H → va_S (mF b) s.heap H locs → lv_has ls 10 [(9, .int (iI kk)), (8, .int (iI z)), (6, .int (iI 1)), (7, .int (iI 1000)), (0, .ref (am 0)), (1, .int (iI t)), (2, .int (iI v)), (3, .int (iI u)), (4, .int (iI w)), (5, .int (iI x))] → W p l e ({ frames := 3, cells := 0, slots := 0, locals := 67 } : Room) s m args below meth c H locs 0 0 Q (F0 m 129 ls []) := by
                      intro fuel
                      induction fuel with
                      | zero => intro kk z H locs ls hk0 hk1 hz hxr hm; exact absurd hm (Nat.not_lt_zero _)
                      | succ fuel ih129 =>
                        intro kk z H locs ls hk0 hk1 hz hxr hm hG hS hl
                        refine lv_iload hx hb dX5_stay_129 (lv_at hl 0 rfl) ?_
                        refine lv_sipush (v := iI 4096) hx hb dX5_stay_131 (by decide) ?_
                        refine m_icmp_ge (tgt := 159) hx hb dX5_stay_134 (by decide) ⟨by omega, by omega⟩ ⟨by omega, by omega⟩ (fun c134 => ?_) (fun c134 => ?_)
                        · refine lv_iload hx hb dX5_stay_159 (lv_at hl 1 rfl) ?_
                          exact m_iret hx hb hr hlk hQ hG hS (Nat.le_of_ble_eq_true rfl) (Nat.le_of_ble_eq_true rfl) dX5_stay_161 (Or.inr ⟨by omega, va1, ac1, hO1, (fun a h9 => hF1 a (h9 9 (by decide)) (h9 10 (by decide))), Or.inl ⟨by omega, congrArg iI (by rw [hz, show kk.toNat = 4096 by omega]; exact btF_cong (fun j h9 => by rw [hv1 j h9, show (i - u).toNat = (w - u).toNat + 1 by omega]) 4096 (Nat.le_refl _))⟩⟩)
                        · refine lv_iload hx hb dX5_stay_137 (lv_at hl 1 rfl) ?_
                          refine lv_aload_n hx hb dX5_stay_139 rfl (lv_at hl 4 rfl) ?_
                          refine m_get (ci := 5) (v := .ref (am 9)) (C := RX5) (T := TX5) (N := 12) hx hb hts (by decide +kernel) hown K hG z0 rfl 10 (by decide) (by decide +kernel) rfl dX5_stay_140 ?_
                          refine lv_iload hx hb dX5_stay_143 (lv_at hl 0 rfl) ?_
                          refine m_iald hx hb hG z9 kk.toNat (by omega) (by omega) (by decide) dX5_stay_145 ?_
                          refine lv_iload hx hb dX5_stay_146 (lv_at hl 2 rfl) ?_
                          refine m_callfi (m_runS (As := [.int (iI z), .int (iI (va1 kk.toNat)), .int (iI 1)]) (rest := []) ⟨hx, hb, hml, hown, hts⟩ (c_X5_better l D b _ z (va1 kk.toNat) 1 (by first | exact hxr | exact hr1 _ (by omega)) (by first | exact hxr | exact hr1 _ (by omega)) (Or.inr rfl)) (va_cwS 3 hts gX5_stay_X5_better rfl rfl rfl (by decide +kernel) ⟨Nat.le_of_ble_eq_true rfl, Nat.le_of_ble_eq_true rfl⟩) K hG rfl hl.1 rfl (Nat.le_of_ble_eq_true rfl) dX5_stay_148 ⟨Nat.le_of_ble_eq_true rfl, Nat.le_of_ble_eq_true rfl⟩) hS (fun H locs hG hS => ?_)
                          refine W.eq (g2 := F0 m 151 ls [.int (iI (bst 1 z (va1 kk.toNat)))]) rfl ?_
                          have hG : mG D b M1 s H := hG
                          refine lv_istore (lv' := [(8, .int (iI (bst 1 z (va1 kk.toNat)))), (9, .int (iI kk)), (6, .int (iI 1)), (7, .int (iI 1000)), (0, .ref (am 0)), (1, .int (iI t)), (2, .int (iI v)), (3, .int (iI u)), (4, .int (iI w)), (5, .int (iI x))]) hx hb dX5_stay_151 hl (by decide) rfl (fun ls hl => ?_)
                          refine m_iinc (lv' := [(9, .int (iI (kk + 1))), (8, .int (iI (bst 1 z (va1 kk.toNat)))), (6, .int (iI 1)), (7, .int (iI 1000)), (0, .ref (am 0)), (1, .int (iI t)), (2, .int (iI v)), (3, .int (iI u)), (4, .int (iI w)), (5, .int (iI x))]) (k := 1) hx hb dX5_stay_153 hl rfl (by decide) rfl (fun ls hl => ?_)
                          refine lv_goto (tgt := 129) hx hb dX5_stay_156 (by decide) ?_
                          exact ih129 (kk + 1) (bst 1 z (va1 kk.toNat)) _ _ _ (by omega) (by omega) (by rw [hz, show (kk + 1).toNat = kk.toNat + 1 by omega, btF]) (bst_rg hxr (hr1 _ (by omega))) (by omega) hG hS (lv_sub hl [0, 1, 2, 3, 4, 5, 6, 7, 8, 9] rfl)
                    exact loop129 _ 0 1000 _ _ _ (by omega) (by omega) rfl ⟨by omega, by omega⟩ (Nat.lt_succ_self _) hG hS (lv_sub hl [0, 1, 2, 3, 4, 5, 6, 7, 8, 9] rfl)
                  · refine lv_iload hx hb dX5_stay_87 (lv_at hl 0 rfl) ?_
                    refine lv_iload_n hx hb dX5_stay_89 rfl (lv_at hl 6 rfl) ?_
                    refine m_icmp_le (tgt := 105) hx hb dX5_stay_90 (by decide) ⟨by omega, by omega⟩ hru (fun c90 => ?_) (fun c90 => ?_)
                    · refine lv_aload_n hx hb dX5_stay_105 rfl (lv_at hl 3 rfl) ?_
                      refine lv_iload_n hx hb dX5_stay_106 rfl (lv_at hl 4 rfl) ?_
                      refine lv_iload_n hx hb dX5_stay_107 rfl (lv_at hl 5 rfl) ?_
                      refine lv_iload hx hb dX5_stay_108 (lv_at hl 0 rfl) ?_
                      refine lv_iload hx hb dX5_stay_110 (lv_at hl 2 rfl) ?_
                      refine lv_iconst (v := iI 1) hx hb dX5_stay_112 rfl ?_
                      refine m_callfv (m_runV (a := am 0) (As := [.int (iI t), .int (iI v), .int (iI i), .int (iI 1000), .int (iI 1)]) (rest := []) ⟨hx, hb, hml, hown, hts⟩ (c_X5_keeps l D b _ am nt ng sp nn jj sa sx sy ra gz va1 ac1 hO1 hgd t v i 1000 1 (by omega) (by omega) (by omega) (by omega) (by omega) (by omega) (Or.inr rfl)) (cwV 5 hts gX5_stay_X5_keeps rfl rfl rfl (by decide +kernel) ⟨Nat.le_of_ble_eq_true rfl, Nat.le_of_ble_eq_true rfl⟩) K hG z0 rfl rfl rfl hl.1 rfl (Nat.le_of_ble_eq_true rfl) dX5_stay_113 ⟨Nat.le_of_ble_eq_true rfl, Nat.le_of_ble_eq_true rfl⟩) hS (fun H locs hG hS => ?_)
                      have hG : mG D b (mset M1 (am 9) (aI 4096 (fun (k : Nat) => if (k : Int) < 4096 then kpF va1 (gS gz v.toNat) (mBF sp nn sa sx sy ra t.toNat) i.toNat 1000 1 k else va1 k))) s H := hG
                      obtain ⟨va3, hva3⟩ : ∃ f : Nat → Int, f = (fun (k : Nat) => if (k : Int) < 4096 then kpF va1 (gS gz v.toNat) (mBF sp nn sa sx sy ra t.toNat) i.toNat 1000 1 k else va1 k) := ⟨_, rfl⟩
                      rw [← hva3] at hG
                      obtain ⟨M3, hM3⟩ : ∃ M3, M3 = mset M1 (am 9) (aI 4096 va3) := ⟨_, rfl⟩
                      have hO3 : MoOk M3 am nt ng sp nn jj sa sx sy ra gz va3 ac1 := by rw [hM3]; exact MoOk_va hO1
                      have hF3 : ∀ a, a ≠ am 9 → a ≠ am 10 → M3 a = M a := fun a q1 q2 => by rw [hM3]; exact (mset_ne q1).trans (hF1 a q1 q2)
                      have hG : mG D b M3 s H := by rw [hM3]; exact hG
                      have hv3 : ∀ j, j < 4096 → va3 j = wvF 1 1000 1 (gS gz v.toNat) (mBF sp nn sa sx sy ra t.toNat) (sp t.toNat).toNat u.toNat ((i - u).toNat + 1) j := fun j h9 => by rw [hva3]; show (if (j : Int) < 4096 then _ else _) = _; rw [if_pos (by omega)]; rw [wv_one (by omega), show u.toNat + (i - u).toNat = i.toNat by omega]; exact kpF_at (hv1 j h9)
                      have hr3 : ∀ j, j < 4096 → rg (va3 j) := fun j h9 => by rw [hv3 j h9]; have h8 := wvF_bd (w := 1) (o := 1000) (kc := 1) (Or.inr rfl) ⟨by omega, by omega⟩ (S := gS gz v.toNat) (F := mBF sp nn sa sx sy ra t.toNat) (dd := (sp t.toNat).toNat) (a := u.toNat) ((i - u).toNat + 1) j h9; exact ⟨by omega, by omega⟩
                      obtain ⟨x0, x1, x2, x3, x4, x5, x6, x7, x8, x9, x10, -, -⟩ := id hO3
                      refine m_iinc (lv' := [(8, .int (iI (i + 1))), (6, .int (iI 1)), (7, .int (iI 1000)), (0, .ref (am 0)), (1, .int (iI t)), (2, .int (iI v)), (3, .int (iI u)), (4, .int (iI w)), (5, .int (iI x))]) (k := 0) hx hb dX5_stay_116 hl rfl (by decide) rfl (fun ls hl => ?_)
                      refine lv_goto (tgt := 80) hx hb dX5_stay_119 (by decide) ?_
                      exact ih80 (i + 1) M3 va3 ac1 _ _ _ (by omega) (by omega) hO3 hF3 (fun j h9 => by rw [show (i + 1 - u).toNat = (i - u).toNat + 1 by omega]; exact hv3 j h9) (by omega) hG hS (lv_sub hl [0, 1, 2, 3, 4, 5, 6, 7, 8] rfl)
                    · refine lv_aload_n hx hb dX5_stay_93 rfl (lv_at hl 3 rfl) ?_
                      refine lv_aload_n hx hb dX5_stay_94 rfl (lv_at hl 3 rfl) ?_
                      refine m_get (ci := 5) (v := .ref (am 1)) (C := RX5) (T := TX5) (N := 12) hx hb hts (by decide +kernel) hown K hG z0 rfl 1 (by decide) (by decide +kernel) rfl dX5_stay_95 ?_
                      refine lv_iload_n hx hb dX5_stay_98 rfl (lv_at hl 4 rfl) ?_
                      refine m_iald hx hb hG z1 t.toNat (by omega) (by omega) (by decide) dX5_stay_99 ?_
                      refine lv_iload hx hb dX5_stay_100 (lv_at hl 1 rfl) ?_
                      refine m_callv (m_runV (a := am 0) (As := [.int (iI (sp t.toNat)), .int (iI 1)]) (rest := []) ⟨hx, hb, hml, hown, hts⟩ (c_X5_spreads l D b _ am nt ng sp nn jj sa sx sy ra gz va1 ac1 hO1 (sp t.toNat) 1 (hgd t.toNat (by omega)).2.1.1 (hgd t.toNat (by omega)).2.1.2 (Or.inr rfl) hr1) (cwV 2 hts gX5_stay_X5_spreads rfl rfl rfl (by decide +kernel) ⟨Nat.le_of_ble_eq_true rfl, Nat.le_of_ble_eq_true rfl⟩) K hG z0 rfl rfl rfl hl.1 rfl (Nat.le_of_ble_eq_true rfl) dX5_stay_102 ⟨Nat.le_of_ble_eq_true rfl, Nat.le_of_ble_eq_true rfl⟩) hS (fun M5 H locs hw6 hG hS => ?_)
                      obtain ⟨V2, A2, hO2, hF2, hV2⟩ := hw6
                      have hF2 : ∀ a, a ≠ am 9 → a ≠ am 10 → M5 a = M a := fun a q1 q2 => (hF2 a q1 q2).trans (hF1 a q1 q2)
                      have hp : ∀ j, j < 4096 → V2 j = spF 1 (wvF 1 1000 1 (gS gz v.toNat) (mBF sp nn sa sx sy ra t.toNat) (sp t.toNat).toNat u.toNat (i - u).toNat) (sp t.toNat).toNat j := fun j h9 => (hV2 j h9).trans (spF_cong hv1 h9 _)
                      obtain ⟨y0, y1, y2, y3, y4, y5, y6, y7, y8, y9, y10, -, -⟩ := id hO2
                      refine lv_aload_n hx hb dX5_stay_105 rfl (lv_at hl 3 rfl) ?_
                      refine lv_iload_n hx hb dX5_stay_106 rfl (lv_at hl 4 rfl) ?_
                      refine lv_iload_n hx hb dX5_stay_107 rfl (lv_at hl 5 rfl) ?_
                      refine lv_iload hx hb dX5_stay_108 (lv_at hl 0 rfl) ?_
                      refine lv_iload hx hb dX5_stay_110 (lv_at hl 2 rfl) ?_
                      refine lv_iconst (v := iI 1) hx hb dX5_stay_112 rfl ?_
                      refine m_callfv (m_runV (a := am 0) (As := [.int (iI t), .int (iI v), .int (iI i), .int (iI 1000), .int (iI 1)]) (rest := []) ⟨hx, hb, hml, hown, hts⟩ (c_X5_keeps l D b _ am nt ng sp nn jj sa sx sy ra gz V2 A2 hO2 hgd t v i 1000 1 (by omega) (by omega) (by omega) (by omega) (by omega) (by omega) (Or.inr rfl)) (cwV 5 hts gX5_stay_X5_keeps rfl rfl rfl (by decide +kernel) ⟨Nat.le_of_ble_eq_true rfl, Nat.le_of_ble_eq_true rfl⟩) K hG y0 rfl rfl rfl hl.1 rfl (Nat.le_of_ble_eq_true rfl) dX5_stay_113 ⟨Nat.le_of_ble_eq_true rfl, Nat.le_of_ble_eq_true rfl⟩) hS (fun H locs hG hS => ?_)
                      have hG : mG D b (mset M5 (am 9) (aI 4096 (fun (k : Nat) => if (k : Int) < 4096 then kpF V2 (gS gz v.toNat) (mBF sp nn sa sx sy ra t.toNat) i.toNat 1000 1 k else V2 k))) s H := hG
                      obtain ⟨va3, hva3⟩ : ∃ f : Nat → Int, f = (fun (k : Nat) => if (k : Int) < 4096 then kpF V2 (gS gz v.toNat) (mBF sp nn sa sx sy ra t.toNat) i.toNat 1000 1 k else V2 k) := ⟨_, rfl⟩
                      rw [← hva3] at hG
                      obtain ⟨M3, hM3⟩ : ∃ M3, M3 = mset M5 (am 9) (aI 4096 va3) := ⟨_, rfl⟩
                      have hO3 : MoOk M3 am nt ng sp nn jj sa sx sy ra gz va3 A2 := by rw [hM3]; exact MoOk_va hO2
                      have hF3 : ∀ a, a ≠ am 9 → a ≠ am 10 → M3 a = M a := fun a q1 q2 => by rw [hM3]; exact (mset_ne q1).trans (hF2 a q1 q2)
                      have hG : mG D b M3 s H := by rw [hM3]; exact hG
                      have hv3 : ∀ j, j < 4096 → va3 j = wvF 1 1000 1 (gS gz v.toNat) (mBF sp nn sa sx sy ra t.toNat) (sp t.toNat).toNat u.toNat ((i - u).toNat + 1) j := fun j h9 => by rw [hva3]; show (if (j : Int) < 4096 then _ else _) = _; rw [if_pos (by omega)]; rw [wv_next (by omega), show u.toNat + (i - u).toNat = i.toNat by omega]; exact kpF_at (hp j h9)
                      have hr3 : ∀ j, j < 4096 → rg (va3 j) := fun j h9 => by rw [hv3 j h9]; have h8 := wvF_bd (w := 1) (o := 1000) (kc := 1) (Or.inr rfl) ⟨by omega, by omega⟩ (S := gS gz v.toNat) (F := mBF sp nn sa sx sy ra t.toNat) (dd := (sp t.toNat).toNat) (a := u.toNat) ((i - u).toNat + 1) j h9; exact ⟨by omega, by omega⟩
                      obtain ⟨x0, x1, x2, x3, x4, x5, x6, x7, x8, x9, x10, -, -⟩ := id hO3
                      refine m_iinc (lv' := [(8, .int (iI (i + 1))), (6, .int (iI 1)), (7, .int (iI 1000)), (0, .ref (am 0)), (1, .int (iI t)), (2, .int (iI v)), (3, .int (iI u)), (4, .int (iI w)), (5, .int (iI x))]) (k := 0) hx hb dX5_stay_116 hl rfl (by decide) rfl (fun ls hl => ?_)
                      refine lv_goto (tgt := 80) hx hb dX5_stay_119 (by decide) ?_
                      exact ih80 (i + 1) M3 va3 A2 _ _ _ (by omega) (by omega) hO3 hF3 (fun j h9 => by rw [show (i + 1 - u).toNat = (i - u).toNat + 1 by omega]; exact hv3 j h9) (by omega) hG hS (lv_sub hl [0, 1, 2, 3, 4, 5, 6, 7, 8] rfl)
              exact loop80 _ u M2 Z ac _ _ _ (by omega) (by omega) hO2 hF2 (fun j h9 => by rw [show (u - u).toNat = 0 by omega]; exact hZ j (by omega)) (Nat.lt_succ_self _) hG hS (lv_sub hl [0, 1, 2, 3, 4, 5, 6, 7, 8] rfl)
            · refine lv_aload_n hx hb dX5_stay_63 rfl (lv_at hl 3 rfl) ?_
              refine m_get (ci := 5) (v := .ref (am 9)) (C := RX5) (T := TX5) (N := 12) hx hb hts (by decide +kernel) hown K hG ((mset_ne (am_ne minj (i := 0) (j := 9) (by decide) (by decide) (by decide))).trans m0) rfl 10 (by decide) (by decide +kernel) rfl dX5_stay_64 ?_
              refine lv_iload hx hb dX5_stay_67 (lv_at hl 0 rfl) ?_
              refine lv_iconst (v := iI 0) hx hb dX5_stay_69 rfl ?_
              refine m_iast hx hb hG hS mset_self i.toNat (by omega) (by omega) (by decide) dX5_stay_70 (fun H locs hG hS => ?_)
              rw [mset_mset] at hG
              have hG : mG D b (mset M (am 9) (aI 4096 (va_up Z i.toNat 0))) s H := hG
              refine m_iinc (lv' := [(8, .int (iI (i + 1))), (6, .int (iI 1)), (7, .int (iI 1000)), (0, .ref (am 0)), (1, .int (iI t)), (2, .int (iI v)), (3, .int (iI u)), (4, .int (iI w)), (5, .int (iI x))]) (k := 0) hx hb dX5_stay_71 hl rfl (by decide) rfl (fun ls hl => ?_)
              refine lv_goto (tgt := 55) hx hb dX5_stay_74 (by decide) ?_
              exact ih55 (i + 1) (va_up Z i.toNat 0) _ _ _ (by omega) (by omega) (fun j h9 => by by_cases e9 : j = i.toNat; rw [e9, va_up_self]; rw [va_up_ne _ _ e9]; exact hZ j (by omega)) (by omega) hG hS (lv_sub hl [0, 1, 2, 3, 4, 5, 6, 7, 8] rfl)
        exact loop55 _ 0 va _ _ _ (by omega) (by omega) (fun j h9 => absurd h9 (by omega)) (Nat.lt_succ_self _) (by rw [mset_id m9]; exact hG) hS (lv_sub hl [0, 2, 1, 3, 4, 5, 6, 7, 8] rfl)
    · refine lv_iconst (v := iI (-1)) hx hb dX5_stay_22 rfl ?_
      exact m_iret hx hb hr hlk hQ hG hS (Nat.le_of_ble_eq_true rfl) (Nat.le_of_ble_eq_true rfl) dX5_stay_23 (Or.inl ⟨by omega, rfl, rfl⟩)

