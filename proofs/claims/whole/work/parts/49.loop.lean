section LOOP
variable {p : Program} {e : Env} {s : State} {m : MethodId} {below : List Frame} {meth : Method} {c : Code} {b0 L : Nat} {xs : Nat → Int32} {D : va_G} {x mo : Nat}
set_option maxHeartbeats 4000000 in
set_option maxRecDepth 100000 in
theorem law_loop (l : Launch) (C0 : LC D p s m meth c b0 L xs) : ∀ (fuel i : Nat) (M : mM) (H : Heap) (locs : List Loc) (ls : Array Slot), i ≤ L → L - i < fuel → InvE M x mo → mG D s.heap.size M s H → va_S (mF s.heap.size) s.heap H locs → lv_has ls 4 [(3, .int (iI i)), (2, .ref mo), (1, .ref x), (0, .ref b0)] → W p l e room_1 s m #[Value.ref b0] below meth c H locs (180 + 15 * i) (40000 + 80 * i) (lw_Z below #[Value.ref b0] s) (F0 m 18 ls []) := by
  intro fuel
  induction fuel with
  | zero => intro i M H locs ls hi hm; exact absurd hm (Nat.not_lt_zero _)
  | succ fuel ih =>
    intro i M H locs ls hi hm hI hG hS hl
    obtain ⟨⟨hx, hb, hr, hml, hown, hts0, hX, hbl, hlk, hgv⟩, K, hL⟩ := id C0
    have hb : c.code = cL_law := hb
    refine lv_iload_n hx hb dL_law_18 rfl (lv_at hl 0 rfl) ?_
    refine lv_aload_n hx hb dL_law_19 rfl (lv_at hl 3 rfl) ?_
    refine va_slen hx hb hX hbl (Nat.not_le.mpr hbl) hS dL_law_20 ?_
    rw [iI_nat]
    refine lv_bipush (v := iI 6) hx hb dL_law_21 (by decide) ?_
    refine m_isub hx hb dL_law_23 ?_
    refine m_icmp_gt (tgt := 678) hx hb dL_law_24 (by decide) ⟨by omega, by omega⟩ ⟨by omega, by omega⟩ (fun c24 => ?_) (fun c24 => ?_)
    · refine lv_iconst (v := iI 1) hx hb dL_law_678 rfl ?_
      refine va_forget (fun q hq => hS.2.2 q hq) ?_
      refine W.widen (k := 600000) (n := 7302250) (by omega) (by omega) ?_
      exact lw_ret hx hb hr hlk dL_law_679
    · have kk : ∀ (M2 : mM) (H2 : Heap) (locs2 : List Loc), InvE M2 x mo → mG D s.heap.size M2 s H2 → va_S (mF s.heap.size) s.heap H2 locs2 → W p l e room_1 s m #[Value.ref b0] below meth c H2 locs2 (180 + 15 * i + 85) (40000 + 80 * i + 443) (lw_Z below #[Value.ref b0] s) (F0 m 672 ls []) := fun M2 H2 locs2 hI hG hS => by
        refine m_iinc (lv' := [(3, .int (iI ((i : Int) + 6))), (2, .ref mo), (1, .ref x), (0, .ref b0)]) (k := 0) hx hb dL_law_672 hl rfl (by decide) rfl (fun ls hl => ?_)
        refine lv_goto (tgt := 18) hx hb dL_law_675 (by decide) ?_
        have hl : lv_has ls 4 [(3, .int (iI ((i + 6 : Nat) : Int))), (2, .ref mo), (1, .ref x), (0, .ref b0)] := hl
        exact W.widen (by omega) (by omega) (ih (i + 6) M2 H2 locs2 ls (by omega) (by omega) hI hG hS hl)
      refine lv_aload_n hx hb dL_law_27 rfl (lv_at hl 3 rfl) ?_
      refine lv_iload_n hx hb dL_law_28 rfl (lv_at hl 0 rfl) ?_
      refine va_sld hx hb hX hbl (Nat.not_le.mpr hbl) hS (iI_in (j := i) (by omega) (by omega) (by omega)) dL_law_29 ?_
      refine lv_bipush (v := iI 15) hx hb dL_law_30 (by decide) ?_
      refine lv_iand hx hb dL_law_32 ?_
      obtain ⟨z, hz0, hz1, hz⟩ := and15 (xs (iI (i : Int)).toNatClampNeg)
      rw [hz]
      rcases (show z = 0 ∨ z = 1 ∨ z = 2 ∨ z = 3 ∨ z = 4 ∨ z = 5 ∨ z = 6 ∨ z = 7 ∨ z = 8 ∨ z = 9 ∨ z = 10 ∨ z = 11 ∨ z = 12 ∨ z = 13 ∨ 13 < z by omega) with h | h | h | h | h | h | h | h | h | h | h | h | h | h | h
      · refine m_tabIn (tgt := 104) (off := 71) hx hb dL_law_33 ⟨by omega, by omega⟩ (by omega) (by omega) (by rw [h]; rfl) (by decide) ?_
        exact law_thing l C0 (by omega) (by omega) (by omega) hI hG hS hl kk
      · refine m_tabIn (tgt := 127) (off := 94) hx hb dL_law_33 ⟨by omega, by omega⟩ (by omega) (by omega) (by rw [h]; rfl) (by decide) ?_
        exact law_see l C0 (by omega) (by omega) (by omega) hI hG hS hl kk
      · refine m_tabIn (tgt := 180) (off := 147) hx hb dL_law_33 ⟨by omega, by omega⟩ (by omega) (by omega) (by rw [h]; rfl) (by decide) ?_
        exact law_back l C0 (by omega) (by omega) (by omega) hI hG hS hl kk
      · refine m_tabIn (tgt := 203) (off := 170) hx hb dL_law_33 ⟨by omega, by omega⟩ (by omega) (by omega) (by rw [h]; rfl) (by decide) ?_
        exact law_jumps l C0 (by omega) (by omega) (by omega) hI hG hS hl kk
      · refine m_tabIn (tgt := 226) (off := 193) hx hb dL_law_33 ⟨by omega, by omega⟩ (by omega) (by omega) (by rw [h]; rfl) (by decide) ?_
        exact law_where l C0 (by omega) (by omega) (by omega) hI hG hS hl kk
      · refine m_tabIn (tgt := 269) (off := 236) hx hb dL_law_33 ⟨by omega, by omega⟩ (by omega) (by omega) (by rw [h]; rfl) (by decide) ?_
        exact law_ground l C0 (by omega) (by omega) (by omega) hI hG hS hl kk
      · refine m_tabIn (tgt := 282) (off := 249) hx hb dL_law_33 ⟨by omega, by omega⟩ (by omega) (by omega) (by rw [h]; rfl) (by decide) ?_
        exact law_draw l C0 (by omega) (by omega) (by omega) hI hG hS hl kk
      · refine m_tabIn (tgt := 351) (off := 318) hx hb dL_law_33 ⟨by omega, by omega⟩ (by omega) (by omega) (by rw [h]; rfl) (by decide) ?_
        exact law_has l C0 (by omega) (by omega) (by omega) hI hG hS hl kk
      · refine m_tabIn (tgt := 384) (off := 351) hx hb dL_law_33 ⟨by omega, by omega⟩ (by omega) (by omega) (by rw [h]; rfl) (by decide) ?_
        exact law_state l C0 (by omega) (by omega) (by omega) hI hG hS hl kk
      · refine m_tabIn (tgt := 427) (off := 394) hx hb dL_law_33 ⟨by omega, by omega⟩ (by omega) (by omega) (by rw [h]; rfl) (by decide) ?_
        exact law_entered l C0 (by omega) (by omega) (by omega) hI hG hS hl kk
      · refine m_tabIn (tgt := 480) (off := 447) hx hb dL_law_33 ⟨by omega, by omega⟩ (by omega) (by omega) (by rw [h]; rfl) (by decide) ?_
        exact law_stay l C0 (by omega) (by omega) (by omega) hI hG hS hl kk
      · refine m_tabIn (tgt := 543) (off := 510) hx hb dL_law_33 ⟨by omega, by omega⟩ (by omega) (by omega) (by rw [h]; rfl) (by decide) ?_
        exact law_look l C0 (by omega) (by omega) (by omega) hI hG hS hl kk
      · refine m_tabIn (tgt := 596) (off := 563) hx hb dL_law_33 ⟨by omega, by omega⟩ (by omega) (by omega) (by rw [h]; rfl) (by decide) ?_
        exact law_apart l C0 (by omega) (by omega) (by omega) hI hG hS hl kk
      · refine m_tabIn (tgt := 649) (off := 616) hx hb dL_law_33 ⟨by omega, by omega⟩ (by omega) (by omega) (by rw [h]; rfl) (by decide) ?_
        exact law_count l C0 (by omega) (by omega) (by omega) hI hG hS hl kk
      · refine m_tabOut (tgt := 672) hx hb dL_law_33 ⟨by omega, by omega⟩ (Or.inr h) (by decide) ?_
        exact W.widen (by omega) (by omega) (kk M H locs hI hG hS)
end LOOP
