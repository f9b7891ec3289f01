section CASES
variable {p : Program} {e : Env} {s : State} {m : MethodId} {below : List Frame} {meth : Method} {c : Code} {b0 L : Nat} {xs : Nat → Int32} {D : va_G} {H : Heap} {locs : List Loc} {ls : Array Slot} {cells slots : Nat} {M : mM} {x mo i : Nat}
set_option maxHeartbeats 4000000 in
set_option maxRecDepth 100000 in
theorem law_thing (l : Launch) (C0 : LC D p s m meth c b0 L xs) (hi : i + 6 ≤ L) (hc : cells + 85 ≤ 600000) (hsl : slots + 443 ≤ 7302250) (hI : InvE M x mo) (hG : mG D s.heap.size M s H) (hS : va_S (mF s.heap.size) s.heap H locs) (hl : lv_has ls 4 [(3, .int (iI i)), (2, .ref mo), (1, .ref x), (0, .ref b0)]) (kk : ∀ (M2 : mM) (H2 : Heap) (locs2 : List Loc), InvE M2 x mo → mG D s.heap.size M2 s H2 → va_S (mF s.heap.size) s.heap H2 locs2 → W p l e room_1 s m #[Value.ref b0] below meth c H2 locs2 (cells + 85) (slots + 443) (lw_Z below #[Value.ref b0] s) (F0 m 672 ls [])) : W p l e room_1 s m #[Value.ref b0] below meth c H locs cells slots (lw_Z below #[Value.ref b0] s) (F0 m 104 ls []) := by
  obtain ⟨⟨hx, hb, hr, hml, hown, hts0, hX, hbl, hlk, hgv⟩, K, hL⟩ := C0
  have hts : ∀ w ∈ wsL_law, w.before #[Value.ref b0] s = true := fun w h => hts0 w (wsL_law_in w h)
  have hown : s.vm.findClass RL = some m.cls := hown
  obtain ⟨ad, tg, am, nt, ng, sp, nn, jj, vt, vw, vr, G, sa, sx, sy, ra, gz, va, ac, rfl, rfl, hI⟩ := hI
  refine lv_aload_n hx hb dL_law_104 rfl (lv_at hl 2 rfl) ?_
  refine law_ld hx hb hX hbl hL hS hl 1 (by omega) dL_law_105 dL_law_106 dL_law_107 dL_law_108 dL_law_109 ?_
  refine m_calli (m_runV (a := ad 8 0 0) (As := [.int (iI (zx xs (i + 1)))]) (rest := []) ⟨hx, hb, hml, hown, hts⟩ (c_X4_thing l D s.heap.size _ ad nt ng sp nn jj vt vw vr G hI.1 tg hI.2.1 (zx xs (i + 1)) zx_rg) (cwV 1 hts gL_law_X4_thing rfl rfl rfl (by decide +kernel) ⟨Nat.le_of_ble_eq_true rfl, Nat.le_of_ble_eq_true rfl⟩) K hG hI.1.1 rfl rfl rfl hl.1 rfl (Nat.le_of_ble_eq_true rfl) dL_law_110 ⟨by show _ ≤ 600000; omega, by show _ ≤ 7302250; omega⟩) hS (fun r1 M1 H locs hw1 hG hS => ?_)
  have hO1 := mid_thing hI (zx xs (i + 1)) hw1
  refine lv_aload_n hx hb dL_law_113 rfl (lv_at hl 1 rfl) ?_
  refine law_ld hx hb hX hbl hL hS hl 1 (by omega) dL_law_114 dL_law_115 dL_law_116 dL_law_117 dL_law_118 ?_
  refine m_calli (m_runV (a := am 0) (As := [.int (iI (zx xs (i + 1)))]) (rest := [.int r1]) ⟨hx, hb, hml, hown, hts⟩ (c_X5_thing l D s.heap.size _ am nt ng sp nn jj sa sx sy ra gz va ac hO1 (zx xs (i + 1)) zx_rg) (cwV 1 hts gL_law_X5_thing rfl rfl rfl (by decide +kernel) ⟨Nat.le_of_ble_eq_true rfl, Nat.le_of_ble_eq_true rfl⟩) K hG hO1.1 rfl rfl rfl hl.1 rfl (Nat.le_of_ble_eq_true rfl) dL_law_119 ⟨by show _ ≤ 600000; omega, by show _ ≤ 7302250; omega⟩) hS (fun r2 M2 H locs hw2 hG hS => ?_)
  have hf := fin_thing hI (zx xs (i + 1)) hw1 hw2
  refine lv_icmp_eq (tgt := 672) hx hb dL_law_122 (by decide) (fun _ => ?_) (fun h => absurd hf.1 h)
  exact W.widen (by omega) (by omega) (kk M2 H locs hf.2 hG hS)
set_option maxHeartbeats 4000000 in
set_option maxRecDepth 100000 in
theorem law_see (l : Launch) (C0 : LC D p s m meth c b0 L xs) (hi : i + 6 ≤ L) (hc : cells + 85 ≤ 600000) (hsl : slots + 443 ≤ 7302250) (hI : InvE M x mo) (hG : mG D s.heap.size M s H) (hS : va_S (mF s.heap.size) s.heap H locs) (hl : lv_has ls 4 [(3, .int (iI i)), (2, .ref mo), (1, .ref x), (0, .ref b0)]) (kk : ∀ (M2 : mM) (H2 : Heap) (locs2 : List Loc), InvE M2 x mo → mG D s.heap.size M2 s H2 → va_S (mF s.heap.size) s.heap H2 locs2 → W p l e room_1 s m #[Value.ref b0] below meth c H2 locs2 (cells + 85) (slots + 443) (lw_Z below #[Value.ref b0] s) (F0 m 672 ls [])) : W p l e room_1 s m #[Value.ref b0] below meth c H locs cells slots (lw_Z below #[Value.ref b0] s) (F0 m 127 ls []) := by
  obtain ⟨⟨hx, hb, hr, hml, hown, hts0, hX, hbl, hlk, hgv⟩, K, hL⟩ := C0
  have hts : ∀ w ∈ wsL_law, w.before #[Value.ref b0] s = true := fun w h => hts0 w (wsL_law_in w h)
  have hown : s.vm.findClass RL = some m.cls := hown
  obtain ⟨ad, tg, am, nt, ng, sp, nn, jj, vt, vw, vr, G, sa, sx, sy, ra, gz, va, ac, rfl, rfl, hI⟩ := hI
  refine lv_aload_n hx hb dL_law_127 rfl (lv_at hl 2 rfl) ?_
  refine law_ld hx hb hX hbl hL hS hl 1 (by omega) dL_law_128 dL_law_129 dL_law_130 dL_law_131 dL_law_132 ?_
  refine law_ld hx hb hX hbl hL hS hl 2 (by omega) dL_law_133 dL_law_134 dL_law_135 dL_law_136 dL_law_137 ?_
  refine law_ld hx hb hX hbl hL hS hl 3 (by omega) dL_law_138 dL_law_139 dL_law_140 dL_law_141 dL_law_142 ?_
  refine law_ld hx hb hX hbl hL hS hl 4 (by omega) dL_law_143 dL_law_144 dL_law_145 dL_law_146 dL_law_147 ?_
  refine m_calli (m_runV (a := ad 8 0 0) (As := [.int (iI (zx xs (i + 1))), .int (iI (zx xs (i + 2))), .int (iI (zx xs (i + 3))), .int (iI (zx xs (i + 4)))]) (rest := []) ⟨hx, hb, hml, hown, hts⟩ (c_X4_see l D s.heap.size _ ad nt ng sp nn jj vt vw vr G hI.1 tg hI.2.1 (zx xs (i + 1)) (zx xs (i + 2)) (zx xs (i + 3)) (zx xs (i + 4)) zx_rg zx_rg zx_rg zx_rg) (cwV 4 hts gL_law_X4_see rfl rfl rfl (by decide +kernel) ⟨Nat.le_of_ble_eq_true rfl, Nat.le_of_ble_eq_true rfl⟩) K hG hI.1.1 rfl rfl rfl hl.1 rfl (Nat.le_of_ble_eq_true rfl) dL_law_148 ⟨by show _ ≤ 600000; omega, by show _ ≤ 7302250; omega⟩) hS (fun r1 M1 H locs hw1 hG hS => ?_)
  have hO1 := mid_see hI (zx xs (i + 1)) (zx xs (i + 2)) (zx xs (i + 3)) (zx xs (i + 4)) hw1
  refine lv_aload_n hx hb dL_law_151 rfl (lv_at hl 1 rfl) ?_
  refine law_ld hx hb hX hbl hL hS hl 1 (by omega) dL_law_152 dL_law_153 dL_law_154 dL_law_155 dL_law_156 ?_
  refine law_ld hx hb hX hbl hL hS hl 2 (by omega) dL_law_157 dL_law_158 dL_law_159 dL_law_160 dL_law_161 ?_
  refine law_ld hx hb hX hbl hL hS hl 3 (by omega) dL_law_162 dL_law_163 dL_law_164 dL_law_165 dL_law_166 ?_
  refine law_ld hx hb hX hbl hL hS hl 4 (by omega) dL_law_167 dL_law_168 dL_law_169 dL_law_170 dL_law_171 ?_
  refine m_calli (m_runV (a := am 0) (As := [.int (iI (zx xs (i + 1))), .int (iI (zx xs (i + 2))), .int (iI (zx xs (i + 3))), .int (iI (zx xs (i + 4)))]) (rest := [.int r1]) ⟨hx, hb, hml, hown, hts⟩ (c_X5_see l D s.heap.size _ am nt ng sp nn jj sa sx sy ra gz va ac hO1 hI.2.2.2.2.1 (zx xs (i + 1)) (zx xs (i + 2)) (zx xs (i + 3)) (zx xs (i + 4)) zx_rg zx_rg zx_rg zx_rg) (cwV 4 hts gL_law_X5_see rfl rfl rfl (by decide +kernel) ⟨Nat.le_of_ble_eq_true rfl, Nat.le_of_ble_eq_true rfl⟩) K hG hO1.1 rfl rfl rfl hl.1 rfl (Nat.le_of_ble_eq_true rfl) dL_law_172 ⟨by show _ ≤ 600000; omega, by show _ ≤ 7302250; omega⟩) hS (fun r2 M2 H locs hw2 hG hS => ?_)
  have hf := fin_see hI (zx xs (i + 1)) (zx xs (i + 2)) (zx xs (i + 3)) (zx xs (i + 4)) hw1 hw2
  refine lv_icmp_eq (tgt := 672) hx hb dL_law_175 (by decide) (fun _ => ?_) (fun h => absurd hf.1 h)
  exact W.widen (by omega) (by omega) (kk M2 H locs hf.2 hG hS)
set_option maxHeartbeats 4000000 in
set_option maxRecDepth 100000 in
theorem law_back (l : Launch) (C0 : LC D p s m meth c b0 L xs) (hi : i + 6 ≤ L) (hc : cells + 85 ≤ 600000) (hsl : slots + 443 ≤ 7302250) (hI : InvE M x mo) (hG : mG D s.heap.size M s H) (hS : va_S (mF s.heap.size) s.heap H locs) (hl : lv_has ls 4 [(3, .int (iI i)), (2, .ref mo), (1, .ref x), (0, .ref b0)]) (kk : ∀ (M2 : mM) (H2 : Heap) (locs2 : List Loc), InvE M2 x mo → mG D s.heap.size M2 s H2 → va_S (mF s.heap.size) s.heap H2 locs2 → W p l e room_1 s m #[Value.ref b0] below meth c H2 locs2 (cells + 85) (slots + 443) (lw_Z below #[Value.ref b0] s) (F0 m 672 ls [])) : W p l e room_1 s m #[Value.ref b0] below meth c H locs cells slots (lw_Z below #[Value.ref b0] s) (F0 m 180 ls []) := by
  obtain ⟨⟨hx, hb, hr, hml, hown, hts0, hX, hbl, hlk, hgv⟩, K, hL⟩ := C0
  have hts : ∀ w ∈ wsL_law, w.before #[Value.ref b0] s = true := fun w h => hts0 w (wsL_law_in w h)
  have hown : s.vm.findClass RL = some m.cls := hown
  obtain ⟨ad, tg, am, nt, ng, sp, nn, jj, vt, vw, vr, G, sa, sx, sy, ra, gz, va, ac, rfl, rfl, hI⟩ := hI
  refine lv_aload_n hx hb dL_law_180 rfl (lv_at hl 2 rfl) ?_
  refine law_ld hx hb hX hbl hL hS hl 1 (by omega) dL_law_181 dL_law_182 dL_law_183 dL_law_184 dL_law_185 ?_
  refine m_calli (m_runV (a := ad 8 0 0) (As := [.int (iI (zx xs (i + 1)))]) (rest := []) ⟨hx, hb, hml, hown, hts⟩ (c_X4_back l D s.heap.size _ ad nt ng sp nn jj vt vw vr G hI.1 tg hI.2.1 (zx xs (i + 1)) zx_rg) (cwV 1 hts gL_law_X4_back rfl rfl rfl (by decide +kernel) ⟨Nat.le_of_ble_eq_true rfl, Nat.le_of_ble_eq_true rfl⟩) K hG hI.1.1 rfl rfl rfl hl.1 rfl (Nat.le_of_ble_eq_true rfl) dL_law_186 ⟨by show _ ≤ 600000; omega, by show _ ≤ 7302250; omega⟩) hS (fun r1 M1 H locs hw1 hG hS => ?_)
  have hO1 := mid_back hI (zx xs (i + 1)) hw1
  refine lv_aload_n hx hb dL_law_189 rfl (lv_at hl 1 rfl) ?_
  refine law_ld hx hb hX hbl hL hS hl 1 (by omega) dL_law_190 dL_law_191 dL_law_192 dL_law_193 dL_law_194 ?_
  refine m_calli (m_runV (a := am 0) (As := [.int (iI (zx xs (i + 1)))]) (rest := [.int r1]) ⟨hx, hb, hml, hown, hts⟩ (c_X5_back l D s.heap.size _ am nt ng sp nn jj sa sx sy ra gz va ac hO1 (iv_nn hI) (zx xs (i + 1)) zx_rg) (cwV 1 hts gL_law_X5_back rfl rfl rfl (by decide +kernel) ⟨Nat.le_of_ble_eq_true rfl, Nat.le_of_ble_eq_true rfl⟩) K hG hO1.1 rfl rfl rfl hl.1 rfl (Nat.le_of_ble_eq_true rfl) dL_law_195 ⟨by show _ ≤ 600000; omega, by show _ ≤ 7302250; omega⟩) hS (fun r2 M2 H locs hw2 hG hS => ?_)
  have hf := fin_back hI (zx xs (i + 1)) hw1 hw2
  refine lv_icmp_eq (tgt := 672) hx hb dL_law_198 (by decide) (fun _ => ?_) (fun h => absurd hf.1 h)
  exact W.widen (by omega) (by omega) (kk M2 H locs hf.2 hG hS)
set_option maxHeartbeats 4000000 in
set_option maxRecDepth 100000 in
theorem law_jumps (l : Launch) (C0 : LC D p s m meth c b0 L xs) (hi : i + 6 ≤ L) (hc : cells + 85 ≤ 600000) (hsl : slots + 443 ≤ 7302250) (hI : InvE M x mo) (hG : mG D s.heap.size M s H) (hS : va_S (mF s.heap.size) s.heap H locs) (hl : lv_has ls 4 [(3, .int (iI i)), (2, .ref mo), (1, .ref x), (0, .ref b0)]) (kk : ∀ (M2 : mM) (H2 : Heap) (locs2 : List Loc), InvE M2 x mo → mG D s.heap.size M2 s H2 → va_S (mF s.heap.size) s.heap H2 locs2 → W p l e room_1 s m #[Value.ref b0] below meth c H2 locs2 (cells + 85) (slots + 443) (lw_Z below #[Value.ref b0] s) (F0 m 672 ls [])) : W p l e room_1 s m #[Value.ref b0] below meth c H locs cells slots (lw_Z below #[Value.ref b0] s) (F0 m 203 ls []) := by
  obtain ⟨⟨hx, hb, hr, hml, hown, hts0, hX, hbl, hlk, hgv⟩, K, hL⟩ := C0
  have hts : ∀ w ∈ wsL_law, w.before #[Value.ref b0] s = true := fun w h => hts0 w (wsL_law_in w h)
  have hown : s.vm.findClass RL = some m.cls := hown
  obtain ⟨ad, tg, am, nt, ng, sp, nn, jj, vt, vw, vr, G, sa, sx, sy, ra, gz, va, ac, rfl, rfl, hI⟩ := hI
  refine lv_aload_n hx hb dL_law_203 rfl (lv_at hl 2 rfl) ?_
  refine law_ld hx hb hX hbl hL hS hl 1 (by omega) dL_law_204 dL_law_205 dL_law_206 dL_law_207 dL_law_208 ?_
  refine m_calli (m_runV (a := ad 8 0 0) (As := [.int (iI (zx xs (i + 1)))]) (rest := []) ⟨hx, hb, hml, hown, hts⟩ (c_X4_jumps l D s.heap.size _ ad nt ng sp nn jj vt vw vr G hI.1 (zx xs (i + 1)) zx_rg) (cwV 1 hts gL_law_X4_jumps rfl rfl rfl (by decide +kernel) ⟨Nat.le_of_ble_eq_true rfl, Nat.le_of_ble_eq_true rfl⟩) K hG hI.1.1 rfl rfl rfl hl.1 rfl (Nat.le_of_ble_eq_true rfl) dL_law_209 ⟨by show _ ≤ 600000; omega, by show _ ≤ 7302250; omega⟩) hS (fun r1 M1 H locs hw1 hG hS => ?_)
  have hO1 := mid_pure hI hw1
  refine lv_aload_n hx hb dL_law_212 rfl (lv_at hl 1 rfl) ?_
  refine law_ld hx hb hX hbl hL hS hl 1 (by omega) dL_law_213 dL_law_214 dL_law_215 dL_law_216 dL_law_217 ?_
  refine m_calli (m_runV (a := am 0) (As := [.int (iI (zx xs (i + 1)))]) (rest := [.int r1]) ⟨hx, hb, hml, hown, hts⟩ (c_X5_jumps l D s.heap.size _ am nt ng sp nn jj sa sx sy ra gz va ac hO1 (zx xs (i + 1)) zx_rg) (cwV 1 hts gL_law_X5_jumps rfl rfl rfl (by decide +kernel) ⟨Nat.le_of_ble_eq_true rfl, Nat.le_of_ble_eq_true rfl⟩) K hG hO1.1 rfl rfl rfl hl.1 rfl (Nat.le_of_ble_eq_true rfl) dL_law_218 ⟨by show _ ≤ 600000; omega, by show _ ≤ 7302250; omega⟩) hS (fun r2 M2 H locs hw2 hG hS => ?_)
  have hf := fin_pure hI hw1 hw2 rfl
  refine lv_icmp_eq (tgt := 672) hx hb dL_law_221 (by decide) (fun _ => ?_) (fun h => absurd hf.1 h)
  exact W.widen (by omega) (by omega) (kk M2 H locs hf.2 hG hS)
set_option maxHeartbeats 4000000 in
set_option maxRecDepth 100000 in
theorem law_where (l : Launch) (C0 : LC D p s m meth c b0 L xs) (hi : i + 6 ≤ L) (hc : cells + 85 ≤ 600000) (hsl : slots + 443 ≤ 7302250) (hI : InvE M x mo) (hG : mG D s.heap.size M s H) (hS : va_S (mF s.heap.size) s.heap H locs) (hl : lv_has ls 4 [(3, .int (iI i)), (2, .ref mo), (1, .ref x), (0, .ref b0)]) (kk : ∀ (M2 : mM) (H2 : Heap) (locs2 : List Loc), InvE M2 x mo → mG D s.heap.size M2 s H2 → va_S (mF s.heap.size) s.heap H2 locs2 → W p l e room_1 s m #[Value.ref b0] below meth c H2 locs2 (cells + 85) (slots + 443) (lw_Z below #[Value.ref b0] s) (F0 m 672 ls [])) : W p l e room_1 s m #[Value.ref b0] below meth c H locs cells slots (lw_Z below #[Value.ref b0] s) (F0 m 226 ls []) := by
  obtain ⟨⟨hx, hb, hr, hml, hown, hts0, hX, hbl, hlk, hgv⟩, K, hL⟩ := C0
  have hts : ∀ w ∈ wsL_law, w.before #[Value.ref b0] s = true := fun w h => hts0 w (wsL_law_in w h)
  have hown : s.vm.findClass RL = some m.cls := hown
  obtain ⟨ad, tg, am, nt, ng, sp, nn, jj, vt, vw, vr, G, sa, sx, sy, ra, gz, va, ac, rfl, rfl, hI⟩ := hI
  refine lv_aload_n hx hb dL_law_226 rfl (lv_at hl 2 rfl) ?_
  refine law_ld hx hb hX hbl hL hS hl 1 (by omega) dL_law_227 dL_law_228 dL_law_229 dL_law_230 dL_law_231 ?_
  refine law_ld hx hb hX hbl hL hS hl 2 (by omega) dL_law_232 dL_law_233 dL_law_234 dL_law_235 dL_law_236 ?_
  refine law_ld hx hb hX hbl hL hS hl 3 (by omega) dL_law_237 dL_law_238 dL_law_239 dL_law_240 dL_law_241 ?_
  refine m_calli (m_runV (a := ad 8 0 0) (As := [.int (iI (zx xs (i + 1))), .int (iI (zx xs (i + 2))), .int (iI (zx xs (i + 3)))]) (rest := []) ⟨hx, hb, hml, hown, hts⟩ (c_X4_where l D s.heap.size _ ad nt ng sp nn jj vt vw vr G hI.1 (zx xs (i + 1)) (zx xs (i + 2)) (zx xs (i + 3)) zx_rg zx_rg zx_rg) (cwV 3 hts gL_law_X4_where rfl rfl rfl (by decide +kernel) ⟨Nat.le_of_ble_eq_true rfl, Nat.le_of_ble_eq_true rfl⟩) K hG hI.1.1 rfl rfl rfl hl.1 rfl (Nat.le_of_ble_eq_true rfl) dL_law_242 ⟨by show _ ≤ 600000; omega, by show _ ≤ 7302250; omega⟩) hS (fun r1 M1 H locs hw1 hG hS => ?_)
  have hO1 := mid_pure hI hw1
  refine lv_aload_n hx hb dL_law_245 rfl (lv_at hl 1 rfl) ?_
  refine law_ld hx hb hX hbl hL hS hl 1 (by omega) dL_law_246 dL_law_247 dL_law_248 dL_law_249 dL_law_250 ?_
  refine law_ld hx hb hX hbl hL hS hl 2 (by omega) dL_law_251 dL_law_252 dL_law_253 dL_law_254 dL_law_255 ?_
  refine law_ld hx hb hX hbl hL hS hl 3 (by omega) dL_law_256 dL_law_257 dL_law_258 dL_law_259 dL_law_260 ?_
  refine m_calli (m_runV (a := am 0) (As := [.int (iI (zx xs (i + 1))), .int (iI (zx xs (i + 2))), .int (iI (zx xs (i + 3)))]) (rest := [.int r1]) ⟨hx, hb, hml, hown, hts⟩ (c_X5_where l D s.heap.size _ am nt ng sp nn jj sa sx sy ra gz va ac hO1 hI.2.2.2.2.1 (zx xs (i + 1)) (zx xs (i + 2)) (zx xs (i + 3)) zx_rg zx_rg zx_rg) (cwV 3 hts gL_law_X5_where rfl rfl rfl (by decide +kernel) ⟨Nat.le_of_ble_eq_true rfl, Nat.le_of_ble_eq_true rfl⟩) K hG hO1.1 rfl rfl rfl hl.1 rfl (Nat.le_of_ble_eq_true rfl) dL_law_261 ⟨by show _ ≤ 600000; omega, by show _ ≤ 7302250; omega⟩) hS (fun r2 M2 H locs hw2 hG hS => ?_)
  have hf := fin_pure hI hw1 hw2 (ans_where hI (zx xs (i + 1)) (zx xs (i + 2)) (zx xs (i + 3)))
  refine lv_icmp_eq (tgt := 672) hx hb dL_law_264 (by decide) (fun _ => ?_) (fun h => absurd hf.1 h)
  exact W.widen (by omega) (by omega) (kk M2 H locs hf.2 hG hS)
set_option maxHeartbeats 4000000 in
set_option maxRecDepth 100000 in
theorem law_ground (l : Launch) (C0 : LC D p s m meth c b0 L xs) (hi : i + 6 ≤ L) (hc : cells + 85 ≤ 600000) (hsl : slots + 443 ≤ 7302250) (hI : InvE M x mo) (hG : mG D s.heap.size M s H) (hS : va_S (mF s.heap.size) s.heap H locs) (hl : lv_has ls 4 [(3, .int (iI i)), (2, .ref mo), (1, .ref x), (0, .ref b0)]) (kk : ∀ (M2 : mM) (H2 : Heap) (locs2 : List Loc), InvE M2 x mo → mG D s.heap.size M2 s H2 → va_S (mF s.heap.size) s.heap H2 locs2 → W p l e room_1 s m #[Value.ref b0] below meth c H2 locs2 (cells + 85) (slots + 443) (lw_Z below #[Value.ref b0] s) (F0 m 672 ls [])) : W p l e room_1 s m #[Value.ref b0] below meth c H locs cells slots (lw_Z below #[Value.ref b0] s) (F0 m 269 ls []) := by
  obtain ⟨⟨hx, hb, hr, hml, hown, hts0, hX, hbl, hlk, hgv⟩, K, hL⟩ := C0
  have hts : ∀ w ∈ wsL_law, w.before #[Value.ref b0] s = true := fun w h => hts0 w (wsL_law_in w h)
  have hown : s.vm.findClass RL = some m.cls := hown
  obtain ⟨ad, tg, am, nt, ng, sp, nn, jj, vt, vw, vr, G, sa, sx, sy, ra, gz, va, ac, rfl, rfl, hI⟩ := hI
  refine lv_aload_n hx hb dL_law_269 rfl (lv_at hl 2 rfl) ?_
  refine m_calli (m_runV (a := ad 8 0 0) (As := []) (rest := []) ⟨hx, hb, hml, hown, hts⟩ (c_X4_ground l D s.heap.size _ ad nt ng sp nn jj vt vw vr G hI.1 tg hI.2.1 ) (cwV 0 hts gL_law_X4_ground rfl rfl rfl (by decide +kernel) ⟨Nat.le_of_ble_eq_true rfl, Nat.le_of_ble_eq_true rfl⟩) K hG hI.1.1 rfl rfl rfl hl.1 rfl (Nat.le_of_ble_eq_true rfl) dL_law_270 ⟨by show _ ≤ 600000; omega, by show _ ≤ 7302250; omega⟩) hS (fun r1 M1 H locs hw1 hG hS => ?_)
  have hO1 := mid_ground hI  hw1
  refine lv_aload_n hx hb dL_law_273 rfl (lv_at hl 1 rfl) ?_
  refine m_calli (m_runV (a := am 0) (As := []) (rest := [.int r1]) ⟨hx, hb, hml, hown, hts⟩ (c_X5_ground l D s.heap.size _ am nt ng sp nn jj sa sx sy ra gz va ac hO1 ) (cwV 0 hts gL_law_X5_ground rfl rfl rfl (by decide +kernel) ⟨Nat.le_of_ble_eq_true rfl, Nat.le_of_ble_eq_true rfl⟩) K hG hO1.1 rfl rfl rfl hl.1 rfl (Nat.le_of_ble_eq_true rfl) dL_law_274 ⟨by show _ ≤ 600000; omega, by show _ ≤ 7302250; omega⟩) hS (fun r2 M2 H locs hw2 hG hS => ?_)
  have hf := fin_ground hI  hw1 hw2
  refine lv_icmp_eq (tgt := 672) hx hb dL_law_277 (by decide) (fun _ => ?_) (fun h => absurd hf.1 h)
  exact W.widen (by omega) (by omega) (kk M2 H locs hf.2 hG hS)
set_option maxHeartbeats 4000000 in
set_option maxRecDepth 100000 in
theorem law_draw (l : Launch) (C0 : LC D p s m meth c b0 L xs) (hi : i + 6 ≤ L) (hc : cells + 85 ≤ 600000) (hsl : slots + 443 ≤ 7302250) (hI : InvE M x mo) (hG : mG D s.heap.size M s H) (hS : va_S (mF s.heap.size) s.heap H locs) (hl : lv_has ls 4 [(3, .int (iI i)), (2, .ref mo), (1, .ref x), (0, .ref b0)]) (kk : ∀ (M2 : mM) (H2 : Heap) (locs2 : List Loc), InvE M2 x mo → mG D s.heap.size M2 s H2 → va_S (mF s.heap.size) s.heap H2 locs2 → W p l e room_1 s m #[Value.ref b0] below meth c H2 locs2 (cells + 85) (slots + 443) (lw_Z below #[Value.ref b0] s) (F0 m 672 ls [])) : W p l e room_1 s m #[Value.ref b0] below meth c H locs cells slots (lw_Z below #[Value.ref b0] s) (F0 m 282 ls []) := by
  obtain ⟨⟨hx, hb, hr, hml, hown, hts0, hX, hbl, hlk, hgv⟩, K, hL⟩ := C0
  have hts : ∀ w ∈ wsL_law, w.before #[Value.ref b0] s = true := fun w h => hts0 w (wsL_law_in w h)
  have hown : s.vm.findClass RL = some m.cls := hown
  obtain ⟨ad, tg, am, nt, ng, sp, nn, jj, vt, vw, vr, G, sa, sx, sy, ra, gz, va, ac, rfl, rfl, hI⟩ := hI
  refine lv_aload_n hx hb dL_law_282 rfl (lv_at hl 2 rfl) ?_
  refine law_ld hx hb hX hbl hL hS hl 1 (by omega) dL_law_283 dL_law_284 dL_law_285 dL_law_286 dL_law_287 ?_
  refine law_ld hx hb hX hbl hL hS hl 2 (by omega) dL_law_288 dL_law_289 dL_law_290 dL_law_291 dL_law_292 ?_
  refine law_ld hx hb hX hbl hL hS hl 3 (by omega) dL_law_293 dL_law_294 dL_law_295 dL_law_296 dL_law_297 ?_
  refine law_ld hx hb hX hbl hL hS hl 4 (by omega) dL_law_298 dL_law_299 dL_law_300 dL_law_301 dL_law_302 ?_
  refine m_if_eq (tgt := 310) hx hb dL_law_303 (by decide) zx_rg (fun c1 => ?_) (fun c1 => ?_)
  · refine lv_iconst (v := iI 0) hx hb dL_law_310 rfl ?_
    refine m_calli (m_runV (a := ad 8 0 0) (As := [.int (iI (zx xs (i + 1))), .int (iI (zx xs (i + 2))), .int (iI (zx xs (i + 3))), .int (iI 0)]) (rest := []) ⟨hx, hb, hml, hown, hts⟩ (c_X4_draw l D s.heap.size _ ad nt ng sp nn jj vt vw vr G hI.1 tg hI.2.1 (zx xs (i + 1)) (zx xs (i + 2)) (zx xs (i + 3)) 0 zx_rg zx_rg zx_rg (Or.inl rfl)) (cwV 4 hts gL_law_X4_draw rfl rfl rfl (by decide +kernel) ⟨Nat.le_of_ble_eq_true rfl, Nat.le_of_ble_eq_true rfl⟩) K hG hI.1.1 rfl rfl rfl hl.1 rfl (Nat.le_of_ble_eq_true rfl) dL_law_311 ⟨by show _ ≤ 600000; omega, by show _ ≤ 7302250; omega⟩) hS (fun r1 M1 H locs hw1 hG hS => ?_)
    have hO1 := mid_draw hI (zx xs (i + 1)) (zx xs (i + 2)) (zx xs (i + 3)) 0 hw1
    refine lv_aload_n hx hb dL_law_314 rfl (lv_at hl 1 rfl) ?_
    refine law_ld hx hb hX hbl hL hS hl 1 (by omega) dL_law_315 dL_law_316 dL_law_317 dL_law_318 dL_law_319 ?_
    refine law_ld hx hb hX hbl hL hS hl 2 (by omega) dL_law_320 dL_law_321 dL_law_322 dL_law_323 dL_law_324 ?_
    refine law_ld hx hb hX hbl hL hS hl 3 (by omega) dL_law_325 dL_law_326 dL_law_327 dL_law_328 dL_law_329 ?_
    refine law_ld hx hb hX hbl hL hS hl 4 (by omega) dL_law_330 dL_law_331 dL_law_332 dL_law_333 dL_law_334 ?_
    refine m_if_eq (tgt := 342) hx hb dL_law_335 (by decide) zx_rg (fun c2 => ?_) (fun c2 => ?_)
    · refine lv_iconst (v := iI 0) hx hb dL_law_342 rfl ?_
      refine m_calli (m_runV (a := am 0) (As := [.int (iI (zx xs (i + 1))), .int (iI (zx xs (i + 2))), .int (iI (zx xs (i + 3))), .int (iI 0)]) (rest := [.int r1]) ⟨hx, hb, hml, hown, hts⟩ (c_X5_draw l D s.heap.size _ am nt ng sp nn jj sa sx sy ra gz va ac hO1 (zx xs (i + 1)) (zx xs (i + 2)) (zx xs (i + 3)) false zx_rg zx_rg zx_rg) (cwV 4 hts gL_law_X5_draw rfl rfl rfl (by decide +kernel) ⟨Nat.le_of_ble_eq_true rfl, Nat.le_of_ble_eq_true rfl⟩) K hG hO1.1 rfl rfl rfl hl.1 rfl (Nat.le_of_ble_eq_true rfl) dL_law_343 ⟨by show _ ≤ 600000; omega, by show _ ≤ 7302250; omega⟩) hS (fun r2 M2 H locs hw2 hG hS => ?_)
      have hf := fin_draw hI (zx xs (i + 1)) (zx xs (i + 2)) (zx xs (i + 3)) 0 (wb := false) rfl hw1 hw2
      refine lv_icmp_eq (tgt := 672) hx hb dL_law_346 (by decide) (fun _ => ?_) (fun h => absurd hf.1 h)
      exact W.widen (by omega) (by omega) (kk M2 H locs hf.2 hG hS)
    · exact absurd c1 c2
  · refine lv_iconst (v := iI 1) hx hb dL_law_306 rfl ?_
    refine lv_goto (tgt := 311) hx hb dL_law_307 (by decide) ?_
    refine m_calli (m_runV (a := ad 8 0 0) (As := [.int (iI (zx xs (i + 1))), .int (iI (zx xs (i + 2))), .int (iI (zx xs (i + 3))), .int (iI 1)]) (rest := []) ⟨hx, hb, hml, hown, hts⟩ (c_X4_draw l D s.heap.size _ ad nt ng sp nn jj vt vw vr G hI.1 tg hI.2.1 (zx xs (i + 1)) (zx xs (i + 2)) (zx xs (i + 3)) 1 zx_rg zx_rg zx_rg (Or.inr rfl)) (cwV 4 hts gL_law_X4_draw rfl rfl rfl (by decide +kernel) ⟨Nat.le_of_ble_eq_true rfl, Nat.le_of_ble_eq_true rfl⟩) K hG hI.1.1 rfl rfl rfl hl.1 rfl (Nat.le_of_ble_eq_true rfl) dL_law_311 ⟨by show _ ≤ 600000; omega, by show _ ≤ 7302250; omega⟩) hS (fun r1 M1 H locs hw1 hG hS => ?_)
    have hO1 := mid_draw hI (zx xs (i + 1)) (zx xs (i + 2)) (zx xs (i + 3)) 1 hw1
    refine lv_aload_n hx hb dL_law_314 rfl (lv_at hl 1 rfl) ?_
    refine law_ld hx hb hX hbl hL hS hl 1 (by omega) dL_law_315 dL_law_316 dL_law_317 dL_law_318 dL_law_319 ?_
    refine law_ld hx hb hX hbl hL hS hl 2 (by omega) dL_law_320 dL_law_321 dL_law_322 dL_law_323 dL_law_324 ?_
    refine law_ld hx hb hX hbl hL hS hl 3 (by omega) dL_law_325 dL_law_326 dL_law_327 dL_law_328 dL_law_329 ?_
    refine law_ld hx hb hX hbl hL hS hl 4 (by omega) dL_law_330 dL_law_331 dL_law_332 dL_law_333 dL_law_334 ?_
    refine m_if_eq (tgt := 342) hx hb dL_law_335 (by decide) zx_rg (fun c2 => ?_) (fun c2 => ?_)
    · exact absurd c2 c1
    · refine lv_iconst (v := iI 1) hx hb dL_law_338 rfl ?_
      refine lv_goto (tgt := 343) hx hb dL_law_339 (by decide) ?_
      refine m_calli (m_runV (a := am 0) (As := [.int (iI (zx xs (i + 1))), .int (iI (zx xs (i + 2))), .int (iI (zx xs (i + 3))), .int (iI 1)]) (rest := [.int r1]) ⟨hx, hb, hml, hown, hts⟩ (c_X5_draw l D s.heap.size _ am nt ng sp nn jj sa sx sy ra gz va ac hO1 (zx xs (i + 1)) (zx xs (i + 2)) (zx xs (i + 3)) true zx_rg zx_rg zx_rg) (cwV 4 hts gL_law_X5_draw rfl rfl rfl (by decide +kernel) ⟨Nat.le_of_ble_eq_true rfl, Nat.le_of_ble_eq_true rfl⟩) K hG hO1.1 rfl rfl rfl hl.1 rfl (Nat.le_of_ble_eq_true rfl) dL_law_343 ⟨by show _ ≤ 600000; omega, by show _ ≤ 7302250; omega⟩) hS (fun r2 M2 H locs hw2 hG hS => ?_)
      have hf := fin_draw hI (zx xs (i + 1)) (zx xs (i + 2)) (zx xs (i + 3)) 1 (wb := true) rfl hw1 hw2
      refine lv_icmp_eq (tgt := 672) hx hb dL_law_346 (by decide) (fun _ => ?_) (fun h => absurd hf.1 h)
      exact W.widen (by omega) (by omega) (kk M2 H locs hf.2 hG hS)
end CASES
