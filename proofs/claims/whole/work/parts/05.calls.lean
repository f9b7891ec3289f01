section MC
variable {p : Program} {l : Launch} {e : Env} {R : Room} {s : State} {m : MethodId} {args : Array Value} {below : List Frame} {meth : Method} {c : Code} {H : Heap} {locs : List Loc} {cells slots : Nat} {Q : State → Prop}
variable {cc : ByteArray} {pc : Nat} {ls : Array Slot} {rest st0 : List Value} {D : va_G} {a b : Nat} {M : mM} {H0 : Heap} {nL : Nat} {Ts : List Cond} {own : String} {mc ms : Nat}
/-- a contract out of a walk -/
theorem m_met {y : MethodName} {ws ws' : List Cond} {rm : Room} {maxL : Nat} {ret : Option FieldType} {av : List Value} {Qc : Array Value → State → Outcome → State → Prop} (hy : plainName y.cls = true) (hw : ws = Cond.code y cc maxL ret :: ws') (hlen : (lg_sl av).length ≤ maxL)
    (body : ∀ (p : Program) (e : Env) (s : State) (m : MethodId) (args : Array Value) (below : List Frame) (meth : Method) (c : Code) (Q : State → Prop) (ls : Array Slot),
      p.tables.exec = Jvm.exec → c.code = cc → c.maxLocals = maxL → meth.sig.returnType = ret → (∀ w ∈ ws, w.before args s = true) → s.vm.findClass y.cls = some m.cls → meth.locks = false → meth.name = y.name → Q = MQ below Qc args s mc ms (mF b) → mS D s → mG D b M s s.heap → va_S (mF b) s.heap s.heap [] → lv_has ls maxL (lv_args 0 av) → W p l e rm s m args below meth c s.heap [] 0 0 Q (F0 m 0 ls [])) : Met l y ws rm (mPc av D b M) Qc mc ms (mF b) := by
  refine Met.ofW (cc := cc) (maxL := maxL) (ret := ret) hy hw ?_
  intro p e s m args below meth c s₁ B hml hv
  obtain ⟨rfl, hK, hG⟩ := hv
  have hl := lv_entry av (n := maxL) hlen
  rw [lg_entry_eq]
  generalize (lg_sl av ++ List.replicate (maxL - (lg_sl av).length) Slot.unset).toArray = ls at hl ⊢
  exact body p e s m av.toArray below meth c _ ls B.exec B.bytes hml B.returns (atoms_spec (ws := ws) B.pre) (findClass_of_methodNamed B.named) B.notSynchronized (name_of_methodNamed B.named B.method).1 rfl hK hG va_S.rf hl
/-- returns -/
theorem m_vret {post : mM → Prop} (hx : p.tables.exec = Jvm.exec) (hb : c.code = cc) (hr : meth.sig.returnType = none) (hlk : meth.locks = false) (hQ : Q = MQ below (mQv D b post) args s mc ms (mF b)) (hG : mG D b M s H) (hS : va_S (mF b) s.heap H locs) (hc : cells ≤ mc) (hs : slots ≤ ms) (hdg : decode cc pc = .ok (.return_, 1)) (hp : post M) : W p l e R s m args below meth c H locs cells slots Q (F0 m pc ls []) := by
  subst hQ
  exact W.widen hc hs (W.vret hx hb hr (fun t ht hW => ⟨⟨M, rfl, hp, by show mG D b M t t.heap; rw [ht]; exact hG.moved hW.alike⟩, hS.F ht⟩) hS.2.2 hdg hlk)
theorem m_iret {post : Int32 → mM → Prop} {v : Int32} (hx : p.tables.exec = Jvm.exec) (hb : c.code = cc) (hr : meth.sig.returnType = some .int) (hlk : meth.locks = false) (hQ : Q = MQ below (mQi D b post) args s mc ms (mF b)) (hG : mG D b M s H) (hS : va_S (mF b) s.heap H locs) (hc : cells ≤ mc) (hs : slots ≤ ms) (hdg : decode cc pc = .ok (.ireturn, 1)) (hp : post v M) : W p l e R s m args below meth c H locs cells slots Q (F0 m pc ls [.int v]) := by
  subst hQ
  exact W.widen hc hs (W.iret hx hb hr (fun t ht hW => ⟨⟨v, M, rfl, hp, by show mG D b M t t.heap; rw [ht]; exact hG.moved hW.alike⟩, hS.F ht⟩) hS.2.2 hdg hlk)
theorem m_zret {post : Int32 → mM → Prop} {v : Int32} (hx : p.tables.exec = Jvm.exec) (hb : c.code = cc) (hr : meth.sig.returnType = some .boolean) (hlk : meth.locks = false) (hQ : Q = MQ below (mQi D b post) args s mc ms (mF b)) (hG : mG D b M s H) (hS : va_S (mF b) s.heap H locs) (hc : cells ≤ mc) (hs : slots ≤ ms) (hdg : decode cc pc = .ok (.ireturn, 1)) (hv : v = iI 0 ∨ v = iI 1) (hp : post v M) : W p l e R s m args below meth c H locs cells slots Q (F0 m pc ls [.int v]) := by
  subst hQ
  exact W.widen hc hs (W.zret hx hb hr (by rcases hv with h | h <;> rw [h] <;> decide) (fun t ht hW => ⟨⟨v, M, rfl, hp, by show mG D b M t t.heap; rw [ht]; exact hG.moved hW.alike⟩, hS.F ht⟩) hS.2.2 hdg hlk)
theorem iI_if {P : Prop} [Decidable P] : iI (if P then 1 else 0) = iI 0 ∨ iI (if P then 1 else 0) = iI 1 := by
  by_cases h : P
  · rw [if_pos h]; exact Or.inr rfl
  · rw [if_neg h]; exact Or.inl rfl
theorem m_lret {post : Int64 → mM → Prop} {v : Int64} (hx : p.tables.exec = Jvm.exec) (hb : c.code = cc) (hr : meth.sig.returnType = some .long) (hlk : meth.locks = false) (hQ : Q = MQ below (mQl D b post) args s mc ms (mF b)) (hG : mG D b M s H) (hS : va_S (mF b) s.heap H locs) (hc : cells ≤ mc) (hs : slots ≤ ms) (hdg : decode cc pc = .ok (.lreturn, 1)) (hp : post v M) : W p l e R s m args below meth c H locs cells slots Q (F0 m pc ls [.long v]) := by
  subst hQ
  exact W.widen hc hs (W.lret hx hb hr (fun t ht hW => ⟨⟨v, M, rfl, hp, by show mG D b M t t.heap; rw [ht]; exact hG.moved hW.alike⟩, hS.F ht⟩) hS.2.2 hdg hlk)
theorem m_aret {post : Option Nat → mM → Prop} {v : Value} (v0 : Option Nat) {C : String} (hv : v = va_rf v0) (hx : p.tables.exec = Jvm.exec) (hb : c.code = cc) (hr : meth.sig.returnType = some (.object C)) (hlk : meth.locks = false) (hQ : Q = MQ below (mQq D b post) args s mc ms (mF b)) (hG : mG D b M s H) (hS : va_S (mF b) s.heap H locs) (hc : cells ≤ mc) (hs : slots ≤ ms) (hdg : decode cc pc = .ok (.areturn, 1)) (hp : post v0 M) : W p l e R s m args below meth c H locs cells slots Q (F0 m pc ls [v]) := by
  subst hQ
  subst hv
  exact W.widen hc hs (W.aret hx hb hr (Or.inl ⟨C, rfl⟩) (va_rf_or v0) (fun t ht hW => ⟨⟨v0, M, rfl, hp, by show mG D b M t t.heap; rw [ht]; exact hG.moved hW.alike⟩, hS.F ht⟩) hS.2.2 hdg hlk)
variable {y : MethodName} {bytes : ByteArray} {maxL n index : Nat} {ret : Option FieldType} {ws : List Cond} {rm : Room} {Qc : Array Value → State → Outcome → State → Prop} {C : String} {As : List Value} {av : List Value}
theorem m_runV (S : CallFix p m c cc nL s args Ts own) (hM : Met l y ws rm (mPc av D b M) Qc mc ms (mF b)) (cw : CallW R s args own C index y bytes maxL ret ws rm mc ms n) (K : mS D s) (hG : mG D b M s H) {ci : Nat} {fs : List Value} {T : u_T} {N : Nat} (ha : M a = some (.inr (ci, fs))) (hc : vwCl[ci]? = some (C, T, N)) (hav : av = .ref a :: As) (hn : As.length = n) (hsize : ls.size = nL) (hstack : st0 = As.reverse ++ .ref a :: rest) (hW : (rest.map fun v => v.category).sum ≤ 8) (hdg : decode cc pc = .ok (.invokevirtual index, 3)) (hf : cells + mc ≤ R.cells ∧ slots + ms ≤ R.slots) :
    va_Run p l e R s m args below meth c H locs cells slots mc ms (F0 m pc ls st0) rest (Qc (Value.ref a :: As).toArray) (mF b) := by
  subst hav
  exact va_runV S hM cw ⟨mPc.blind, va_recv K.1 (mP1 hG ha) (q0 := 0) hc rfl, fun U hU hWm => ⟨rfl, K.warm hWm, by rw [hU]; exact hG.moved hWm.alike⟩⟩ rfl hn hsize hstack (lv_room hW) hdg hf
theorem m_runS (S : CallFix p m c cc nL s args Ts own) (hM : Met l y ws rm (mPc As D b M) Qc mc ms (mF b)) (cw : CallB R s args own index y bytes maxL ret ws rm mc ms n ∧ (Cond.static y).before args s = true) (K : mS D s) (hG : mG D b M s H) (hn : As.length = n) (hsize : ls.size = nL) (hstack : st0 = As.reverse ++ rest) (hW : (rest.map fun v => v.category).sum ≤ 8) (hdg : decode cc pc = .ok (.invokestatic index, 3)) (hf : cells + mc ≤ R.cells ∧ slots + ms ≤ R.slots) :
    va_Run p l e R s m args below meth c H locs cells slots mc ms (F0 m pc ls st0) rest (Qc As.toArray) (mF b) :=
  va_runS S hM cw ⟨mPc.blind, fun U hU hWm => ⟨rfl, K.warm hWm, by rw [hU]; exact hG.moved hWm.alike⟩⟩ rfl hn hsize hstack (lv_room hW) hdg hf
theorem m_runSN {host : String} (S : CallFix p m c cc nL s args Ts own) (hM : Met l y ws rm (mPc As D b M) Qc mc ms (mF b)) (cw : va_CN R s args own index y host bytes maxL ret ws rm mc ms n ∧ (Cond.static y).before args s = true ∧ True) (K : mS D s) (hG : mG D b M s H) (hn : As.length = n) (hsize : ls.size = nL) (hstack : st0 = As.reverse ++ rest) (hW : (rest.map fun v => v.category).sum ≤ 8) (hdg : decode cc pc = .ok (.invokestatic index, 3)) (hf : cells + mc ≤ R.cells ∧ slots + ms ≤ R.slots) :
    va_Run p l e R s m args below meth c H locs cells slots mc ms (F0 m pc ls st0) rest (Qc As.toArray) (mF b) :=
  va_runSN S hM cw ⟨mPc.blind, fun U hU hWm => ⟨rfl, K.warm hWm, by rw [hU]; exact hG.moved hWm.alike⟩⟩ rfl hn hsize hstack (lv_room hW) hdg hf
theorem m_runI (S : CallFix p m c cc nL s args Ts own) (hM : Met l y ws rm (mPc av D b M) Qc mc ms (mF b)) (cw : CallB R s args own index y bytes maxL none ws rm mc ms n ∧ y.name = "<init>" ∧ (Cond.instanceMethod y).before args s = true) (K : mS D s) (hG : mG D b M s H) (hav : av = .ref a :: As) (hn : As.length = n) (hsize : ls.size = nL) (hstack : st0 = As.reverse ++ .ref a :: rest) (hW : (rest.map fun v => v.category).sum ≤ 8) (hdg : decode cc pc = .ok (.invokespecial index, 3)) (hf : cells + mc ≤ R.cells ∧ slots + ms ≤ R.slots) :
    va_Run p l e R s m args below meth c H locs cells slots mc ms (F0 m pc ls st0) rest (Qc (Value.ref a :: As).toArray) (mF b) := by
  subst hav
  exact va_runI S hM cw ⟨mPc.blind, fun U hU hWm => ⟨rfl, K.warm hWm, by rw [hU]; exact hG.moved hWm.alike⟩⟩ rfl hn hsize hstack (lv_room hW) hdg hf
variable {ar : Array Value}
theorem m_calli {post : Int32 → mM → Prop} (hr : va_Run p l e R s m args below meth c H locs cells slots mc ms (F0 m pc ls st0) rest (mQi D b post ar) (mF b)) (hS : va_S (mF b) H0 H locs)
    (kk : ∀ (r : Int32) (M1 : mM) (H1 : Heap) (locs1 : List Loc), post r M1 → mG D b M1 s H1 → va_S (mF b) H0 H1 locs1 → W p l e R s m args below meth c H1 locs1 (cells + mc) (slots + ms) Q (F0 m (pc + 3) ls (.int r :: rest))) : W p l e R s m args below meth c H locs cells slots Q (F0 m pc ls st0) :=
  va_calli hr hS (fun q _ h => h) (fun q h => h) (fun r u t H1 locs1 ht hvm hw hB hz hk hS1 => kk r u H1 locs1 hw (by rw [← ht]; exact hB.moved hvm.symm) hS1)
theorem m_calll {post : Int64 → mM → Prop} (hr : va_Run p l e R s m args below meth c H locs cells slots mc ms (F0 m pc ls st0) rest (mQl D b post ar) (mF b)) (hS : va_S (mF b) H0 H locs)
    (kk : ∀ (r : Int64) (M1 : mM) (H1 : Heap) (locs1 : List Loc), post r M1 → mG D b M1 s H1 → va_S (mF b) H0 H1 locs1 → W p l e R s m args below meth c H1 locs1 (cells + mc) (slots + ms) Q (F0 m (pc + 3) ls (.long r :: rest))) : W p l e R s m args below meth c H locs cells slots Q (F0 m pc ls st0) :=
  va_calll hr hS (fun q _ h => h) (fun q h => h) (fun r u t H1 locs1 ht hvm hw hB hz hk hS1 => kk r u H1 locs1 hw (by rw [← ht]; exact hB.moved hvm.symm) hS1)
theorem m_callv {post : mM → Prop} (hr : va_Run p l e R s m args below meth c H locs cells slots mc ms (F0 m pc ls st0) rest (mQv D b post ar) (mF b)) (hS : va_S (mF b) H0 H locs)
    (kk : ∀ (M1 : mM) (H1 : Heap) (locs1 : List Loc), post M1 → mG D b M1 s H1 → va_S (mF b) H0 H1 locs1 → W p l e R s m args below meth c H1 locs1 (cells + mc) (slots + ms) Q (F0 m (pc + 3) ls rest)) : W p l e R s m args below meth c H locs cells slots Q (F0 m pc ls st0) :=
  va_callv hr hS (fun q _ h => h) (fun q h => h) (fun u t H1 locs1 ht hvm hw hB hz hk hS1 => kk u H1 locs1 hw (by rw [← ht]; exact hB.moved hvm.symm) hS1)
theorem m_callq {post : Option Nat → mM → Prop} (hr : va_Run p l e R s m args below meth c H locs cells slots mc ms (F0 m pc ls st0) rest (mQq D b post ar) (mF b)) (hS : va_S (mF b) H0 H locs)
    (kk : ∀ (r : Option Nat) (M1 : mM) (H1 : Heap) (locs1 : List Loc), post r M1 → mG D b M1 s H1 → va_S (mF b) H0 H1 locs1 → W p l e R s m args below meth c H1 locs1 (cells + mc) (slots + ms) Q (F0 m (pc + 3) ls (va_rf r :: rest))) : W p l e R s m args below meth c H locs cells slots Q (F0 m pc ls st0) :=
  va_callq hr hS (fun q _ h => h) (fun q h => h) (fun r u t H1 locs1 ht hvm hw hB hz hk hS1 => kk r u H1 locs1 hw (by rw [← ht]; exact hB.moved hvm.symm) hS1)
/-- answers and maps by a formula -/
def fI (z : Int) (M : mM) : Int32 → mM → Prop := fun r M1 => r = iI z ∧ M1 = M
def fL (q : Nat → Bool) (M : mM) : Int64 → mM → Prop := fun r M1 => r = bO q ∧ M1 = M
def fV (M : mM) : mM → Prop := fun M1 => M1 = M
def fQ (y : Option Nat) (M : mM) : Option Nat → mM → Prop := fun r M1 => r = y ∧ M1 = M
theorem m_callfi {z : Int} {M2 : mM} (hr : va_Run p l e R s m args below meth c H locs cells slots mc ms (F0 m pc ls st0) rest (mQi D b (fI z M2) ar) (mF b)) (hS : va_S (mF b) H0 H locs)
    (kk : ∀ (H1 : Heap) (locs1 : List Loc), mG D b M2 s H1 → va_S (mF b) H0 H1 locs1 → W p l e R s m args below meth c H1 locs1 (cells + mc) (slots + ms) Q (F0 m (pc + 3) ls (.int (iI z) :: rest))) : W p l e R s m args below meth c H locs cells slots Q (F0 m pc ls st0) :=
  m_calli hr hS (fun r M1 H1 locs1 hw hG hS1 => by rw [hw.1]; rw [hw.2] at hG; exact kk H1 locs1 hG hS1)
theorem m_callfl {z : Nat → Bool} {M2 : mM} (hr : va_Run p l e R s m args below meth c H locs cells slots mc ms (F0 m pc ls st0) rest (mQl D b (fL z M2) ar) (mF b)) (hS : va_S (mF b) H0 H locs)
    (kk : ∀ (H1 : Heap) (locs1 : List Loc), mG D b M2 s H1 → va_S (mF b) H0 H1 locs1 → W p l e R s m args below meth c H1 locs1 (cells + mc) (slots + ms) Q (F0 m (pc + 3) ls (.long (bO z) :: rest))) : W p l e R s m args below meth c H locs cells slots Q (F0 m pc ls st0) :=
  m_calll hr hS (fun r M1 H1 locs1 hw hG hS1 => by rw [hw.1]; rw [hw.2] at hG; exact kk H1 locs1 hG hS1)
theorem m_callfv {M2 : mM} (hr : va_Run p l e R s m args below meth c H locs cells slots mc ms (F0 m pc ls st0) rest (mQv D b (fV M2) ar) (mF b)) (hS : va_S (mF b) H0 H locs)
    (kk : ∀ (H1 : Heap) (locs1 : List Loc), mG D b M2 s H1 → va_S (mF b) H0 H1 locs1 → W p l e R s m args below meth c H1 locs1 (cells + mc) (slots + ms) Q (F0 m (pc + 3) ls rest)) : W p l e R s m args below meth c H locs cells slots Q (F0 m pc ls st0) :=
  m_callv hr hS (fun M1 H1 locs1 hw hG hS1 => by rw [show M1 = M2 from hw] at hG; exact kk H1 locs1 hG hS1)
theorem m_callfq {y : Option Nat} {M2 : mM} (hr : va_Run p l e R s m args below meth c H locs cells slots mc ms (F0 m pc ls st0) rest (mQq D b (fQ y M2) ar) (mF b)) (hS : va_S (mF b) H0 H locs)
    (kk : ∀ (H1 : Heap) (locs1 : List Loc), mG D b M2 s H1 → va_S (mF b) H0 H1 locs1 → W p l e R s m args below meth c H1 locs1 (cells + mc) (slots + ms) Q (F0 m (pc + 3) ls (va_rf y :: rest))) : W p l e R s m args below meth c H locs cells slots Q (F0 m pc ls st0) :=
  m_callq hr hS (fun r M1 H1 locs1 hw hG hS1 => by rw [hw.1]; rw [hw.2] at hG; exact kk H1 locs1 hG hS1)
/-- Math.max, Math.min -/
theorem m_mmax (hx : p.tables.exec = Jvm.exec) (hb : c.code = cc) (hml : c.maxLocals = ls.size) (hts : ∀ w ∈ Ts, w.before args s = true) (hown : s.vm.findClass own = some m.cls) (hlink : (Cond.methodLink own index Lib.Math.max.name) ∈ Ts) (hstat : (Cond.static Lib.Math.max.name) ∈ Ts) (hini : (Cond.initialized "java/lang/Math") ∈ Ts) (hcode : (Cond.code Lib.Math.max.name Lib.Math.max.code 2 (some .int)) ∈ Ts)
    (hframes : 1 ≤ R.frames) (hlocals : (rest.map fun v => v.category).sum + 13 ≤ R.locals) (hc : cells ≤ R.cells) (hs : slots ≤ R.slots) {x y : Int} (h1 : rg x) (h2 : rg y) (hdg : decode cc pc = .ok (.invokestatic index, 3))
    (kk : W p l e R s m args below meth c H locs cells slots Q (F0 m (pc + 3) ls (.int (iI (max x y)) :: rest))) : W p l e R s m args below meth c H locs cells slots Q (F0 m pc ls (.int (iI y) :: .int (iI x) :: rest)) := by
  refine va_mmax hx hb hml hown (hts _ hlink) (hts _ hstat) (hts _ hini) (hts _ hcode) hframes hlocals hc hs hdg ?_
  have e1 : (if iI x < iI y then iI y else iI x) = iI (max x y) := by
    by_cases h : x < y
    · rw [if_pos ((iI_lt h1 h2).mpr h), show max x y = y by omega]
    · rw [if_neg (fun z => h ((iI_lt h1 h2).mp z)), show max x y = x by omega]
  rw [e1]
  exact kk
theorem m_mmin (hx : p.tables.exec = Jvm.exec) (hb : c.code = cc) (hml : c.maxLocals = ls.size) (hts : ∀ w ∈ Ts, w.before args s = true) (hown : s.vm.findClass own = some m.cls) (hlink : (Cond.methodLink own index Lib.Math.min.name) ∈ Ts) (hstat : (Cond.static Lib.Math.min.name) ∈ Ts) (hini : (Cond.initialized "java/lang/Math") ∈ Ts) (hcode : (Cond.code Lib.Math.min.name Lib.Math.min.code 2 (some .int)) ∈ Ts)
    (hframes : 1 ≤ R.frames) (hlocals : (rest.map fun v => v.category).sum + 13 ≤ R.locals) (hc : cells ≤ R.cells) (hs : slots ≤ R.slots) {x y : Int} (h1 : rg x) (h2 : rg y) (hdg : decode cc pc = .ok (.invokestatic index, 3))
    (kk : W p l e R s m args below meth c H locs cells slots Q (F0 m (pc + 3) ls (.int (iI (min x y)) :: rest))) : W p l e R s m args below meth c H locs cells slots Q (F0 m pc ls (.int (iI y) :: .int (iI x) :: rest)) := by
  refine va_mmin hx hb hml hown (hts _ hlink) (hts _ hstat) (hts _ hini) (hts _ hcode) hframes hlocals hc hs hdg ?_
  have e1 : (if iI y < iI x then iI y else iI x) = iI (min x y) := by
    by_cases h : y < x
    · rw [if_pos ((iI_lt h2 h1).mpr h), show min x y = y by omega]
    · rw [if_neg (fun z => h ((iI_lt h2 h1).mp z)), show min x y = x by omega]
  rw [e1]
  exact kk
/-- the same number, said otherwise -/
theorem m_top {x y : Int} (h : x = y) (k : W p l e R s m args below meth c H locs cells slots Q (F0 m pc ls (.int (iI y) :: rest))) : W p l e R s m args below meth c H locs cells slots Q (F0 m pc ls (.int (iI x) :: rest)) := by rw [h]; exact k
theorem m_topl {x y : Int64} (h : x = y) (k : W p l e R s m args below meth c H locs cells slots Q (F0 m pc ls (.long y :: rest))) : W p l e R s m args below meth c H locs cells slots Q (F0 m pc ls (.long x :: rest)) := by rw [h]; exact k
/-- switches -/
theorem m_tabOut (hx : p.tables.exec = Jvm.exec) (hb : c.code = cc) {dflt lo hi : Int} {offs : Array Int} {len : Nat} {x : Int} {tgt : Nat} (hdg : decode cc pc = .ok (.tableswitch dflt lo hi offs, len)) (h0 : rg x) (h : x < lo ∨ hi < x) (ht : (pc : Int) + dflt = (tgt : Int))
    (k : W p l e R s m args below meth c H locs cells slots Q (F0 m tgt ls rest)) : W p l e R s m args below meth c H locs cells slots Q (F0 m pc ls (.int (iI x) :: rest)) := lv_tableOut hx hb hdg (by rw [iI_int h0]; exact h) ht k
theorem m_tabIn (hx : p.tables.exec = Jvm.exec) (hb : c.code = cc) {dflt lo hi : Int} {offs : Array Int} {len : Nat} {x : Int} {off : Int} {tgt : Nat} (hdg : decode cc pc = .ok (.tableswitch dflt lo hi offs, len)) (h0 : rg x) (h1 : ¬ x < lo) (h2 : ¬ hi < x) (ho : offs[(x - lo).toNat]? = some off) (ht : (pc : Int) + off = (tgt : Int))
    (k : W p l e R s m args below meth c H locs cells slots Q (F0 m tgt ls rest)) : W p l e R s m args below meth c H locs cells slots Q (F0 m pc ls (.int (iI x) :: rest)) := lv_tableIn hx hb hdg (by rw [iI_int h0]; exact h1) (by rw [iI_int h0]; exact h2) (by rw [iI_int h0]; exact ho) ht k
theorem m_lookup (hx : p.tables.exec = Jvm.exec) (hb : c.code = cc) {dflt : Int} {ps : Array (Int × Int)} {len : Nat} {x : Int} {off : Int} {tgt : Nat} (hdg : decode cc pc = .ok (.lookupswitch dflt ps, len)) (hp : (ps.toList.zip (ps.toList.drop 1)).all (fun (a, next) => a.1 < next.1) = true) (h0 : rg x) (ho : Op.lookupswitch.offset ps.toList dflt x = off) (ht : (pc : Int) + off = (tgt : Int))
    (k : W p l e R s m args below meth c H locs cells slots Q (F0 m tgt ls rest)) : W p l e R s m args below meth c H locs cells slots Q (F0 m pc ls (.int (iI x) :: rest)) := lv_lookup hx hb hdg hp (by rw [iI_int h0]; exact ho) ht k
end MC
