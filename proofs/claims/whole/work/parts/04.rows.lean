section MR
variable {p : Program} {l : Launch} {e : Env} {R : Room} {s : State} {m : MethodId} {args : Array Value} {below : List Frame} {meth : Method} {c : Code} {H : Heap} {locs : List Loc} {cells slots : Nat} {Q : State → Prop}
variable {cc : ByteArray} {pc : Nat} {ls : Array Slot} {rest : List Value} {D : va_G} {a b : Nat} {M : mM} {H0 : Heap} {nL : Nat} {Ts : List Cond} {own : String}
theorem m_iadd (hx : p.tables.exec = Jvm.exec) (hb : c.code = cc) {x y : Int} (hdg : decode cc pc = .ok (.iadd, 1)) (k : W p l e R s m args below meth c H locs cells slots Q (F0 m (pc + 1) ls (.int (iI (x + y)) :: rest))) : W p l e R s m args below meth c H locs cells slots Q (F0 m pc ls (.int (iI y) :: .int (iI x) :: rest)) := lv_iadd hx hb hdg (by rw [← iI_add]; exact k)
theorem m_isub (hx : p.tables.exec = Jvm.exec) (hb : c.code = cc) {x y : Int} (hdg : decode cc pc = .ok (.isub, 1)) (k : W p l e R s m args below meth c H locs cells slots Q (F0 m (pc + 1) ls (.int (iI (x - y)) :: rest))) : W p l e R s m args below meth c H locs cells slots Q (F0 m pc ls (.int (iI y) :: .int (iI x) :: rest)) := lv_isub hx hb hdg (by rw [← iI_sub]; exact k)
theorem m_imul (hx : p.tables.exec = Jvm.exec) (hb : c.code = cc) {x y : Int} (hdg : decode cc pc = .ok (.imul, 1)) (k : W p l e R s m args below meth c H locs cells slots Q (F0 m (pc + 1) ls (.int (iI (x * y)) :: rest))) : W p l e R s m args below meth c H locs cells slots Q (F0 m pc ls (.int (iI y) :: .int (iI x) :: rest)) := lv_imul hx hb hdg (by rw [← iI_mul]; exact k)
theorem m_ineg (hx : p.tables.exec = Jvm.exec) (hb : c.code = cc) {x : Int} (hdg : decode cc pc = .ok (.ineg, 1)) (k : W p l e R s m args below meth c H locs cells slots Q (F0 m (pc + 1) ls (.int (iI (-x)) :: rest))) : W p l e R s m args below meth c H locs cells slots Q (F0 m pc ls (.int (iI x) :: rest)) := lv_ineg hx hb hdg (by rw [← iI_neg]; exact k)
theorem m_idiv (hx : p.tables.exec = Jvm.exec) (hb : c.code = cc) {x y : Int} (hdg : decode cc pc = .ok (.idiv, 1)) (h1 : 0 ≤ x ∧ x < 2147483648) (h2 : 0 < y ∧ y < 2147483648) (k : W p l e R s m args below meth c H locs cells slots Q (F0 m (pc + 1) ls (.int (iI (x / y)) :: rest))) : W p l e R s m args below meth c H locs cells slots Q (F0 m pc ls (.int (iI y) :: .int (iI x) :: rest)) := lv_idiv hx hb hdg (fun h => by have := (iI_eq (a := y) (b := 0) ⟨by omega, by omega⟩ ⟨by omega, by omega⟩).mp h; omega) (by rw [iI_div h1.1 h1.2 h2.1 h2.2]; exact k)
theorem m_irem (hx : p.tables.exec = Jvm.exec) (hb : c.code = cc) {x y : Int} (hdg : decode cc pc = .ok (.irem, 1)) (h1 : 0 ≤ x ∧ x < 2147483648) (h2 : 0 < y ∧ y < 2147483648) (k : W p l e R s m args below meth c H locs cells slots Q (F0 m (pc + 1) ls (.int (iI (x % y)) :: rest))) : W p l e R s m args below meth c H locs cells slots Q (F0 m pc ls (.int (iI y) :: .int (iI x) :: rest)) := lv_irem hx hb hdg (fun h => by have := (iI_eq (a := y) (b := 0) ⟨by omega, by omega⟩ ⟨by omega, by omega⟩).mp h; omega) (by rw [iI_rem h1.1 h1.2 h2.1 h2.2]; exact k)
theorem m_iinc (hx : p.tables.exec = Jvm.exec) (hb : c.code = cc) {i k : Nat} {n x : Int} {lv lv' : List (Nat × Value)} (hdg : decode cc pc = .ok (.iinc i n, 3)) (h : lv_has ls nL lv) (hk : lv[k]? = some (i, .int (iI x))) (hn : i < nL) (hl : (i, Value.int (iI (x + n))) :: lv.filter (fun q => !(q.1 == i) && !(q.1 + 1 == i && q.2.category == 2)) = lv')
    (kk : ∀ ls' : Array Slot, lv_has ls' nL lv' → W p l e R s m args below meth c H locs cells slots Q (F0 m (pc + 3) ls' rest)) : W p l e R s m args below meth c H locs cells slots Q (F0 m pc ls rest) := lv_iinc hx hb hdg h hk (iI_add x n).symm hn hl kk
theorem m_icmp_eq (hx : p.tables.exec = Jvm.exec) (hb : c.code = cc) {x y off : Int} {tgt : Nat} (hdg : decode cc pc = .ok (.if_icmp .eq off, 3)) (ht : (pc : Int) + off = (tgt : Int)) (h1 : rg x) (h2 : rg y)
    (kt : x = y → W p l e R s m args below meth c H locs cells slots Q (F0 m tgt ls rest)) (kf : ¬ x = y → W p l e R s m args below meth c H locs cells slots Q (F0 m (pc + 3) ls rest)) : W p l e R s m args below meth c H locs cells slots Q (F0 m pc ls (.int (iI y) :: .int (iI x) :: rest)) := lv_icmp_eq hx hb hdg ht (fun h => kt ((iI_eq h1 h2).mp h)) (fun h => kf (fun z => h ((iI_eq h1 h2).mpr z)))
theorem m_icmp_ne (hx : p.tables.exec = Jvm.exec) (hb : c.code = cc) {x y off : Int} {tgt : Nat} (hdg : decode cc pc = .ok (.if_icmp .ne off, 3)) (ht : (pc : Int) + off = (tgt : Int)) (h1 : rg x) (h2 : rg y)
    (kt : ¬ x = y → W p l e R s m args below meth c H locs cells slots Q (F0 m tgt ls rest)) (kf : x = y → W p l e R s m args below meth c H locs cells slots Q (F0 m (pc + 3) ls rest)) : W p l e R s m args below meth c H locs cells slots Q (F0 m pc ls (.int (iI y) :: .int (iI x) :: rest)) := lv_icmp_ne hx hb hdg ht (fun h => kt (fun z => h ((iI_eq h1 h2).mpr z))) (fun h => kf ((iI_eq h1 h2).mp h))
theorem m_icmp_lt (hx : p.tables.exec = Jvm.exec) (hb : c.code = cc) {x y off : Int} {tgt : Nat} (hdg : decode cc pc = .ok (.if_icmp .lt off, 3)) (ht : (pc : Int) + off = (tgt : Int)) (h1 : rg x) (h2 : rg y)
    (kt : x < y → W p l e R s m args below meth c H locs cells slots Q (F0 m tgt ls rest)) (kf : ¬ x < y → W p l e R s m args below meth c H locs cells slots Q (F0 m (pc + 3) ls rest)) : W p l e R s m args below meth c H locs cells slots Q (F0 m pc ls (.int (iI y) :: .int (iI x) :: rest)) := lv_icmp_lt hx hb hdg ht (fun h => kt ((iI_lt h1 h2).mp h)) (fun h => kf (fun z => h ((iI_lt h1 h2).mpr z)))
theorem m_icmp_le (hx : p.tables.exec = Jvm.exec) (hb : c.code = cc) {x y off : Int} {tgt : Nat} (hdg : decode cc pc = .ok (.if_icmp .le off, 3)) (ht : (pc : Int) + off = (tgt : Int)) (h1 : rg x) (h2 : rg y)
    (kt : x ≤ y → W p l e R s m args below meth c H locs cells slots Q (F0 m tgt ls rest)) (kf : ¬ x ≤ y → W p l e R s m args below meth c H locs cells slots Q (F0 m (pc + 3) ls rest)) : W p l e R s m args below meth c H locs cells slots Q (F0 m pc ls (.int (iI y) :: .int (iI x) :: rest)) := lv_icmp_le hx hb hdg ht (fun h => kt ((iI_le h1 h2).mp h)) (fun h => kf (fun z => h ((iI_le h1 h2).mpr z)))
theorem m_icmp_gt (hx : p.tables.exec = Jvm.exec) (hb : c.code = cc) {x y off : Int} {tgt : Nat} (hdg : decode cc pc = .ok (.if_icmp .gt off, 3)) (ht : (pc : Int) + off = (tgt : Int)) (h1 : rg x) (h2 : rg y)
    (kt : y < x → W p l e R s m args below meth c H locs cells slots Q (F0 m tgt ls rest)) (kf : ¬ y < x → W p l e R s m args below meth c H locs cells slots Q (F0 m (pc + 3) ls rest)) : W p l e R s m args below meth c H locs cells slots Q (F0 m pc ls (.int (iI y) :: .int (iI x) :: rest)) := lv_icmp_gt hx hb hdg ht (fun h => kt ((iI_lt h2 h1).mp h)) (fun h => kf (fun z => h ((iI_lt h2 h1).mpr z)))
theorem m_icmp_ge (hx : p.tables.exec = Jvm.exec) (hb : c.code = cc) {x y off : Int} {tgt : Nat} (hdg : decode cc pc = .ok (.if_icmp .ge off, 3)) (ht : (pc : Int) + off = (tgt : Int)) (h1 : rg x) (h2 : rg y)
    (kt : y ≤ x → W p l e R s m args below meth c H locs cells slots Q (F0 m tgt ls rest)) (kf : ¬ y ≤ x → W p l e R s m args below meth c H locs cells slots Q (F0 m (pc + 3) ls rest)) : W p l e R s m args below meth c H locs cells slots Q (F0 m pc ls (.int (iI y) :: .int (iI x) :: rest)) := lv_icmp_ge hx hb hdg ht (fun h => kt ((iI_le h2 h1).mp h)) (fun h => kf (fun z => h ((iI_le h2 h1).mpr z)))
theorem m_if_eq (hx : p.tables.exec = Jvm.exec) (hb : c.code = cc) {x off : Int} {tgt : Nat} (hdg : decode cc pc = .ok (.ifCond .eq off, 3)) (ht : (pc : Int) + off = (tgt : Int)) (h1 : rg x)
    (kt : x = 0 → W p l e R s m args below meth c H locs cells slots Q (F0 m tgt ls rest)) (kf : ¬ x = 0 → W p l e R s m args below meth c H locs cells slots Q (F0 m (pc + 3) ls rest)) : W p l e R s m args below meth c H locs cells slots Q (F0 m pc ls (.int (iI x) :: rest)) := lv_if_eq hx hb hdg ht (fun h => kt ((iI_eq (b := 0) h1 ⟨by omega, by omega⟩).mp h)) (fun h => kf (fun z => h ((iI_eq (b := 0) h1 ⟨by omega, by omega⟩).mpr z)))
theorem m_if_ne (hx : p.tables.exec = Jvm.exec) (hb : c.code = cc) {x off : Int} {tgt : Nat} (hdg : decode cc pc = .ok (.ifCond .ne off, 3)) (ht : (pc : Int) + off = (tgt : Int)) (h1 : rg x)
    (kt : ¬ x = 0 → W p l e R s m args below meth c H locs cells slots Q (F0 m tgt ls rest)) (kf : x = 0 → W p l e R s m args below meth c H locs cells slots Q (F0 m (pc + 3) ls rest)) : W p l e R s m args below meth c H locs cells slots Q (F0 m pc ls (.int (iI x) :: rest)) := lv_if_ne hx hb hdg ht (fun h => kt (fun z => h ((iI_eq (b := 0) h1 ⟨by omega, by omega⟩).mpr z))) (fun h => kf ((iI_eq (b := 0) h1 ⟨by omega, by omega⟩).mp h))
theorem m_if_lt (hx : p.tables.exec = Jvm.exec) (hb : c.code = cc) {x off : Int} {tgt : Nat} (hdg : decode cc pc = .ok (.ifCond .lt off, 3)) (ht : (pc : Int) + off = (tgt : Int)) (h1 : rg x)
    (kt : x < 0 → W p l e R s m args below meth c H locs cells slots Q (F0 m tgt ls rest)) (kf : ¬ x < 0 → W p l e R s m args below meth c H locs cells slots Q (F0 m (pc + 3) ls rest)) : W p l e R s m args below meth c H locs cells slots Q (F0 m pc ls (.int (iI x) :: rest)) := lv_if_lt hx hb hdg ht (fun h => kt ((iI_lt (b := 0) h1 ⟨by omega, by omega⟩).mp h)) (fun h => kf (fun z => h ((iI_lt (b := 0) h1 ⟨by omega, by omega⟩).mpr z)))
theorem m_if_ge (hx : p.tables.exec = Jvm.exec) (hb : c.code = cc) {x off : Int} {tgt : Nat} (hdg : decode cc pc = .ok (.ifCond .ge off, 3)) (ht : (pc : Int) + off = (tgt : Int)) (h1 : rg x)
    (kt : 0 ≤ x → W p l e R s m args below meth c H locs cells slots Q (F0 m tgt ls rest)) (kf : ¬ 0 ≤ x → W p l e R s m args below meth c H locs cells slots Q (F0 m (pc + 3) ls rest)) : W p l e R s m args below meth c H locs cells slots Q (F0 m pc ls (.int (iI x) :: rest)) := lv_if_ge hx hb hdg ht (fun h => kt ((iI_le (a := 0) ⟨by omega, by omega⟩ h1).mp h)) (fun h => kf (fun z => h ((iI_le (a := 0) ⟨by omega, by omega⟩ h1).mpr z)))
theorem m_if_gt (hx : p.tables.exec = Jvm.exec) (hb : c.code = cc) {x off : Int} {tgt : Nat} (hdg : decode cc pc = .ok (.ifCond .gt off, 3)) (ht : (pc : Int) + off = (tgt : Int)) (h1 : rg x)
    (kt : 0 < x → W p l e R s m args below meth c H locs cells slots Q (F0 m tgt ls rest)) (kf : ¬ 0 < x → W p l e R s m args below meth c H locs cells slots Q (F0 m (pc + 3) ls rest)) : W p l e R s m args below meth c H locs cells slots Q (F0 m pc ls (.int (iI x) :: rest)) := lv_if_gt hx hb hdg ht (fun h => kt ((iI_lt (a := 0) ⟨by omega, by omega⟩ h1).mp h)) (fun h => kf (fun z => h ((iI_lt (a := 0) ⟨by omega, by omega⟩ h1).mpr z)))
theorem m_if_le (hx : p.tables.exec = Jvm.exec) (hb : c.code = cc) {x off : Int} {tgt : Nat} (hdg : decode cc pc = .ok (.ifCond .le off, 3)) (ht : (pc : Int) + off = (tgt : Int)) (h1 : rg x)
    (kt : x ≤ 0 → W p l e R s m args below meth c H locs cells slots Q (F0 m tgt ls rest)) (kf : ¬ x ≤ 0 → W p l e R s m args below meth c H locs cells slots Q (F0 m (pc + 3) ls rest)) : W p l e R s m args below meth c H locs cells slots Q (F0 m pc ls (.int (iI x) :: rest)) := lv_if_le hx hb hdg ht (fun h => kt ((iI_le (b := 0) h1 ⟨by omega, by omega⟩).mp h)) (fun h => kf (fun z => h ((iI_le (b := 0) h1 ⟨by omega, by omega⟩).mpr z)))
/-- a boolean on the stack, tested -/
theorem rg_if {P : Prop} [Decidable P] : rg (if P then (1 : Int) else 0) := by split <;> exact ⟨by omega, by omega⟩
theorem m_ifb_eq (hx : p.tables.exec = Jvm.exec) (hb : c.code = cc) {P : Prop} [Decidable P] {off : Int} {tgt : Nat} (hdg : decode cc pc = .ok (.ifCond .eq off, 3)) (ht : (pc : Int) + off = (tgt : Int))
    (kt : ¬ P → W p l e R s m args below meth c H locs cells slots Q (F0 m tgt ls rest)) (kf : P → W p l e R s m args below meth c H locs cells slots Q (F0 m (pc + 3) ls rest)) : W p l e R s m args below meth c H locs cells slots Q (F0 m pc ls (.int (iI (if P then 1 else 0)) :: rest)) := m_if_eq hx hb hdg ht rg_if (fun h => kt (fun z => by rw [if_pos z] at h; omega)) (fun h => kf (by
    rcases Classical.em P with z | z
    · exact z
    · rw [if_neg z] at h; omega))
theorem m_ifb_ne (hx : p.tables.exec = Jvm.exec) (hb : c.code = cc) {P : Prop} [Decidable P] {off : Int} {tgt : Nat} (hdg : decode cc pc = .ok (.ifCond .ne off, 3)) (ht : (pc : Int) + off = (tgt : Int))
    (kt : P → W p l e R s m args below meth c H locs cells slots Q (F0 m tgt ls rest)) (kf : ¬ P → W p l e R s m args below meth c H locs cells slots Q (F0 m (pc + 3) ls rest)) : W p l e R s m args below meth c H locs cells slots Q (F0 m pc ls (.int (iI (if P then 1 else 0)) :: rest)) := m_if_ne hx hb hdg ht rg_if (fun h => kt (by
    rcases Classical.em P with z | z
    · exact z
    · rw [if_neg z] at h; omega)) (fun h => kf (fun z => by rw [if_pos z] at h; omega))
/-- fields -/
theorem mP1 (hG : mG D b M s H) {o : Nat × List Value} (ha : M a = some (.inr o)) : va_P D vwCl [(a, .inr o)] H := by
  intro k q hk
  have h1 := (hG.2 a _ ha).2
  cases k with
  | zero => cases hk; exact h1
  | succ k => simp at hk
theorem m_get (hx : p.tables.exec = Jvm.exec) (hb : c.code = cc) {C : String} {T : u_T} {N ci index : Nat} (hts : ∀ w ∈ Ts, w.before args s = true) (hin : ∀ w ∈ u_ws C T N, w ∈ Ts) (hown : s.vm.findClass own = some m.cls) (K : mS D s) (hG : mG D b M s H) {fs : List Value} (ha : M a = some (.inr (ci, fs))) (hc : vwCl[ci]? = some (C, T, N)) (k : Nat) (hk : k < N) (hlink : (Cond.fieldLink own index (T k).1 (T k).2.1 (T k).2.2.1) ∈ Ts) {v : Value} (hv : fs[k]? = some v) (hdg : decode cc pc = .ok (.getfield index, 3))
    (kk : W p l e R s m args below meth c H locs cells slots Q (F0 m (pc + 3) ls (v :: rest))) : W p l e R s m args below meth c H locs cells slots Q (F0 m pc ls (.ref a :: rest)) :=
  va_get hx hb hts hin hown K.1 (mP1 hG ha) 0 rfl hc k hk (hts _ hlink) (fun _ h => h) hv hdg kk
theorem m_getN (hx : p.tables.exec = Jvm.exec) (hb : c.code = cc) {C host : String} {T : u_T} {N ci index : Nat} (hts : ∀ w ∈ Ts, w.before args s = true) (hin : ∀ w ∈ u_ws C T N, w ∈ Ts) (hown : s.vm.findClass own = some m.cls) (K : mS D s) (hG : mG D b M s H) {fs : List Value} (ha : M a = some (.inr (ci, fs))) (hc : vwCl[ci]? = some (C, T, N)) (k : Nat) (hk : k < N) (hlink : va_Nw (Cond.fieldLinkNest own index (T k).1 (T k).2.1 (T k).2.2.1 host) s) {v : Value} (hv : fs[k]? = some v) (hdg : decode cc pc = .ok (.getfield index, 3))
    (kk : W p l e R s m args below meth c H locs cells slots Q (F0 m (pc + 3) ls (v :: rest))) : W p l e R s m args below meth c H locs cells slots Q (F0 m pc ls (.ref a :: rest)) :=
  va_getN hx hb hts hin hown K.1 (mP1 hG ha) 0 rfl hc k hk (hlink.use rfl) (fun _ h => h) hv hdg kk
theorem m_put (hx : p.tables.exec = Jvm.exec) (hb : c.code = cc) {C : String} {T : u_T} {N ci index : Nat} (hts : ∀ w ∈ Ts, w.before args s = true) (hin : ∀ w ∈ u_ws C T N, w ∈ Ts) (ty0 : Nat → FieldType) (hty : ∀ k, k < N → parseFieldDescriptor (T k).2.2.1 = some (ty0 k)) (hnm : ∀ a, a < N → ∀ b, b < N → a ≠ b → (T a).2.1 ≠ (T b).2.1) (hown : s.vm.findClass own = some m.cls) (K : mS D s) (hG : mG D b M s H) (hS0 : va_S (mF b) H0 H locs) {fs fs' : List Value} (ha : M a = some (.inr (ci, fs))) (hc : vwCl[ci]? = some (C, T, N)) (k : Nat) (hk : k < N) (hlink : (Cond.fieldLink own index (T k).1 (T k).2.1 (T k).2.2.1) ∈ Ts) (hfin : (T k).2.2.2 = false) {ty : FieldType} {v : Value} (hd : parseFieldDescriptor (T k).2.2.1 = some ty) (hn : narrow ty v = v) (hfit : fits ty v = true) (hl : k < fs.length) (hfs : fs.set k v = fs')
    (hdg : decode cc pc = .ok (.putfield index, 3)) (kk : ∀ (H1 : Heap) (locs1 : List Loc), mG D b (mset M a (.inr (ci, fs'))) s H1 → va_S (mF b) H0 H1 locs1 → W p l e R s m args below meth c H1 locs1 cells slots Q (F0 m (pc + 3) ls rest)) : W p l e R s m args below meth c H locs cells slots Q (F0 m pc ls (v :: .ref a :: rest)) := by
  subst hfs
  have hap := va_apart (own := own) hts hin ty0 hty hnm K.1 hc
  obtain ⟨hba, r, h1, cell, q1, q2, q3, q4⟩ := hG.2 a _ ha
  have hr : r = (C, T, N) := Option.some.inj (h1.symm.trans hc)
  subst hr
  obtain ⟨hS, hfc, kC, hkC, hkind⟩ := K.1.1 ci _ hc
  obtain ⟨cf, kf, fi, f, hi, hsl⟩ := hS k hk
  have hlay := hts _ (hin _ (u_in_lay hk))
  unfold u_lay at hlay
  rw [if_neg (by rw [hfin]; decide)] at hlay
  have hst := (u_facts hfc hkC (u_lays hts hin hk) hi).1
  have h6 := u_store hfc hkC hkind hlay hi hd hn hfit
  refine W.putK hx hb (f := f) ⟨hown, hts _ hlink, ⟨_, _, _, hi⟩, hst⟩ (by rw [q2]; exact h6) q1 q3 (by rw [hsl]; exact k2_hasslot (q4 k hk)) rfl rfl hdg fun H' e1 e2 e3 => ?_
  rw [hsl] at e1 ⊢
  exact kk H' _ (hG.set hba (v := .inr (ci, fs.set k v)) ⟨_, hc, t_OB.to (V := updV (vp_V fs) k v) ⟨_, e1, q2, q3, t_set q4 hap hk v⟩ (fun j _ => vp_updV_set hl v j)⟩ e2 e3) (hS0.put e2 e3 hba)
theorem m_putF (hx : p.tables.exec = Jvm.exec) (hb : c.code = cc) {C : String} {T : u_T} {N ci index : Nat} (hts : ∀ w ∈ Ts, w.before args s = true) (hin : ∀ w ∈ u_ws C T N, w ∈ Ts) (ty0 : Nat → FieldType) (hty : ∀ k, k < N → parseFieldDescriptor (T k).2.2.1 = some (ty0 k)) (hnm : ∀ a, a < N → ∀ b, b < N → a ≠ b → (T a).2.1 ≠ (T b).2.1) (hown : s.vm.findClass own = some m.cls) (K : mS D s) (hG : mG D b M s H) (hS0 : va_S (mF b) H0 H locs) {fs fs' : List Value} (ha : M a = some (.inr (ci, fs))) (hc : vwCl[ci]? = some (C, T, N)) (k : Nat) (hk : k < N) (hlink : (Cond.fieldLink own index (T k).1 (T k).2.1 (T k).2.2.1) ∈ Ts) (hfin : (T k).2.2.2 = true) (hin2 : meth.name = "<init>") (hdecl : (T k).1 = own) {ty : FieldType} {v : Value} (hd : parseFieldDescriptor (T k).2.2.1 = some ty) (hn : narrow ty v = v) (hfit : fits ty v = true) (hl : k < fs.length) (hfs : fs.set k v = fs')
    (hdg : decode cc pc = .ok (.putfield index, 3)) (kk : ∀ (H1 : Heap) (locs1 : List Loc), mG D b (mset M a (.inr (ci, fs'))) s H1 → va_S (mF b) H0 H1 locs1 → W p l e R s m args below meth c H1 locs1 cells slots Q (F0 m (pc + 3) ls rest)) : W p l e R s m args below meth c H locs cells slots Q (F0 m pc ls (v :: .ref a :: rest)) := by
  subst hfs
  have hap := va_apart (own := own) hts hin ty0 hty hnm K.1 hc
  obtain ⟨hba, r, h1, cell, q1, q2, q3, q4⟩ := hG.2 a _ ha
  have hr : r = (C, T, N) := Option.some.inj (h1.symm.trans hc)
  subst hr
  obtain ⟨hS, hfc, kC, hkC, hkind⟩ := K.1.1 ci _ hc
  obtain ⟨cf, kf, fi, f, hi, hsl⟩ := hS k hk
  have hlay := hts _ (hin _ (u_in_lay hk))
  unfold u_lay at hlay
  rw [if_pos hfin] at hlay
  have hst := (u_facts hfc hkC (u_lays hts hin hk) hi).1
  have hcf : m.cls = cf := by
    obtain ⟨_, _, c', _, _, _, -, -, hf', -, -, -, hown2, -⟩ := Cond.laysFinal_spec hlay
    have e1 : c' = cf := by have := hi.symm.trans hf'; simp at this; exact this.1.symm
    rw [hdecl] at hown2
    rw [← e1]; exact Option.some.inj (hown.symm.trans hown2)
  have h6 := u_fits hfc hkC hkind (Or.inr hlay) hi hd hn hfit
  refine W.putFinK hx hb hown (hts _ hlink) hi hst hcf hin2 (by rw [q2]; exact h6) q1 q3 (by rw [hsl]; exact k2_hasslot (q4 k hk)) rfl rfl hdg fun H' e1 e2 e3 => ?_
  rw [hsl] at e1 ⊢
  exact kk H' _ (hG.set hba (v := .inr (ci, fs.set k v)) ⟨_, hc, t_OB.to (V := updV (vp_V fs) k v) ⟨_, e1, q2, q3, t_set q4 hap hk v⟩ (fun j _ => vp_updV_set hl v j)⟩ e2 e3) (hS0.put e2 e3 hba)
/-- arrays, read -/
abbrev aI (n : Nat) (v : Nat → Int) : mE := .inl (.int, n, .inl (fun k => iI (v k)))
abbrev aZ (n : Nat) (v : Nat → Bool) : mE := .inl (.boolean, n, .inl (fun k => iI (if v k = true then 1 else 0)))
abbrev aL (n : Nat) (v : Nat → Nat → Bool) : mE := .inl (.long, n, .inr (.inl (fun k => bO (v k))))
abbrev aQ (C : String) (n : Nat) (v : Nat → Option Nat) : mE := .inl (.object C, n, .inr (.inr (.inr (.inr v))))
theorem m_iald (hx : p.tables.exec = Jvm.exec) (hb : c.code = cc) (hG : mG D b M s H) {n : Nat} {v : Nat → Int} (ha : M a = some (aI n v)) {i : Int} (j : Nat) (hj : i = (j : Int)) (hj2 : j < n) (hn : n < 2147483648) (hdg : decode cc pc = .ok (.iaload, 1))
    (kk : W p l e R s m args below meth c H locs cells slots Q (F0 m (pc + 1) ls (.int (iI (v j)) :: rest))) : W p l e R s m args below meth c H locs cells slots Q (F0 m pc ls (.int (iI i) :: .ref a :: rest)) := by
  obtain ⟨-, cA, ⟨h1, -⟩, h3⟩ := hG.2 a _ ha
  have hin := iI_in hj hj2 hn
  have hcl := iI_cl hj hj2 hn
  exact W.iald (v := .int (iI (v j))) hx hb h3 (h1 n (fun k => .int (iI (v k)))) (fun q => by cases q) (by show ¬ (_ < 0 ∨ (arrV _ _ _).slots.size ≤ _); rw [arrV_size]; exact hin) (by show (arrV _ _ _).slots[_]? = _; rw [hcl, arrV_read _ _ hj2]) rfl rfl hdg kk
theorem m_zald (hx : p.tables.exec = Jvm.exec) (hb : c.code = cc) (hG : mG D b M s H) {n : Nat} {v : Nat → Bool} (ha : M a = some (aZ n v)) {i : Int} (j : Nat) (hj : i = (j : Int)) (hj2 : j < n) (hn : n < 2147483648) (hdg : decode cc pc = .ok (.baload, 1))
    (kk : W p l e R s m args below meth c H locs cells slots Q (F0 m (pc + 1) ls (.int (iI (if v j = true then 1 else 0)) :: rest))) : W p l e R s m args below meth c H locs cells slots Q (F0 m pc ls (.int (iI i) :: .ref a :: rest)) := by
  obtain ⟨-, cA, ⟨h1, -⟩, h3⟩ := hG.2 a _ ha
  have hin := iI_in hj hj2 hn
  have hcl := iI_cl hj hj2 hn
  exact W.zald (v := .int (iI (if v j = true then 1 else 0))) hx hb h3 (h1 n (fun k => .int (iI (if v k = true then 1 else 0)))) (fun q => by cases q) (by show ¬ (_ < 0 ∨ (arrV _ _ _).slots.size ≤ _); rw [arrV_size]; exact hin) (by show (arrV _ _ _).slots[_]? = _; rw [hcl, arrV_read _ _ hj2]) rfl rfl hdg kk
theorem m_lald (hx : p.tables.exec = Jvm.exec) (hb : c.code = cc) (hG : mG D b M s H) {n : Nat} {v : Nat → Nat → Bool} (ha : M a = some (aL n v)) {i : Int} (j : Nat) (hj : i = (j : Int)) (hj2 : j < n) (hn : n < 2147483648) (hdg : decode cc pc = .ok (.laload, 1))
    (kk : W p l e R s m args below meth c H locs cells slots Q (F0 m (pc + 1) ls (.long (bO (v j)) :: rest))) : W p l e R s m args below meth c H locs cells slots Q (F0 m pc ls (.int (iI i) :: .ref a :: rest)) := by
  obtain ⟨-, cA, ⟨h1, -⟩, h3⟩ := hG.2 a _ ha
  have hin := iI_in hj hj2 hn
  have hcl := iI_cl hj hj2 hn
  exact W.lald (v := .long (bO (v j))) hx hb h3 (h1 n (fun k => .long (bO (v k)))) (fun q => by cases q) (by show ¬ (_ < 0 ∨ (arrV _ _ _).slots.size ≤ _); rw [arrV_size]; exact hin) (by show (arrV _ _ _).slots[_]? = _; rw [hcl, arrV_read _ _ hj2]) rfl rfl hdg kk
theorem m_aald (hx : p.tables.exec = Jvm.exec) (hb : c.code = cc) (hG : mG D b M s H) {C : String} {n : Nat} {v : Nat → Option Nat} (ha : M a = some (aQ C n v)) {i : Int} (j : Nat) (hj : i = (j : Int)) (hj2 : j < n) (hn : n < 2147483648) {y : Nat} (hy : v j = some y) (hdg : decode cc pc = .ok (.aaload, 1))
    (kk : W p l e R s m args below meth c H locs cells slots Q (F0 m (pc + 1) ls (.ref y :: rest))) : W p l e R s m args below meth c H locs cells slots Q (F0 m pc ls (.int (iI i) :: .ref a :: rest)) := by
  obtain ⟨-, cA, ⟨h1, -⟩, h3⟩ := hG.2 a _ ha
  have hin := iI_in hj hj2 hn
  have hcl := iI_cl hj hj2 hn
  exact W.aald (v := .ref y) (ty := .object C) hx hb h3 (h1 n (fun k => va_rf (v k))) rfl (fun q => by cases q) (by show ¬ (_ < 0 ∨ (arrV _ _ _).slots.size ≤ _); rw [arrV_size]; exact hin) (by show (arrV _ _ _).slots[_]? = _; rw [hcl, arrV_read _ _ hj2, hy]; rfl) rfl rfl hdg kk
theorem m_aaldN (hx : p.tables.exec = Jvm.exec) (hb : c.code = cc) (hG : mG D b M s H) {C : String} {n : Nat} {v : Nat → Option Nat} (ha : M a = some (aQ C n v)) {i : Int} (j : Nat) (hj : i = (j : Int)) (hj2 : j < n) (hn : n < 2147483648) (hy : v j = none) (hdg : decode cc pc = .ok (.aaload, 1))
    (kk : W p l e R s m args below meth c H locs cells slots Q (F0 m (pc + 1) ls (.null :: rest))) : W p l e R s m args below meth c H locs cells slots Q (F0 m pc ls (.int (iI i) :: .ref a :: rest)) := by
  obtain ⟨-, cA, ⟨h1, -⟩, h3⟩ := hG.2 a _ ha
  have hin := iI_in hj hj2 hn
  have hcl := iI_cl hj hj2 hn
  exact W.aald (v := .null) (ty := .object C) hx hb h3 (h1 n (fun k => va_rf (v k))) rfl (fun q => by cases q) (by show ¬ (_ < 0 ∨ (arrV _ _ _).slots.size ≤ _); rw [arrV_size]; exact hin) (by show (arrV _ _ _).slots[_]? = _; rw [hcl, arrV_read _ _ hj2, hy]; rfl) rfl rfl hdg kk
theorem m_qlen (hx : p.tables.exec = Jvm.exec) (hb : c.code = cc) (hG : mG D b M s H) {C : String} {n : Nat} {v : Nat → Option Nat} (ha : M a = some (aQ C n v)) {w : Int} (hw : Int32.ofNat n = iI w) (hdg : decode cc pc = .ok (.arraylength, 1))
    (kk : W p l e R s m args below meth c H locs cells slots Q (F0 m (pc + 1) ls (.int (iI w) :: rest))) : W p l e R s m args below meth c H locs cells slots Q (F0 m pc ls (.ref a :: rest)) := by
  obtain ⟨-, cA, ⟨h1, -⟩, h3⟩ := hG.2 a _ ha
  exact W.alen (n := iI w) hx hb h3 (h1 n (fun k => va_rf (v k))) (by rw [vp_cell_q, arrV_size]; exact hw) rfl rfl hdg kk
/-- arrays, written -/
theorem m_iast (hx : p.tables.exec = Jvm.exec) (hb : c.code = cc) (hG : mG D b M s H) (hS : va_S (mF b) H0 H locs) {n : Nat} {v : Nat → Int} (ha : M a = some (aI n v)) {i z : Int} (j : Nat) (hj : i = (j : Int)) (hj2 : j < n) (hn : n < 2147483648) (hdg : decode cc pc = .ok (.iastore, 1))
    (kk : ∀ (H1 : Heap) (locs1 : List Loc), mG D b (mset M a (aI n (va_up v j z))) s H1 → va_S (mF b) H0 H1 locs1 → W p l e R s m args below meth c H1 locs1 cells slots Q (F0 m (pc + 1) ls rest)) : W p l e R s m args below meth c H locs cells slots Q (F0 m pc ls (.int (iI z) :: .int (iI i) :: .ref a :: rest)) := by
  obtain ⟨hba, cA, ⟨h1, h2⟩, h3⟩ := hG.2 a _ ha
  have hin := iI_in hj hj2 hn
  have hcl := iI_cl hj hj2 hn
  refine W.iast hx hb h3 (h1 n (fun k => .int (iI (v k)))) (fun q => by cases q) (by show ¬ (_ < 0 ∨ (arrV _ _ _).slots.size ≤ _); rw [arrV_size]; exact hin) rfl rfl hdg fun H1 e1 z1 oq => ?_
  refine kk H1 _ (hG.set hba ⟨cA, ⟨h1, h2⟩, ?_⟩ z1 oq) (hS.put z1 oq hba)
  show H1[a]? = some (vp_cell _ _)
  rw [e1, vp_cell_i, vp_cell_i, arrV_store, hcl]
  congr 2
  funext q
  by_cases hq : q = j <;> simp [updV, va_up, hq]
theorem m_zast (hx : p.tables.exec = Jvm.exec) (hb : c.code = cc) (hG : mG D b M s H) (hS : va_S (mF b) H0 H locs) {n : Nat} {v : Nat → Bool} (ha : M a = some (aZ n v)) {i : Int} {P : Prop} [Decidable P] (j : Nat) (hj : i = (j : Int)) (hj2 : j < n) (hn : n < 2147483648) (hdg : decode cc pc = .ok (.bastore, 1))
    (kk : ∀ (H1 : Heap) (locs1 : List Loc), mG D b (mset M a (aZ n (va_up v j (decide P)))) s H1 → va_S (mF b) H0 H1 locs1 → W p l e R s m args below meth c H1 locs1 cells slots Q (F0 m (pc + 1) ls rest)) : W p l e R s m args below meth c H locs cells slots Q (F0 m pc ls (.int (iI (if P then 1 else 0)) :: .int (iI i) :: .ref a :: rest)) := by
  obtain ⟨hba, cA, ⟨h1, h2⟩, h3⟩ := hG.2 a _ ha
  have hin := iI_in hj hj2 hn
  have hcl := iI_cl hj hj2 hn
  have hnar : narrow .boolean (.int (iI (if P then 1 else 0))) = .int (iI (if P then 1 else 0)) := by split <;> decide
  refine W.zast hx hb h3 (h1 n (fun k => .int (iI (if v k = true then 1 else 0)))) (fun q => by cases q) (by show ¬ (_ < 0 ∨ (arrV _ _ _).slots.size ≤ _); rw [arrV_size]; exact hin) rfl rfl hdg fun H1 e1 z1 oq => ?_
  refine kk H1 _ (hG.set hba ⟨cA, ⟨h1, h2⟩, ?_⟩ z1 oq) (hS.put z1 oq hba)
  show H1[a]? = some (vp_cell _ _)
  rw [e1, vp_cell_i, vp_cell_i, arrV_store, hcl]
  congr 2
  funext q
  by_cases hq : q = j
  · simp only [updV, va_up, hq, if_true, decide_eq_true_eq]
    first | exact hnar | (rw [hnar])
  · simp [updV, va_up, hq]
theorem m_last (hx : p.tables.exec = Jvm.exec) (hb : c.code = cc) (hG : mG D b M s H) (hS : va_S (mF b) H0 H locs) {n : Nat} {v : Nat → Nat → Bool} (ha : M a = some (aL n v)) {i : Int} {z : Nat → Bool} (j : Nat) (hj : i = (j : Int)) (hj2 : j < n) (hn : n < 2147483648) (hdg : decode cc pc = .ok (.lastore, 1))
    (kk : ∀ (H1 : Heap) (locs1 : List Loc), mG D b (mset M a (aL n (va_up v j z))) s H1 → va_S (mF b) H0 H1 locs1 → W p l e R s m args below meth c H1 locs1 cells slots Q (F0 m (pc + 1) ls rest)) : W p l e R s m args below meth c H locs cells slots Q (F0 m pc ls (.long (bO z) :: .int (iI i) :: .ref a :: rest)) := by
  obtain ⟨hba, cA, ⟨h1, h2⟩, h3⟩ := hG.2 a _ ha
  have hin := iI_in hj hj2 hn
  have hcl := iI_cl hj hj2 hn
  refine W.last hx hb h3 (h1 n (fun k => .long (bO (v k)))) (fun q => by cases q) (by show ¬ (_ < 0 ∨ (arrV _ _ _).slots.size ≤ _); rw [arrV_size]; exact hin) rfl rfl hdg fun H1 e1 z1 oq => ?_
  refine kk H1 _ (hG.set hba ⟨cA, ⟨h1, h2⟩, ?_⟩ z1 oq) (hS.put z1 oq hba)
  show H1[a]? = some (vp_cell _ _)
  rw [e1, vp_cell_l, vp_cell_l, arrV_store, hcl]
  congr 2
  funext q
  by_cases hq : q = j <;> simp [updV, va_up, hq]
theorem m_aast (hx : p.tables.exec = Jvm.exec) (hb : c.code = cc) (K : mS D s) (hG : mG D b M s H) (hS : va_S (mF b) H0 H locs) {r : vw_C} {n y ci : Nat} {vs : List Value} {v : Nat → Option Nat} (ha : M a = some (aQ r.1 n v)) (hy : M y = some (.inr (ci, vs))) (hc : vwCl[ci]? = some r) {i : Int} (j : Nat) (hj : i = (j : Int)) (hj2 : j < n) (hn : n < 2147483648) (hdg : decode cc pc = .ok (.aastore, 1))
    (kk : ∀ (H1 : Heap) (locs1 : List Loc), mG D b (mset M a (aQ r.1 n (va_up v j (some y)))) s H1 → va_S (mF b) H0 H1 locs1 → W p l e R s m args below meth c H1 locs1 cells slots Q (F0 m (pc + 1) ls rest)) : W p l e R s m args below meth c H locs cells slots Q (F0 m pc ls (.ref y :: .int (iI i) :: .ref a :: rest)) := by
  obtain ⟨hba, cA, ⟨h1, h2⟩, h3⟩ := hG.2 a _ ha
  have hin := iI_in hj hj2 hn
  have hcl := iI_cl hj hj2 hn
  have h0 : ¬ iI i < 0 := fun q => hin (Or.inl q)
  obtain ⟨-, r', hr', cellV, g1, g2, g3, -⟩ := hG.2 y _ hy
  have hcls := (K.1.1 ci r hc).2
  obtain ⟨kA, comp, k1, k2, k3, -⟩ := id h2
  have hcomp : comp = D.1 ci := Option.some.inj (k3.symm.trans hcls.1)
  subst hcomp
  obtain ⟨kC, hkC, -⟩ := hcls.2
  refine W.aast hx hb h3 (fun q h => by cases h) (fun h => by cases h) k1 k2 rfl hkC ⟨h0, by show _ < (arrV _ _ _).slots.size; rw [arrV_size, hcl]; exact hj2⟩ g1 (fun q h => by rw [g3] at h; cases h) (by rw [g2]; exact hkC) (by rw [g2]; exact va_assign hcls) rfl rfl hdg fun H1 e1 z1 oq => ?_
  refine kk H1 _ (hG.set hba ⟨cA, ⟨h1, h2⟩, ?_⟩ z1 oq) (hS.put z1 oq hba)
  show H1[a]? = some (vp_cell _ _)
  rw [e1, vp_cell_q, vp_cell_q, arrV_store, hcl]
  congr 2
  funext q
  by_cases hq : q = j <;> simp [updV, va_up, hq, va_rf]
/-- new cells -/
theorem m_new (hx : p.tables.exec = Jvm.exec) (hb : c.code = cc) {C : String} {T : u_T} {N ci index : Nat} (hts : ∀ w ∈ Ts, w.before args s = true) (hin : ∀ w ∈ u_ws C T N, w ∈ Ts) (ty : Nat → FieldType) (hty : ∀ k, k < N → parseFieldDescriptor (T k).2.2.1 = some (ty k)) (hown : s.vm.findClass own = some m.cls) (hcl : (Cond.classLink own index C) ∈ Ts) (hinst : (Cond.instantiable C N) ∈ Ts) (hini : (Cond.initialized C) ∈ Ts) (K : mS D s) (hG : mG D b M s H) (hS : va_S (mF b) H0 H locs) (hc : vwCl[ci]? = some (C, T, N)) {fs : List Value} (hfs : ∀ j, j < N → defaultValue (ty j) = vp_V fs j) (hcells : cells + 1 ≤ R.cells) (hslots : slots + N ≤ R.slots) (hdg : decode cc pc = .ok (.new index, 3))
    (kk : ∀ (q : Nat) (H1 : Heap), M q = none → mG D b (mset M q (.inr (ci, fs))) s H1 → va_S (mF b) H0 H1 locs → W p l e R s m args below meth c H1 locs (cells + 1) (slots + N) Q (F0 m (pc + 3) ls (.ref q :: rest))) : W p l e R s m args below meth c H locs cells slots Q (F0 m pc ls rest) := by
  have hKn := K.1.1 ci _ hc
  refine W.newcK hx hb hown (hts _ hcl) (hts _ hinst) (hts _ hini) rfl hdg hcells hslots hKn.2.1 rfl fun H1 kC hkC e1 z1 o1 => ?_
  exact kk H.size H1 hG.fresh (hG.push ⟨_, hc, (u_born ty hts hin hKn hkC e1 hty).to hfs⟩ z1 o1) ⟨Nat.le_trans hS.1 (by omega), fun x h1 h2 => (o1 x (Nat.lt_of_lt_of_le h1 hS.1)).trans (hS.2.1 x h1 h2), hS.2.2⟩
theorem m_newa (hx : p.tables.exec = Jvm.exec) (hb : c.code = cc) {atype : ArrayType} (hts : ∀ w ∈ Ts, w.before args s = true) (harr : (Cond.arrayClass (newarray.typeOf atype)) ∈ Ts) {ty : FieldType} (hty : newarray.typeOf atype = ty) (hra : ∀ cA : ClassId, s.vm.findClass ("[" ++ ty.toString) = some cA → va_RA s cA ty) (hG : mG D b M s H) (hS : va_S (mF b) H0 H locs) {z : Int} {N' : Nat} {a0 : vp_A} (ha : ∀ cA : ClassId, vp_cell cA a0 = arrV cA N' (fun _ => defaultValue ty)) (hz : z = (N' : Int)) (hz2 : N' < 2147483648) (hbytes : N' * componentBytes ty ≤ 536870912) (hcells : cells + 1 ≤ R.cells) (hslots : slots + N' ≤ R.slots) (hdg : decode cc pc = .ok (.newarray atype, 2))
    (kk : ∀ (q : Nat) (H1 : Heap), M q = none → mG D b (mset M q (.inl (ty, a0))) s H1 → va_S (mF b) H0 H1 locs → W p l e R s m args below meth c H1 locs (cells + 1) (slots + N') Q (F0 m (pc + 2) ls (.ref q :: rest))) : W p l e R s m args below meth c H locs cells slots Q (F0 m pc ls (.int (iI z) :: rest)) := by
  subst hty
  have hcl : (iI z).toNatClampNeg = N' := iI_cl (n := N' + 1) hz (Nat.lt_succ_self _) (by
    rcases Nat.lt_or_ge (N' + 1) 2147483648 with h | h
    · exact h
    · exfalso
      have h8 : 1 ≤ componentBytes (newarray.typeOf atype) := by cases atype <;> decide
      have := Nat.mul_le_mul_left N' h8
      omega)
  have hn : ¬ iI z < 0 := by
    rw [show (0 : Int32) = iI 0 from rfl, iI_lt ⟨by omega, by omega⟩ ⟨by omega, by omega⟩]
    omega
  refine va_newaK hx hb (hts _ harr) rfl hdg rfl hn hcl hbytes hcells hslots rfl fun H1 cA e1 z1 o1 hAr hNm => ?_
  exact kk H.size H1 hG.fresh (hG.push ⟨cA, ⟨hAr, hra cA hNm⟩, by show _ = some (vp_cell _ _); rw [ha]; exact e1⟩ z1 o1) ⟨Nat.le_trans hS.1 (by omega), fun x h1 h2 => (o1 x (Nat.lt_of_lt_of_le h1 hS.1)).trans (hS.2.1 x h1 h2), hS.2.2⟩
theorem m_newq (hx : p.tables.exec = Jvm.exec) (hb : c.code = cc) {C : String} {index : Nat} (hts : ∀ w ∈ Ts, w.before args s = true) (hown : s.vm.findClass own = some m.cls) (hclink : (Cond.classLink own index C) ∈ Ts) (hover : va_AO C s) (hG : mG D b M s H) (hS : va_S (mF b) H0 H locs) {z : Int} {N' : Nat} (hz : z = (N' : Int)) (hz2 : N' < 100000) (hcells : cells + 1 ≤ R.cells) (hslots : slots + N' ≤ R.slots) (hdg : decode cc pc = .ok (.anewarray index, 3))
    (kk : ∀ (q : Nat) (H1 : Heap), M q = none → mG D b (mset M q (aQ C N' (fun _ => none))) s H1 → va_S (mF b) H0 H1 locs → W p l e R s m args below meth c H1 locs (cells + 1) (slots + N') Q (F0 m (pc + 3) ls (.ref q :: rest))) : W p l e R s m args below meth c H locs cells slots Q (F0 m pc ls (.int (iI z) :: rest)) := by
  have hcl : (iI z).toNatClampNeg = N' := iI_cl (n := N' + 1) hz (Nat.lt_succ_self _) (by omega)
  have hn : ¬ iI z < 0 := by
    rw [show (0 : Int32) = iI 0 from rfl, iI_lt ⟨by omega, by omega⟩ ⟨by omega, by omega⟩]
    omega
  refine W.anew hx hb hown (hts _ hclink) (va_AO.use hover) rfl hdg rfl hn (by rw [hcl]; omega) hcells (by rw [hcl]; exact hslots) fun cA kA comp f1 f2 f3 f4 => ?_
  rw [hcl]
  generalize hH1 : H.push ({ cls := cA, slots := Array.replicate N' .null, vm := .none } : Cell) = H1
  have z1 : H1.size = H.size + 1 := by rw [← hH1, Array.size_push]
  have e1 : H1[H.size]? = some (arrV cA N' (fun _ => .null)) := by rw [← hH1, Array.getElem?_push_size, ← arrV_new]
  have o1 : ∀ q : Nat, q < H.size → H1[q]? = H[q]? := fun q hq => by rw [← hH1, Array.getElem?_push, if_neg (Nat.ne_of_lt hq)]
  have hAr : ArrOfT s cA (.object C) := fun N z => ⟨(fun k h => by cases h), kA, f2, comp, f3⟩
  refine kk H.size H1 hG.fresh (hG.push ⟨cA, ⟨hAr, kA, comp, f2, f3, f4, f1⟩, ?_⟩ z1 o1) ⟨Nat.le_trans hS.1 (by omega), fun x h1 h2 => (o1 x (Nat.lt_of_lt_of_le h1 hS.1)).trans (hS.2.1 x h1 h2), hS.2.2⟩
  show H1[H.size]? = some (vp_cell _ _)
  rw [e1]
  rfl
end MR
