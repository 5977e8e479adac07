/-! ===== BUILDING: constructors. JB: a constructor's walk over a world ws (a list of cells), k cells of n slots made so far ===== -/
def bo_N (U : State) : Prop := va_Nw (.methodLinkNest RX5 37 yX2_init "DripEars") U ∧ va_Nw (.methodLinkNest RX5 44 yX3_init "DripEars") U ∧ va_Nw (.methodLinkNest RX5 68 yX1_init "DripEars") U ∧ va_Nw (.methodLinkNest RX3 11 yX2_init "DripEars") U ∧ va_AO "DripEars$Scene" U
def bo_St (g : GT) (U : State) : Prop := va_K (dq_D g) vwCl (dq_T g) U ∧ bo_N U
def QB (g : GT) (R : va_W → Prop) : Array Value → State → Outcome → State → Prop := fun _ st o t => (o = .returned none ∧ ∃ ws, R ws ∧ va_P (dq_D g) vwCl ws t.heap ∧ va_D (dq_AA g) ws) ∧ va_F (dq_AA g) st t
def rmB (d nc ns : Nat) : Room := { frames := d, cells := nc, slots := ns, locals := 38 * d }
def PB (g : GT) (ws : va_W) (U : State) : Prop := va_P (dq_D g) vwCl ws U.heap ∧ va_D (dq_AA g) ws ∧ bo_St g U ∧ dq_z g ≤ U.heap.size
def CTB (g : GT) (mi : MI) (d nc ns : Nat) (av : List Value) (ws : va_W) (R : va_W → Prop) : Prop := Met (dq_l g) (mi_y mi) (mi_w mi) (rmB d nc ns) (va_Pc av (PB g ws)) (QB g R) nc ns (dq_AA g)
def CB (g : GT) (mi : MI) (p : Program) (s : State) (m : MethodId) (args : Array Value) (meth : Method) (c : Code) : Prop :=
  p.tables.exec = Jvm.exec ∧ c.code = mi_c mi ∧ meth.sig.returnType = none ∧ c.maxLocals = mi_n mi ∧ s.vm.findClass (mi_o mi) = some m.cls ∧ (∀ w ∈ mi_w mi, w.before args s = true) ∧ meth.locks = false ∧ bo_St g s ∧ dq_z g ≤ s.heap.size ∧ meth.name = "<init>"
def JB (g : GT) (mi : MI) (d nc ns : Nat) (R : va_W → Prop) (ws : va_W) (k n pc : Nat) (lv : List (Option Value)) (st : List Value) : Prop :=
  ∀ (p : Program) (e : Env) (s : State) (m : MethodId) (args : Array Value) (below : List Frame) (meth : Method) (c : Code) (H : Heap) (locs : List Loc) (ls : Array Slot),
    CB g mi p s m args meth c → va_P (dq_D g) vwCl ws H → va_D (dq_AA g) ws → va_S (dq_AA g) s.heap H locs → lvH ls (mi_n mi) lv →
    W p (dq_l g) e (rmB d nc ns) s m args below meth c H locs k n (MQ below (QB g R) args s nc ns (dq_AA g)) (F0 m pc ls st)
theorem ctb_of {g : GT} {mi : MI} {d nc ns n : Nat} {av : List Value} {ws : va_W} {R : va_W → Prop} {lv : List (Option Value)} (ok : MOK mi n) (hr : mi_r mi = none) (hnm : (mi_y mi).name = "<init>") (hl : lv_in (mi_n mi) av = lv) (hn : (lg_sl av).length ≤ mi_n mi) (K : JB g mi d nc ns R ws 0 0 0 lv []) : CTB g mi d nc ns av ws R := by
  refine met_of (cc := mi_c mi) (maxL := mi_n mi) (ret := mi_r mi) ok.2.1 ok.1 ?_
  intro p e s m args below meth c s₁ B hml hv
  obtain ⟨rfl, hP, hD, hSt, hz⟩ := hv
  have hts := atoms_spec (ws := mi_w mi) B.pre
  have hown : s.vm.findClass (mi_o mi) = some m.cls := by
    have h1 := findClass_of_methodNamed B.named
    rw [ok.2.2.2.2] at h1
    exact h1
  have hin : meth.name = "<init>" := ((name_of_methodNamed B.named B.method).1).trans hnm
  have hl0 := lv_entry av (n := mi_n mi) hn
  rw [lg_entry_eq]
  generalize (lg_sl av ++ List.replicate (mi_n mi - (lg_sl av).length) Slot.unset).toArray = ls at hl0 ⊢
  refine K p e s m _ below meth c s.heap [] ls ⟨B.exec, B.bytes, B.returns.trans hr, hml, hown, hts, B.notSynchronized, hSt, hz, hin⟩ hP hD va_S.rf ⟨hl0.1, hl0.2.1, fun i v hi => ?_⟩
  have h2 := lv_in_args av (mi_n mi) 0 ls hl0.2.2 i v (by rw [hl]; exact hi)
  rwa [Nat.zero_add] at h2
section BO
variable {g : GT} {mi : MI} {d nc ns : Nat} {R : va_W → Prop} {ws : va_W} {k n pc : Nat} {lv : List (Option Value)} {st : List Value}
theorem bo_ws {ws' : va_W} (h : ws = ws') (K : JB g mi d nc ns R ws' k n pc lv st) : JB g mi d nc ns R ws k n pc lv st := h ▸ K
theorem bo_app {X Y Z : va_W} {e : Nat × va_E} (K : JB g mi d nc ns R (X ++ e :: (Y ++ Z)) k n pc lv st) : JB g mi d nc ns R ((X ++ e :: Y) ++ Z) k n pc lv st := bo_ws (by rw [List.append_assoc]; rfl) K
theorem bo_iconst {q : Int} {v : Int32} (hd : decode (mi_c mi) pc = .ok (.iconst q, 1)) (hv : Int32.ofInt q = v) (K : JB g mi d nc ns R ws k n (pc + 1) lv (.int v :: st)) : JB g mi d nc ns R ws k n pc lv st := by
  intro p e s m args below meth c H locs ls C hP hD hS hl
  exact lv_iconst C.1 C.2.1 hd hv (K p e s m args below meth c H locs ls C hP hD hS hl)
theorem bo_bipush {q : Int} {v : Int32} (hd : decode (mi_c mi) pc = .ok (.bipush q, 2)) (hv : (Int8.ofInt q).toInt32 = v) (K : JB g mi d nc ns R ws k n (pc + 2) lv (.int v :: st)) : JB g mi d nc ns R ws k n pc lv st := by
  intro p e s m args below meth c H locs ls C hP hD hS hl
  exact lv_bipush C.1 C.2.1 hd hv (K p e s m args below meth c H locs ls C hP hD hS hl)
theorem bo_sipush {q : Int} {v : Int32} (hd : decode (mi_c mi) pc = .ok (.sipush q, 3)) (hv : (Int16.ofInt q).toInt32 = v) (K : JB g mi d nc ns R ws k n (pc + 3) lv (.int v :: st)) : JB g mi d nc ns R ws k n pc lv st := by
  intro p e s m args below meth c H locs ls C hP hD hS hl
  exact lv_sipush C.1 C.2.1 hd hv (K p e s m args below meth c H locs ls C hP hD hS hl)
theorem bo_iload_n {j : Fin 4} {i : Nat} {x : Int32} (hd : decode (mi_c mi) pc = .ok (.iload_n j, 1)) (hi : (j : Nat) = i) (hv : lv[i]? = some (some (.int x))) (K : JB g mi d nc ns R ws k n (pc + 1) lv (.int x :: st)) : JB g mi d nc ns R ws k n pc lv st := by
  intro p e s m args below meth c H locs ls C hP hD hS hl
  exact lv_iload_n C.1 C.2.1 hd hi (hl.at hv) (K p e s m args below meth c H locs ls C hP hD hS hl)
theorem bo_aload_n {j : Fin 4} {i : Nat} {x : Nat} (hd : decode (mi_c mi) pc = .ok (.aload_n j, 1)) (hi : (j : Nat) = i) (hv : lv[i]? = some (some (.ref x))) (K : JB g mi d nc ns R ws k n (pc + 1) lv (.ref x :: st)) : JB g mi d nc ns R ws k n pc lv st := by
  intro p e s m args below meth c H locs ls C hP hD hS hl
  exact lv_aload_n C.1 C.2.1 hd hi (hl.at hv) (K p e s m args below meth c H locs ls C hP hD hS hl)
theorem bo_istore_n {j : Fin 4} {i : Nat} {x : Int32} (hd : decode (mi_c mi) pc = .ok (.istore_n j, 1)) (hi : (j : Nat) = i) (hn : i < mi_n mi) (hk : lv_ok lv i = true) (K : JB g mi d nc ns R ws k n (pc + 1) (lv.set i (some (.int x))) st) : JB g mi d nc ns R ws k n pc lv (.int x :: st) := by
  intro p e s m args below meth c H locs ls C hP hD hS hl
  exact lv_istore_n C.1 C.2.1 hd hi hl.has hn rfl (fun ls' hl' => K p e s m args below meth c H locs ls' C hP hD hS (lvH.set1 hl' hk))
theorem bo_iinc {i : Nat} {q : Int} {x : Int32} (hd : decode (mi_c mi) pc = .ok (.iinc i q, 3)) (hn : i < mi_n mi) (hv : lv[i]? = some (some (.int x))) (hk : lv_ok lv i = true) (K : JB g mi d nc ns R ws k n (pc + 3) (lv.set i (some (.int (x + Int32.ofInt q)))) st) : JB g mi d nc ns R ws k n pc lv st := by
  intro p e s m args below meth c H locs ls C hP hD hS hl
  obtain ⟨kk, hk2⟩ := List.getElem?_of_mem (lv_prs_mem (lv := lv) (q := (i, .int x)).mpr hv)
  exact lv_iinc C.1 C.2.1 hd hl.has hk2 rfl hn rfl (fun ls' hl' => K p e s m args below meth c H locs ls' C hP hD hS (lvH.set1 hl' hk))
theorem bo_dup {v : Value} (hd : decode (mi_c mi) pc = .ok (.dup, 1)) (hv : v.category = 1) (K : JB g mi d nc ns R ws k n (pc + 1) lv (v :: v :: st)) : JB g mi d nc ns R ws k n pc lv (v :: st) := by
  intro p e s m args below meth c H locs ls C hP hD hS hl
  exact lv_dup C.1 C.2.1 hd hv (K p e s m args below meth c H locs ls C hP hD hS hl)
theorem bo_goto {off : Int} (tgt : Nat) (hd : decode (mi_c mi) pc = .ok (.goto off, 3)) (ht : (pc : Int) + off = (tgt : Int)) (K : JB g mi d nc ns R ws k n tgt lv st) : JB g mi d nc ns R ws k n pc lv st := by
  intro p e s m args below meth c H locs ls C hP hD hS hl
  exact lv_goto C.1 C.2.1 hd ht (K p e s m args below meth c H locs ls C hP hD hS hl)
theorem bo_icmp_ge {x y : Int32} {off : Int} (tgt : Nat) (hd : decode (mi_c mi) pc = .ok (.if_icmp .ge off, 3)) (ht : (pc : Int) + off = (tgt : Int)) (Kt : y ≤ x → JB g mi d nc ns R ws k n tgt lv st) (Kf : ¬ y ≤ x → JB g mi d nc ns R ws k n (pc + 3) lv st) : JB g mi d nc ns R ws k n pc lv (.int y :: .int x :: st) := by
  intro p e s m args below meth c H locs ls C hP hD hS hl
  exact lv_icmp_ge C.1 C.2.1 hd ht (fun h => Kt h p e s m args below meth c H locs ls C hP hD hS hl) (fun h => Kf h p e s m args below meth c H locs ls C hP hD hS hl)
theorem bo_obj {idx a : Nat} (hw1 : Cond.methodLink (mi_o mi) idx objectInit ∈ mi_w mi) (hw2 : Cond.instanceMethod objectInit ∈ mi_w mi) (hw3 : Cond.code objectInit ⟨#[0xb1]⟩ 1 none ∈ mi_w mi) (hd : decode (mi_c mi) pc = .ok (.invokespecial idx, 3)) (hdd : 1 ≤ d) (K : JB g mi d nc ns R ws k n (pc + 3) lv []) : JB g mi d nc ns R ws k n pc lv [.ref a] := by
  intro p e s m args below meth c H locs ls C hP hD hS hl
  refine W.objInit C.1 C.2.1 C.2.2.2.2.1 (C.2.2.2.2.2.1 _ hw1) (C.2.2.2.2.2.1 _ hw2) (C.2.2.2.2.2.1 _ hw3) rfl (by rw [C.2.2.2.1]; exact hl.1) rfl hd hdd (by show 2 * 0 + 0 + 12 ≤ 38 * d; omega) ?_
  exact W.eq (g2 := F0 m (pc + 3) ls []) rfl (K p e s m args below meth c H locs ls C hP hD hS hl)
theorem bo_newI {N : Nat} {q0 : Int32} (hw : Cond.arrayClass .int ∈ mi_w mi) (hN : q0 = nI N) (h3 : N ≤ 300) (hk : k + 1 ≤ nc) (hn : n + N ≤ ns) (hd : decode (mi_c mi) pc = .ok (.newarray .int, 2)) (K : ∀ q : Nat, JB g mi d nc ns R (ws ++ [(q, dq_ar g N (fun _ => 0))]) (k + 1) (n + N) (pc + 2) lv (.ref q :: st)) : JB g mi d nc ns R ws k n pc lv (.int q0 :: st) := by
  intro p e s m args below meth c H locs ls C hP hD hS hl
  refine va_newa (atype := .int) (ty := .int) (a0 := (N, .inl (fun _ => 0))) C.1 C.2.1 (C.2.2.2.2.2.1 _ hw) rfl C.2.2.2.2.2.2.2.1.1 hP hD hS (fun q h => Nat.le_trans C.2.2.2.2.2.2.2.2.1 h) (fun cA => rfl) (by rw [hN]; exact nI_pos (by omega)) (by rw [hN]; exact nI_clamp (by omega)) (by show N * _ ≤ 536870912; exact Nat.le_trans (Nat.mul_le_mul h3 (show componentBytes .int ≤ 8 by decide)) (by decide)) hk hn hd (fun q cA H1 hK1 hP1 hD1 hS1 => ?_)
  have e1 := va_nm_int (hK1.2 3 (cA, .int) rfl).2
  have e2 := va_nm_int (C.2.2.2.2.2.2.2.1.1.2 0 (dq_I g, .int) rfl).2
  have e3 : cA = dq_I g := Option.some.inj (e1.symm.trans e2)
  subst e3
  exact K q p e s m args below meth c H1 locs ls C hP1 hD1 hS1 hl
theorem bo_newZ {N : Nat} {q0 : Int32} (hw : Cond.arrayClass .boolean ∈ mi_w mi) (hN : q0 = nI N) (h3 : N ≤ 300) (hk : k + 1 ≤ nc) (hn : n + N ≤ ns) (hd : decode (mi_c mi) pc = .ok (.newarray .boolean, 2)) (K : ∀ q : Nat, JB g mi d nc ns R (ws ++ [(q, dq_br g N (fun _ => 0))]) (k + 1) (n + N) (pc + 2) lv (.ref q :: st)) : JB g mi d nc ns R ws k n pc lv (.int q0 :: st) := by
  intro p e s m args below meth c H locs ls C hP hD hS hl
  refine va_newa (atype := .boolean) (ty := .boolean) (a0 := (N, .inl (fun _ => 0))) C.1 C.2.1 (C.2.2.2.2.2.1 _ hw) rfl C.2.2.2.2.2.2.2.1.1 hP hD hS (fun q h => Nat.le_trans C.2.2.2.2.2.2.2.2.1 h) (fun cA => rfl) (by rw [hN]; exact nI_pos (by omega)) (by rw [hN]; exact nI_clamp (by omega)) (by show N * _ ≤ 536870912; exact Nat.le_trans (Nat.mul_le_mul h3 (show componentBytes .boolean ≤ 8 by decide)) (by decide)) hk hn hd (fun q cA H1 hK1 hP1 hD1 hS1 => ?_)
  have e1 := va_nm_boolean (hK1.2 3 (cA, .boolean) rfl).2
  have e2 := va_nm_boolean (C.2.2.2.2.2.2.2.1.1.2 1 (dq_B g, .boolean) rfl).2
  have e3 : cA = dq_B g := Option.some.inj (e1.symm.trans e2)
  subst e3
  exact K q p e s m args below meth c H1 locs ls C hP1 hD1 hS1 hl
theorem bo_newq {N idx : Nat} {q0 : Int32} (hw : Cond.classLink (mi_o mi) idx RX4 ∈ mi_w mi) (hN : q0 = nI N) (h3 : N ≤ 300) (hk : k + 1 ≤ nc) (hn : n + N ≤ ns) (hd : decode (mi_c mi) pc = .ok (.anewarray idx, 3)) (K : ∀ q : Nat, JB g mi d nc ns R (ws ++ [(q, dq_sr g N (fun _ => none))]) (k + 1) (n + N) (pc + 3) lv (.ref q :: st)) : JB g mi d nc ns R ws k n pc lv (.int q0 :: st) := by
  intro p e s m args below meth c H locs ls C hP hD hS hl
  refine va_newq (C := "DripEars$Scene") C.1 C.2.1 C.2.2.2.2.1 (C.2.2.2.2.2.1 _ hw) C.2.2.2.2.2.2.2.1.2.2.2.2.2 C.2.2.2.2.2.2.2.1.1 hP hD hS (fun q h => Nat.le_trans C.2.2.2.2.2.2.2.2.1 h) (by rw [hN]; exact nI_pos (by omega)) (by rw [hN]; exact nI_clamp (by omega)) (by omega) hk hn hd (fun q cA H1 hK1 hP1 hD1 hS1 => ?_)
  have e1 := va_nmO (hK1.2 3 (cA, .object "DripEars$Scene") rfl).2 rfl
  have e2 := va_nmO (C.2.2.2.2.2.2.2.1.1.2 2 (dq_S g, .object "DripEars$Scene") rfl).2 rfl
  have e3 : cA = dq_S g := Option.some.inj (e1.symm.trans e2)
  subst e3
  exact K q p e s m args below meth c H1 locs ls C hP1 hD1 hS1 hl
theorem bo_new {ci N idx : Nat} {Cn : String} {T : u_T} {fs : List Value} (ty : Nat → FieldType) (hty : ∀ k, k < N → parseFieldDescriptor (T k).2.2.1 = some (ty k)) (hc : vwCl[ci]? = some (Cn, T, N)) (hin : ∀ w ∈ u_ws Cn T N, w ∈ mi_w mi) (hw1 : Cond.classLink (mi_o mi) idx Cn ∈ mi_w mi) (hw2 : Cond.instantiable Cn N ∈ mi_w mi) (hw3 : Cond.initialized Cn ∈ mi_w mi) (hfs : ∀ j, j < N → defaultValue (ty j) = vp_V fs j) (hk : k + 1 ≤ nc) (hn : n + N ≤ ns) (hd : decode (mi_c mi) pc = .ok (.new idx, 3)) (K : ∀ q : Nat, JB g mi d nc ns R (ws ++ [(q, .inr (ci, fs))]) (k + 1) (n + N) (pc + 3) lv (.ref q :: st)) : JB g mi d nc ns R ws k n pc lv st := by
  intro p e s m args below meth c H locs ls C hP hD hS hl
  exact va_new C.1 C.2.1 C.2.2.2.2.2.1 hin ty hty C.2.2.2.2.1 (C.2.2.2.2.2.1 _ hw1) (C.2.2.2.2.2.1 _ hw2) (C.2.2.2.2.2.1 _ hw3) C.2.2.2.2.2.2.2.1.1 hP hD hS (fun q h => Nat.le_trans C.2.2.2.2.2.2.2.2.1 h) hc hfs hk hn hd (fun q H1 hP1 hD1 hS1 => K q p e s m args below meth c H1 locs ls C hP1 hD1 hS1 hl)
theorem ap_at {X Y : va_W} {e : Nat × va_E} : (X ++ e :: Y)[X.length]? = some e := by
  rw [List.getElem?_append_right (Nat.le_refl _), Nat.sub_self]
  rfl
theorem ap_set {X Y : va_W} {e e' : Nat × va_E} : (X ++ e :: Y).set X.length e' = X ++ e' :: Y := by
  rw [List.set_append_right _ _ (Nat.le_refl _), Nat.sub_self]
  rfl
theorem bo_putF {X Y : va_W} {a ci N idx : Nat} {fs fs' : List Value} {Cn : String} {T : u_T} {v : Value} (ty0 : Nat → FieldType) {ty : FieldType} (i : Nat) (hty : ∀ k, k < N → parseFieldDescriptor (T k).2.2.1 = some (ty0 k)) (hnm : ∀ a, a < N → ∀ b, b < N → a ≠ b → (T a).2.1 ≠ (T b).2.1) (hc : vwCl[ci]? = some (Cn, T, N)) (hin : ∀ w ∈ u_ws Cn T N, w ∈ mi_w mi) (hi : i < N) (hw : Cond.fieldLink (mi_o mi) idx (T i).1 (T i).2.1 (T i).2.2.1 ∈ mi_w mi) (hfin : (T i).2.2.2 = true) (hdecl : (T i).1 = mi_o mi) (hd0 : parseFieldDescriptor (T i).2.2.1 = some ty) (hn : narrow ty v = v) (hfit : fits ty v = true) (hlen : i < fs.length) (hfs : fs.set i v = fs') (hd : decode (mi_c mi) pc = .ok (.putfield idx, 3)) (K : JB g mi d nc ns R (X ++ (a, .inr (ci, fs')) :: Y) k n (pc + 3) lv st) : JB g mi d nc ns R (X ++ (a, .inr (ci, fs)) :: Y) k n pc lv (v :: .ref a :: st) := by
  subst hfs
  intro p e s m args below meth c H locs ls C hP hD hS hl
  refine va_putF C.1 C.2.1 C.2.2.2.2.2.1 hin ty0 hty hnm C.2.2.2.2.1 C.2.2.2.2.2.2.2.1.1 hP hD hS X.length ap_at hc i hi (C.2.2.2.2.2.1 _ hw) (fun _ h => h) hfin C.2.2.2.2.2.2.2.2.2 hdecl hd0 hn hfit hlen hd (fun H1 locs1 hP1 hD1 hS1 => ?_)
  rw [ap_set] at hP1 hD1
  exact K p e s m args below meth c H1 locs1 ls C hP1 hD1 hS1 hl
theorem bo_getF {X Y : va_W} {a ci N idx : Nat} {fs : List Value} {Cn : String} {T : u_T} {v : Value} (i : Nat) (hc : vwCl[ci]? = some (Cn, T, N)) (hin : ∀ w ∈ u_ws Cn T N, w ∈ mi_w mi) (hi : i < N) (hw : Cond.fieldLink (mi_o mi) idx (T i).1 (T i).2.1 (T i).2.2.1 ∈ mi_w mi) (hv : fs[i]? = some v) (hd : decode (mi_c mi) pc = .ok (.getfield idx, 3)) (K : JB g mi d nc ns R (X ++ (a, .inr (ci, fs)) :: Y) k n (pc + 3) lv (v :: st)) : JB g mi d nc ns R (X ++ (a, .inr (ci, fs)) :: Y) k n pc lv (.ref a :: st) := by
  intro p e s m args below meth c H locs ls C hP hD hS hl
  exact va_get C.1 C.2.1 C.2.2.2.2.2.1 hin C.2.2.2.2.1 C.2.2.2.2.2.2.2.1.1 hP X.length ap_at hc i hi (C.2.2.2.2.2.1 _ hw) (fun _ h => h) hv hd (K p e s m args below meth c H locs ls C hP hD hS hl)
theorem bo_ast {X Z : va_W} {ar N v : Nat} {f : Nat → Option Nat} {fs : List Value} {i0 : Int32} (i : Nat) (hi : i0 = nI i) (hN : i < N) (hN3 : N ≤ 300) (hm : (v, .inr (4, fs)) ∈ Z) (hd : decode (mi_c mi) pc = .ok (.aastore, 1)) (K : JB g mi d nc ns R (X ++ (ar, dq_sr g N (va_up f i (some v))) :: Z) k n (pc + 1) lv st) : JB g mi d nc ns R (X ++ (ar, dq_sr g N f) :: Z) k n pc lv (.ref v :: .int i0 :: .ref ar :: st) := by
  subst hi
  intro p e s m args below meth c H locs ls C hP hD hS hl
  obtain ⟨j, hj⟩ := List.getElem?_of_mem hm
  have hj2 : (X ++ (ar, dq_sr g N f) :: Z)[X.length + 1 + j]? = some (v, .inr (4, fs)) := by
    rw [List.getElem?_append_right (by omega), show X.length + 1 + j - X.length = j + 1 by omega]
    exact hj
  refine va_astq (r := (RX4, TX4, 6)) C.1 C.2.1 C.2.2.2.2.2.2.2.1.1 hP hD hS X.length 2 (X.length + 1 + j) 4 ap_at rfl hj2 rfl (nI_in hN (by omega)) hd (fun H1 locs1 hP1 hD1 hS1 => ?_)
  rw [nI_clamp (by omega), ap_set] at hP1 hD1
  exact K p e s m args below meth c H1 locs1 ls C hP1 hD1 hS1 hl
/-- what an array of references holds behind its end doesn't matter -/
theorem bo_cell {X Z : va_W} {ar N : Nat} {f f' : Nat → Option Nat} (hf : ∀ j, j < N → f j = f' j) (K : JB g mi d nc ns R (X ++ (ar, dq_sr g N f') :: Z) k n pc lv st) : JB g mi d nc ns R (X ++ (ar, dq_sr g N f) :: Z) k n pc lv st := by
  intro p e s m args below meth c H locs ls C hP hD hS hl
  have hc : vp_cell (dq_S g) (N, .inr (.inr (.inr (.inr f)))) = vp_cell (dq_S g) (N, .inr (.inr (.inr (.inr f')))) := by
    rw [vp_cell_q, vp_cell_q]
    unfold arrV
    congr 1
    apply congrArg
    funext j
    show va_rf (f j.val) = va_rf (f' j.val)
    rw [hf j.val j.isLt]
  refine K p e s m args below meth c H locs ls C (fun i q hq => ?_) ⟨fun i j x y hx hy hxy => ?_, fun i q hq => ?_⟩ hS hl
  · rw [← ap_set (e := (ar, dq_sr g N f))] at hq
    by_cases hi : i = X.length
    · subst hi
      rw [List.getElem?_set_self (by rw [List.length_append, List.length_cons]; omega)] at hq
      cases hq
      have h1 := hP X.length _ ap_at
      show H[ar]? = some (vp_cell _ _)
      rw [← hc]
      exact h1
    · rw [List.getElem?_set_ne (Ne.symm hi)] at hq
      exact hP i q hq
  · have key : ∀ (i : Nat) (x : Nat × va_E), (X ++ (ar, dq_sr g N f') :: Z)[i]? = some x → ∃ y, (X ++ (ar, dq_sr g N f) :: Z)[i]? = some y ∧ y.1 = x.1 := by
      intro i x hx
      rw [← ap_set (e := (ar, dq_sr g N f))] at hx
      by_cases hi : i = X.length
      · subst hi
        rw [List.getElem?_set_self (by rw [List.length_append, List.length_cons]; omega)] at hx
        cases hx
        exact ⟨_, ap_at, rfl⟩
      · rw [List.getElem?_set_ne (Ne.symm hi)] at hx
        exact ⟨x, hx, rfl⟩
    obtain ⟨x', hx1, hx2⟩ := key i x hx
    obtain ⟨y', hy1, hy2⟩ := key j y hy
    exact hD.1 i j x' y' hx1 hy1 (by rw [hx2, hy2, hxy])
  · rw [← ap_set (e := (ar, dq_sr g N f))] at hq
    by_cases hi : i = X.length
    · subst hi
      rw [List.getElem?_set_self (by rw [List.length_append, List.length_cons]; omega)] at hq
      cases hq
      exact hD.2 X.length (ar, dq_sr g N f) ap_at
    · rw [List.getElem?_set_ne (Ne.symm hi)] at hq
      exact hD.2 i q hq
theorem bo_ret (hd : decode (mi_c mi) pc = .ok (.return_, 1)) (hR : R ws) : JB g mi d nc ns R ws nc ns pc lv [] := by
  intro p e s m args below meth c H locs ls C hP hD hS hl
  exact W.vret C.1 C.2.1 C.2.2.1 (fun t ht _ => ⟨⟨rfl, ws, hR, by rw [ht]; exact hP, hD⟩, hS.F ht⟩) hS.2.2 hd C.2.2.2.2.2.2.1
theorem bo_blind {av : List Value} : FrameBlind (va_Pc av (PB g ws)) := fun a U gf mk q => by
  obtain ⟨q0, qP, qD, ⟨qK, n1, n2, n3, n4, n5⟩, qz⟩ := q
  exact ⟨q0, qP, qD, ⟨va_K.moved (u := U) (U := U.calling gf mk a) (Vm.Alike.refl U.vm) qK, va_Nw.same rfl (rfl : U.vm = (U.calling gf mk a).vm) n1, va_Nw.same rfl (rfl : U.vm = (U.calling gf mk a).vm) n2, va_Nw.same rfl (rfl : U.vm = (U.calling gf mk a).vm) n3, va_Nw.same rfl (rfl : U.vm = (U.calling gf mk a).vm) n4, va_AO.moved (u := U) (U := U.calling gf mk a) (Vm.Alike.refl U.vm) n5⟩, qz⟩
theorem bo_at {s U : State} {H : Heap} {locs : List Loc} (h : bo_St g s) (hz : dq_z g ≤ s.heap.size) (hS : va_S (dq_AA g) s.heap H locs) (hP : va_P (dq_D g) vwCl ws H) (hD : va_D (dq_AA g) ws) (hU : U.heap = H) (hW : s.WarmedH U.vm) : PB g ws U := by
  obtain ⟨qK, n1, n2, n3, n4, n5⟩ := h
  exact ⟨by rw [hU]; exact hP, hD, ⟨va_K.moved hW.alike qK, va_Nw.warmM hW n1, va_Nw.warmM hW n2, va_Nw.warmM hW n3, va_Nw.warmM hW n4, va_AO.moved hW.alike n5⟩, by rw [hU]; exact Nat.le_trans hz hS.1⟩
theorem bo_go {R2 : va_W → Prop} {kc nn : Nat} {st0 rest : List Value} {p : Program} {e : Env} {s : State} {m : MethodId} {args : Array Value} {below : List Frame} {meth : Method} {c : Code} {H : Heap} {locs : List Loc} {ls : Array Slot} {a : Array Value} (hr : va_Run p (dq_l g) e (rmB d nc ns) s m args below meth c H locs k n kc nn (F0 m pc ls st0) rest (QB g R2 a) (dq_AA g)) (C : CB g mi p s m args meth c) (hS : va_S (dq_AA g) s.heap H locs) (hl : lvH ls (mi_n mi) lv) (K : ∀ ws', R2 ws' → JB g mi d nc ns R ws' (k + kc) (n + nn) (pc + 3) lv rest) : W p (dq_l g) e (rmB d nc ns) s m args below meth c H locs k n (MQ below (QB g R) args s nc ns (dq_AA g)) (F0 m pc ls st0) := by
  intro T hT X
  obtain ⟨v, st₀, t, T', Lc, h0, X', hL, e1, e2, ⟨⟨hv, ws', hR, hP1, hD1⟩, hz, hk⟩, st⟩ := hr T hT X
  cases hv
  rw [h0] at hz hk
  obtain ⟨t2, a1, b1⟩ := K ws' hR p e s m args below meth c T'.heap (locs ++ Lc) ls C (by rw [e1]; exact hP1) hD1
    ⟨Nat.le_trans hS.1 (by rw [e1]; exact hz), fun q h1 h2 => by rw [e1, hk q (Nat.lt_of_lt_of_le h1 hS.1) h2]; exact hS.2.1 q h1 h2, fun q hq => by
      rcases List.mem_append.mp hq with h | h
      · exact hS.2.2 q h
      · exact hL q h⟩ hl T' rfl X'
  exact ⟨t2, st t2 a1, b1⟩
theorem bo_callI {mi2 : MI} {d2 kc nn na idx b : Nat} {As rest : List Value} {R2 : va_W → Prop} (ok : MOK mi2 na) (hr : mi_r mi2 = none) (hnm : (mi_y mi2).name = "<init>") (hc : CTB g mi2 d2 kc nn (.ref b :: As) ws R2) (hG : GoodIn (mi_w mi) (mi_w mi2)) (hw1 : Cond.initialized (mi_y mi2).cls ∈ mi_w mi) (hw2 : Cond.methodLink (mi_o mi) idx (mi_y mi2) ∈ mi_w mi) (hw3 : Cond.instanceMethod (mi_y mi2) ∈ mi_w mi) (hdd : d2 + 1 ≤ d) (hk : k + kc ≤ nc) (hn : n + nn ≤ ns) (hA : As.length = na) (hrs : (rest.map fun v => v.category).sum ≤ 8) (hd : decode (mi_c mi) pc = .ok (.invokespecial idx, 3)) (K : ∀ ws', R2 ws' → JB g mi d nc ns R ws' (k + kc) (n + nn) (pc + 3) lv rest) : JB g mi d nc ns R ws k n pc lv (As.reverse ++ .ref b :: rest) := by
  intro p e s m args below meth c H locs ls C hP hD hS hl
  refine bo_go (va_runI (As := As) (rest := rest) (b := b) (n := na) ⟨C.1, C.2.1, C.2.2.2.1, C.2.2.2.2.1, C.2.2.2.2.2.1⟩ hc (cwI na C.2.2.2.2.2.1 hG (ok.1.trans (by rw [hr])) rfl rfl (C.2.2.2.2.2.1 _ hw1) (C.2.2.2.2.2.1 _ hw2) (C.2.2.2.2.2.1 _ hw3) hnm ok.2.2.1 ⟨hdd, ?_⟩) ⟨bo_blind, fun U hU hW => ⟨rfl, bo_at C.2.2.2.2.2.2.2.1 C.2.2.2.2.2.2.2.2.1 hS hP hD hU hW⟩⟩ rfl hA hl.1 rfl (lv_room hrs) hd ⟨hk, hn⟩) C hS hl K
  have h1 := ok.2.2.2.1
  show 8 + (mi_n mi2 + 11) + 38 * d2 ≤ 38 * d
  omega
theorem bo_callN {mi2 : MI} {d2 kc nn na idx b : Nat} {host : String} {As rest : List Value} {R2 : va_W → Prop} (ok : MOK mi2 na) (hr : mi_r mi2 = none) (hnm : (mi_y mi2).name = "<init>") (hc : CTB g mi2 d2 kc nn (.ref b :: As) ws R2) (hG : GoodIn (mi_w mi) (mi_w mi2)) (hw1 : Cond.initialized (mi_y mi2).cls ∈ mi_w mi) (hw2 : ∀ U, bo_N U → va_Nw (.methodLinkNest (mi_o mi) idx (mi_y mi2) host) U) (hw3 : Cond.instanceMethod (mi_y mi2) ∈ mi_w mi) (hdd : d2 + 1 ≤ d) (hk : k + kc ≤ nc) (hn : n + nn ≤ ns) (hA : As.length = na) (hrs : (rest.map fun v => v.category).sum ≤ 8) (hd : decode (mi_c mi) pc = .ok (.invokespecial idx, 3)) (K : ∀ ws', R2 ws' → JB g mi d nc ns R ws' (k + kc) (n + nn) (pc + 3) lv rest) : JB g mi d nc ns R ws k n pc lv (As.reverse ++ .ref b :: rest) := by
  intro p e s m args below meth c H locs ls C hP hD hS hl
  refine bo_go (va_runIN (As := As) (rest := rest) (b := b) (n := na) ⟨C.1, C.2.1, C.2.2.2.1, C.2.2.2.2.1, C.2.2.2.2.2.1⟩ hc ⟨va_cnB na C.2.2.2.2.2.1 hG (ok.1.trans (by rw [hr])) rfl rfl (hw2 s C.2.2.2.2.2.2.2.1.2) (C.2.2.2.2.2.1 _ hw1) ok.2.2.1 ⟨hdd, ?_⟩, hnm, C.2.2.2.2.2.1 _ hw3⟩ ⟨bo_blind, fun U hU hW => ⟨rfl, bo_at C.2.2.2.2.2.2.2.1 C.2.2.2.2.2.2.2.2.1 hS hP hD hU hW⟩⟩ rfl hA hl.1 rfl (lv_room hrs) hd ⟨hk, hn⟩) C hS hl K
  have h1 := ok.2.2.2.1
  show 8 + (mi_n mi2 + 11) + 38 * d2 ≤ 38 * d
  omega
end BO
