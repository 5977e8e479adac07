/-! ===== THE MINI LOGIC: every cell of the class and of the reference has a number (0 to 117); all their ints are one memory M (cell, place), the two longs are L (cell). JW: a method's walk over M, L; CT: a method's contract ===== -/
abbrev GT : Type := Launch × va_G × (Nat → Nat) × Nat × (ClassId × ClassId × ClassId) × Nat
abbrev MI : Type := MethodName × String × ByteArray × Nat × Option FieldType × List Cond
abbrev MM : Type := Nat → Nat → Int32
abbrev LL : Type := Nat → Int64
def dq_l (g : GT) : Launch := g.1
def dq_D (g : GT) : va_G := g.2.1
def dq_A (g : GT) (i : Nat) : Nat := g.2.2.1 i
def dq_z (g : GT) : Nat := g.2.2.2.1
def dq_I (g : GT) : ClassId := g.2.2.2.2.1.1
def dq_B (g : GT) : ClassId := g.2.2.2.2.1.2.1
def dq_S (g : GT) : ClassId := g.2.2.2.2.1.2.2
def dq_E (g : GT) : Nat := g.2.2.2.2.2
abbrev mi_y (m : MI) : MethodName := m.1
abbrev mi_o (m : MI) : String := m.2.1
abbrev mi_c (m : MI) : ByteArray := m.2.2.1
abbrev mi_n (m : MI) : Nat := m.2.2.2.1
abbrev mi_r (m : MI) : Option FieldType := m.2.2.2.2.1
abbrev mi_w (m : MI) : List Cond := m.2.2.2.2.2
/-- the cells that any call may change: those that came behind the law's start -/
def dq_AA (g : GT) : Nat → Prop := fun q => dq_z g ≤ q
def dq_T (g : GT) : List (ClassId × FieldType) := [(dq_I g, .int), (dq_B g, .boolean), (dq_S g, .object "DripEars$Scene")]
def dq_ar (g : GT) (n : Nat) (r : Nat → Int32) : va_E := .inl (dq_I g, n, .inl r)
def dq_br (g : GT) (n : Nat) (r : Nat → Int32) : va_E := .inl (dq_B g, n, .inl r)
def dq_sr (g : GT) (n : Nat) (f : Nat → Option Nat) : va_E := .inl (dq_S g, n, .inr (.inr (.inr (.inr f))))
def dq_R (g : GT) (i : Nat) : Value := .ref (dq_A g i)
def dq_lane (g : GT) (l j : Nat) (r : Nat → Int32) : va_E :=
  if j = 0 then .inr (2, [.int (r 0), .int (r 1), .int (r 2), .ref (dq_A g (l + 1)), .ref (dq_A g (l + 2)), .ref (dq_A g (l + 3)), .ref (dq_A g (l + 4)), .ref (dq_A g (l + 5)), .ref (dq_A g (l + 6))])
  else if j < 3 then dq_ar g 5 r else if j < 6 then dq_ar g 8 r else dq_ar g 4 r
def dq_scene (g : GT) (s : Nat) (r : Nat → Int32) : va_E := .inr (4, [.ref (dq_A g 16), .ref (dq_A g (s + 1)), .ref (dq_A g (s + 2)), .ref (dq_A g (s + 3)), .int (r 4), .int (r 5)])
def dq_cell (g : GT) (i : Nat) (r : Nat → Int32) (x : Int64) : va_E :=
  if i < 16 then
    if i = 0 then .inr (5, [.ref (dq_A g 1), .int (r 1), .ref (dq_A g 16), .ref (dq_A g 8), .ref (dq_A g 30), .ref (dq_A g 34), .ref (dq_A g 10), .ref (dq_A g 12), .ref (dq_A g 2), .ref (dq_A g 3), .long x, .ref (dq_A g 4), .ref (dq_A g 5), .ref (dq_A g 6), .ref (dq_A g 7)])
    else if i = 1 then dq_ar g 64 r
    else if i = 2 then dq_sr g 2 (fun k => some (dq_A g (94 + 4 * k)))
    else if i = 3 then dq_br g 2 r
    else if i = 4 then dq_ar g 12 r
    else if i = 5 then dq_ar g 5 r
    else if i = 6 then dq_ar g 4 r
    else if i = 7 then dq_ar g 4 r
    else if i = 8 then .inr (3, [.ref (dq_A g 23), .ref (dq_A g 9), .int (r 2), .int (r 3), .int (r 4)])
    else if i = 9 then dq_ar g 3 r
    else if i = 10 then .inr (0, [.ref (dq_A g 11), .int (r 1), .int (r 2)])
    else if i = 11 then dq_sr g 14 (fun k => some (dq_A g (38 + 4 * k)))
    else if i = 12 then .inr (1, [.ref (dq_A g 13), .ref (dq_A g 14), .ref (dq_A g 15), .int (r 3)])
    else if i = 13 then dq_ar g 6 r
    else if i = 14 then dq_ar g 6 r
    else dq_br g 6 r
  else if i < 30 then dq_lane g (16 + 7 * ((i - 16) / 7)) ((i - 16) % 7) r
  else if i < 102 then (if (i - 30) % 4 = 0 then dq_scene g i r else dq_ar g 5 r)
  else if i = 102 then .inr (6, [.int (r 0), .int (r 1), .int (r 2), .ref (dq_A g 103), .ref (dq_A g 104), .ref (dq_A g 105), .ref (dq_A g 106), .ref (dq_A g 107), .ref (dq_A g 108), .ref (dq_A g 109), .ref (dq_A g 110), .int (r 11), .int (r 12), .int (r 13), .ref (dq_A g 111), .int (r 15), .int (r 16), .int (r 17), .int (r 18), .int (r 19), .ref (dq_A g 112), .int (r 21), .ref (dq_A g 113), .ref (dq_A g 114), .ref (dq_A g 115), .long x, .ref (dq_A g 116), .ref (dq_A g 117)])
  else if i = 103 then dq_ar g 5 r
  else if i = 104 then dq_ar g 5 r
  else if i = 105 then dq_ar g 24 r
  else if i = 106 then dq_ar g 4 r
  else if i = 107 then dq_ar g 34 r
  else if i = 108 then dq_ar g 10 r
  else if i = 109 then dq_ar g 24 r
  else if i = 110 then dq_ar g 4 r
  else if i = 111 then dq_ar g 64 r
  else if i = 112 then dq_ar g 238 r
  else if i = 113 then dq_ar g 6 r
  else if i = 114 then dq_ar g 6 r
  else if i = 115 then dq_ar g 6 r
  else if i = 116 then dq_br g 2 r
  else dq_ar g 34 r
def dq_ws (g : GT) (M : MM) (L : LL) : va_W := (List.range 118).map (fun i => (dq_A g i, dq_cell g i (M i) (L i)))
theorem va_up_id {α : Type} (f : Nat → α) (k : Nat) : va_up f k (f k) = f := funext fun j => by
  unfold va_up
  split
  · next h => rw [h]
  · rfl
/-- cell i, where its ints are r and its long x, is e -/
def CE (g : GT) (i : Nat) (r : Nat → Int32) (x : Int64) (e : va_E) : Prop := i < 118 ∧ dq_cell g i r x = e
theorem dq_get {g : GT} {M : MM} {L : LL} {i : Nat} {e : va_E} (h : CE g i (M i) (L i) e) : (dq_ws g M L)[i]? = some (dq_A g i, e) := by
  simp only [dq_ws, List.getElem?_map, List.getElem?_range h.1, Option.map_some, h.2]
theorem dq_set {g : GT} {M : MM} {L : LL} {i : Nat} {e : va_E} {r : Nat → Int32} {x : Int64} (h : CE g i r x e) : (dq_ws g M L).set i (dq_A g i, e) = dq_ws g (va_up M i r) (va_up L i x) := by
  apply List.ext_getElem?
  intro j
  by_cases hj : j < 118
  · by_cases hji : j = i
    · subst hji
      rw [List.getElem?_set_self (by simp only [dq_ws, List.length_map, List.length_range]; exact hj)]
      simp only [dq_ws, List.getElem?_map, List.getElem?_range hj, Option.map_some, va_up_self, h.2]
    · rw [List.getElem?_set_ne (Ne.symm hji)]
      simp only [dq_ws, List.getElem?_map, List.getElem?_range hj, Option.map_some, va_up_ne _ _ hji]
  · have h1 : ∀ l : va_W, l.length = 118 → l[j]? = none := fun l hl => List.getElem?_eq_none (by omega)
    rw [h1 _ (by simp [dq_ws]), h1 _ (by simp [dq_ws])]
def dq_dis (g : GT) : Prop := (∀ i j : Nat, i < 118 → j < 118 → dq_A g i = dq_A g j → i = j) ∧ ∀ i : Nat, i < 118 → dq_z g ≤ dq_A g i
theorem dq_wsD {g : GT} (h : dq_dis g) (M : MM) (L : LL) : va_D (dq_AA g) (dq_ws g M L) := by
  have key : ∀ (k : Nat) (q : Nat × va_E), (dq_ws g M L)[k]? = some q → k < 118 ∧ q.1 = dq_A g k := by
    intro k q hk
    have h1 : k < 118 := by
      have h2 := (List.getElem?_eq_some_iff.mp hk).1
      simpa [dq_ws] using h2
    simp only [dq_ws, List.getElem?_map, List.getElem?_range h1, Option.map_some] at hk
    cases hk
    exact ⟨h1, rfl⟩
  refine ⟨fun i j p q hi hj hpq => ?_, fun k q hk => ?_⟩
  · obtain ⟨a1, a2⟩ := key i p hi
    obtain ⟨b1, b2⟩ := key j q hj
    exact h.1 i j a1 b1 (by rw [← a2, ← b2]; exact hpq)
  · obtain ⟨a1, a2⟩ := key k q hk
    show dq_z g ≤ q.1
    rw [a2]
    exact h.2 k a1
def dq_ear (j : Nat) : Int32 := if j = 1 then 2 else if j = 2 then -2 else 0
def dq_n1 : Cond := .fieldLinkNest RX4 83 "DripEars" "EAR" "[I" "DripEars"
def dq_n2 : Cond := .fieldLinkNest RX1 26 "DripEars" "EAR" "[I" "DripEars"
/-- what stays through every call: tables, statics -/
def dq_St (g : GT) (U : State) (H : Heap) : Prop := va_K (dq_D g) vwCl (dq_T g) U ∧ dq_dis g ∧ va_Z "DripEars" "EAR" "[I" (.ref (dq_E g)) (dq_AA g) U H ∧ va_T .int (dq_E g) 4 (fun j => .int (dq_ear j)) (dq_AA g) U H ∧ va_Nw dq_n1 U ∧ va_Nw dq_n2 U
def dq_W (g : GT) (M : MM) (L : LL) (U : State) : Prop := va_P (dq_D g) vwCl (dq_ws g M L) U.heap ∧ dq_St g U U.heap
def QQ (g : GT) (Q : Option Value → MM → LL → Prop) : Array Value → State → Outcome → State → Prop := fun _ st o t => (∃ (r : Option Value) (M : MM) (L : LL), o = .returned r ∧ Q r M L ∧ va_P (dq_D g) vwCl (dq_ws g M L) t.heap) ∧ va_F (dq_AA g) st t
def rmD (d : Nat) : Room := { frames := d, cells := 0, slots := 0, locals := 38 * d }
/-- the contract of a method that makes no cell: from memory M, L it returns, Q -/
def CTQ (g : GT) (mi : MI) (d : Nat) (av : List Value) (M : MM) (L : LL) (Q : Option Value → MM → LL → Prop) : Prop := Met (dq_l g) (mi_y mi) (mi_w mi) (rmD d) (va_Pc av (dq_W g M L)) (QQ g Q) 0 0 (dq_AA g)
/-- the answer v, memory M, L -/
abbrev Rt (v : Option Value) (M : MM) (L : LL) : Option Value → MM → LL → Prop := fun r m l => r = v ∧ m = M ∧ l = L
abbrev CT (g : GT) (mi : MI) (d : Nat) (av : List Value) (M : MM) (L : LL) (v : Option Value) (M' : MM) (L' : LL) : Prop := CTQ g mi d av M L (Rt v M' L')
def Cx (g : GT) (mi : MI) (p : Program) (s : State) (m : MethodId) (args : Array Value) (meth : Method) (c : Code) : Prop :=
  p.tables.exec = Jvm.exec ∧ c.code = mi_c mi ∧ meth.sig.returnType = mi_r mi ∧ c.maxLocals = mi_n mi ∧ s.vm.findClass (mi_o mi) = some m.cls ∧ (∀ w ∈ mi_w mi, w.before args s = true) ∧ meth.locks = false ∧ dq_St g s s.heap
def lvH (ls : Array Slot) (n : Nat) (lv : List (Option Value)) : Prop := ls.size = n ∧ lv_wf ls ∧ ∀ (i : Nat) (v : Value), lv[i]? = some (some v) → ls[i]? = some (.val v)
def JW (g : GT) (mi : MI) (d : Nat) (Q : Option Value → MM → LL → Prop) (M : MM) (L : LL) (pc : Nat) (lv : List (Option Value)) (st : List Value) : Prop :=
  ∀ (p : Program) (e : Env) (s : State) (m : MethodId) (args : Array Value) (below : List Frame) (meth : Method) (c : Code) (H : Heap) (locs : List Loc) (ls : Array Slot),
    Cx g mi p s m args meth c → va_P (dq_D g) vwCl (dq_ws g M L) H → va_S (dq_AA g) s.heap H locs → lvH ls (mi_n mi) lv →
    W p (dq_l g) e (rmD d) s m args below meth c H locs 0 0 (MQ below (QQ g Q) args s 0 0 (dq_AA g)) (F0 m pc ls st)
/-- the facts of a method's names that its callers and its own walk want -/
def MOK (mi : MI) (n : Nat) : Prop := mi_w mi = Cond.code (mi_y mi) (mi_c mi) (mi_n mi) (mi_r mi) :: (mi_w mi).tail ∧ plainFor (mi_y mi) = true ∧ ((mi_y mi).cls ≠ "java/lang/invoke/MethodHandle" ∧ (mi_y mi).cls ≠ "java/lang/invoke/VarHandle" ∧ (parseMethodDescriptor (mi_y mi).desc).map (fun d => d.parameters.length) = some n) ∧ mi_n mi ≤ 19 ∧ (mi_y mi).cls = mi_o mi
/-! locals -/
def lv_in : Nat → List Value → List (Option Value)
  | n, [] => List.replicate n none
  | n, v :: vs => if v.category = 2 then some v :: none :: lv_in (n - 2) vs else some v :: lv_in (n - 1) vs
def lv_prs (lv : List (Option Value)) : List (Nat × Value) := (List.range lv.length).filterMap (fun i => (lv[i]?.join).map (fun v => (i, v)))
theorem lv_prs_mem {lv : List (Option Value)} {q : Nat × Value} : q ∈ lv_prs lv ↔ lv[q.1]? = some (some q.2) := by
  constructor
  · intro h
    obtain ⟨i, -, hi⟩ := List.mem_filterMap.mp h
    cases hx : lv[i]? with
    | none => rw [hx] at hi; cases hi
    | some w =>
      cases w with
      | none => rw [hx] at hi; cases hi
      | some v => rw [hx] at hi; cases hi; exact hx
  · intro h
    refine List.mem_filterMap.mpr ⟨q.1, ?_, ?_⟩
    · rw [List.mem_range]; exact (List.getElem?_eq_some_iff.mp h).1
    · rw [h]; rfl
theorem lvH.has {ls : Array Slot} {n : Nat} {lv : List (Option Value)} (h : lvH ls n lv) : lv_has ls n (lv_prs lv) := ⟨h.1, h.2.1, fun q hq => h.2.2 q.1 q.2 (lv_prs_mem.mp hq)⟩
theorem lvH.at {ls : Array Slot} {n i : Nat} {lv : List (Option Value)} {v : Value} (h : lvH ls n lv) (hv : lv[i]? = some (some v)) : ls[i]? = some (.val v) := h.2.2 i v hv
/-- no long lies right ahead of place i -/
def lv_ok (lv : List (Option Value)) (i : Nat) : Bool := match i with
  | 0 => true
  | k + 1 => match lv[k]? with
    | some (some v) => v.category != 2
    | _ => true
theorem lvH.set1 {ls : Array Slot} {n i : Nat} {lv : List (Option Value)} {v : Value} (h : lv_has ls n ((i, v) :: (lv_prs lv).filter (fun q => !(q.1 == i) && !(q.1 + 1 == i && q.2.category == 2)))) (hk : lv_ok lv i = true) : lvH ls n (lv.set i (some v)) := by
  refine ⟨h.1, h.2.1, fun j w hj => ?_⟩
  by_cases hji : j = i
  · subst hji
    by_cases hl : j < lv.length
    · rw [List.getElem?_set_self hl] at hj
      cases hj
      exact h.2.2 (j, v) List.mem_cons_self
    · rw [List.getElem?_eq_none (by rw [List.length_set]; omega)] at hj
      cases hj
  · rw [List.getElem?_set_ne (Ne.symm hji)] at hj
    refine h.2.2 (j, w) (List.mem_cons_of_mem _ (List.mem_filter.mpr ⟨lv_prs_mem.mpr hj, ?_⟩))
    simp only [Bool.and_eq_true, Bool.not_eq_true', beq_eq_false_iff_ne, ne_eq, Bool.and_eq_false_iff]
    refine ⟨hji, ?_⟩
    by_cases h1 : j + 1 = i
    · right
      subst h1
      simp only [lv_ok, hj, bne_iff_ne, ne_eq] at hk
      exact hk
    · left; exact h1
theorem lvH.set2 {ls : Array Slot} {n i : Nat} {lv : List (Option Value)} {v : Value} (h : lv_has ls n ((i, v) :: (lv_prs lv).filter (fun q => !(q.1 == i) && (!(q.1 == i + 1) && !(q.1 + 1 == i && q.2.category == 2))))) (hk : lv_ok lv i = true) : lvH ls n ((lv.set i (some v)).set (i + 1) none) := by
  refine ⟨h.1, h.2.1, fun j w hj => ?_⟩
  by_cases hj1 : j = i + 1
  · subst hj1
    by_cases hl : i + 1 < (lv.set i (some v)).length
    · rw [List.getElem?_set_self hl] at hj
      cases hj
    · rw [List.getElem?_eq_none (by rw [List.length_set]; omega)] at hj
      cases hj
  rw [List.getElem?_set_ne (Ne.symm hj1)] at hj
  by_cases hji : j = i
  · subst hji
    by_cases hl : j < lv.length
    · rw [List.getElem?_set_self hl] at hj
      cases hj
      exact h.2.2 (j, v) List.mem_cons_self
    · rw [List.getElem?_eq_none (by rw [List.length_set]; omega)] at hj
      cases hj
  · rw [List.getElem?_set_ne (Ne.symm hji)] at hj
    refine h.2.2 (j, w) (List.mem_cons_of_mem _ (List.mem_filter.mpr ⟨lv_prs_mem.mpr hj, ?_⟩))
    simp only [Bool.and_eq_true, Bool.not_eq_true', beq_eq_false_iff_ne, ne_eq, Bool.and_eq_false_iff]
    refine ⟨hji, hj1, ?_⟩
    by_cases h1 : j + 1 = i
    · right
      subst h1
      simp only [lv_ok, hj, bne_iff_ne, ne_eq] at hk
      exact hk
    · left; exact h1
theorem lv_in_args : ∀ (vs : List Value) (n k : Nat) (ls : Array Slot), (∀ q ∈ lv_args k vs, ls[q.1]? = some (.val q.2)) → ∀ (i : Nat) (v : Value), (lv_in n vs)[i]? = some (some v) → ls[k + i]? = some (.val v)
  | [], n, k, ls, _, i, v, h => by
    simp only [lv_in, List.getElem?_replicate] at h
    split at h <;> simp at h
  | w :: vs, n, k, ls, hq, i, v, h => by
    by_cases hc : w.category = 2
    · simp only [lv_in, hc, if_true] at h
      have h0 : ∀ q ∈ lv_args (k + 2) vs, ls[q.1]? = some (.val q.2) := fun q hm => hq q (by simp only [lv_args, hc]; exact List.mem_cons_of_mem _ hm)
      match i, h with
      | 0, h =>
        simp only [List.getElem?_cons_zero, Option.some.injEq] at h
        subst h
        exact hq (k, w) (by simp only [lv_args]; exact List.mem_cons_self)
      | 1, h => simp at h
      | i + 2, h =>
        have := lv_in_args vs (n - 2) (k + 2) ls h0 i v (by simpa using h)
        rw [show k + (i + 2) = k + 2 + i by omega]; exact this
    · have hc1 : w.category = 1 := by rcases lv_cat w with z | z; exact z; exact absurd z hc
      simp only [lv_in, hc, if_false] at h
      have h0 : ∀ q ∈ lv_args (k + 1) vs, ls[q.1]? = some (.val q.2) := fun q hm => hq q (by simp only [lv_args, hc1]; exact List.mem_cons_of_mem _ hm)
      match i, h with
      | 0, h =>
        simp only [List.getElem?_cons_zero, Option.some.injEq] at h
        subst h
        exact hq (k, w) (by simp only [lv_args]; exact List.mem_cons_self)
      | i + 1, h =>
        have := lv_in_args vs (n - 1) (k + 1) ls h0 i v (by simpa using h)
        rw [show k + (i + 1) = k + 1 + i by omega]; exact this
/-- a walk from the entry gives what a method does, also for a method of a class of the library that has native rows, if this one has none -/
theorem met_of {l : Launch} {y : MethodName} {ws ws' : List Cond} {rm : Room} {Pc : Array Value → State → Prop} {Qc : Array Value → State → Outcome → State → Prop} {mc ms : Nat} {free : Addr → Prop} {cc : ByteArray} {maxL : Nat} {ret : Option FieldType} (hy : plainFor y = true) (hw : ws = Cond.code y cc maxL ret :: ws') (body : ∀ p e s m args below meth c s₁, BodyLoose p l y (headSpec ws rm) cc maxL ret e s m args below meth c s₁ → c.maxLocals = maxL → Pc args s → W p l e (headSpec ws rm).room s m args below meth c s.heap [] 0 0 (MQ below Qc args s mc ms free) (entryFrame m args maxL)) : Met l y ws rm Pc Qc mc ms free := by
  refine MetFree.of_bodySF (code := cc) (maxLocals := maxL) (ret := ret) hy (fun args s m h hn => ?_) (fun p e s m args below meth c s₁ B hml hP _ => ?_)
  · have h0 := Cond.code_spec hn (atoms_spec (ws := ws) h _ (by rw [hw]; exact List.mem_cons_self))
    obtain ⟨meth, c, h1, h2, h3, h4, h5, h6, -, -⟩ := h0
    exact ⟨meth, c, h1, h2, h3, h4, h5, h6⟩
  · have hh : s₁.heap = s.heap := by rw [B.state]; rfl
    obtain ⟨t, a1, o, b1, b2, b3⟩ := body p e s m args below meth c s₁ B hml hP s₁ hh (Stand.of_body B)
    exact ⟨t, o, a1, b1, b2, ⟨b3.1, b3.2⟩⟩
/-- a walk from the entry gives the contract -/
theorem ct_of {g : GT} {mi : MI} {d n : Nat} {av : List Value} {M : MM} {L : LL} {Q : Option Value → MM → LL → Prop} {lv : List (Option Value)} (ok : MOK mi n) (hl : lv_in (mi_n mi) av = lv) (hn : (lg_sl av).length ≤ mi_n mi) (K : JW g mi d Q M L 0 lv []) : CTQ g mi d av M L Q := by
  refine met_of (cc := mi_c mi) (maxL := mi_n mi) (ret := mi_r mi) ok.2.1 ok.1 ?_
  intro p e s m args below meth c s₁ B hml hv
  obtain ⟨rfl, hP, hSt⟩ := hv
  have hts := atoms_spec (ws := mi_w mi) B.pre
  have hown : s.vm.findClass (mi_o mi) = some m.cls := by
    have h1 := findClass_of_methodNamed B.named
    rw [ok.2.2.2.2] at h1
    exact h1
  have hl0 := lv_entry av (n := mi_n mi) hn
  rw [lg_entry_eq]
  generalize (lg_sl av ++ List.replicate (mi_n mi - (lg_sl av).length) Slot.unset).toArray = ls at hl0 ⊢
  refine K p e s m _ below meth c s.heap [] ls ⟨B.exec, B.bytes, B.returns, hml, hown, hts, B.notSynchronized, hSt⟩ hP va_S.rf ⟨hl0.1, hl0.2.1, fun i v hi => ?_⟩
  have h2 := lv_in_args av (mi_n mi) 0 ls hl0.2.2 i v (by rw [hl]; exact hi)
  rwa [Nat.zero_add] at h2
section RO
variable {g : GT} {mi : MI} {d : Nat} {Q : Option Value → MM → LL → Prop} {M : MM} {L : LL} {pc : Nat} {lv : List (Option Value)} {st : List Value}

theorem ro_iconst {n : Int} {v : Int32} (hd : decode (mi_c mi) pc = .ok (.iconst n, 1)) (hv : Int32.ofInt n = v) (K : JW g mi d Q M L (pc + 1) lv (.int v :: st)) : JW g mi d Q M L pc lv (st) := by
  intro p e s m args below meth c H locs ls C hP hS hl
  exact lv_iconst C.1 C.2.1 hd hv (K p e s m args below meth c H locs ls C hP hS hl)
theorem ro_bipush {n : Int} {v : Int32} (hd : decode (mi_c mi) pc = .ok (.bipush n, 2)) (hv : (Int8.ofInt n).toInt32 = v) (K : JW g mi d Q M L (pc + 2) lv (.int v :: st)) : JW g mi d Q M L pc lv (st) := by
  intro p e s m args below meth c H locs ls C hP hS hl
  exact lv_bipush C.1 C.2.1 hd hv (K p e s m args below meth c H locs ls C hP hS hl)
theorem ro_sipush {n : Int} {v : Int32} (hd : decode (mi_c mi) pc = .ok (.sipush n, 3)) (hv : (Int16.ofInt n).toInt32 = v) (K : JW g mi d Q M L (pc + 3) lv (.int v :: st)) : JW g mi d Q M L pc lv (st) := by
  intro p e s m args below meth c H locs ls C hP hS hl
  exact lv_sipush C.1 C.2.1 hd hv (K p e s m args below meth c H locs ls C hP hS hl)
theorem ro_lconst {n : Fin 2} {v : Int64} (hd : decode (mi_c mi) pc = .ok (.lconst n, 1)) (hv : Int64.ofNat (n : Nat) = v) (K : JW g mi d Q M L (pc + 1) lv (.long v :: st)) : JW g mi d Q M L pc lv (st) := by
  intro p e s m args below meth c H locs ls C hP hS hl
  exact lv_lconst C.1 C.2.1 hd hv (K p e s m args below meth c H locs ls C hP hS hl)
theorem ro_iload_n {k : Fin 4} {i : Nat} {x : Int32} (hd : decode (mi_c mi) pc = .ok (.iload_n k, 1)) (hi : (k : Nat) = i) (hv : lv[i]? = some (some (.int x))) (K : JW g mi d Q M L (pc + 1) lv (.int x :: st)) : JW g mi d Q M L pc lv (st) := by
  intro p e s m args below meth c H locs ls C hP hS hl
  exact lv_iload_n C.1 C.2.1 hd hi (hl.at hv) (K p e s m args below meth c H locs ls C hP hS hl)
theorem ro_iload {i : Nat} {x : Int32} (hd : decode (mi_c mi) pc = .ok (.iload i, 2)) (hv : lv[i]? = some (some (.int x))) (K : JW g mi d Q M L (pc + 2) lv (.int x :: st)) : JW g mi d Q M L pc lv (st) := by
  intro p e s m args below meth c H locs ls C hP hS hl
  exact lv_iload C.1 C.2.1 hd (hl.at hv) (K p e s m args below meth c H locs ls C hP hS hl)
theorem ro_lload_n {k : Fin 4} {i : Nat} {x : Int64} (hd : decode (mi_c mi) pc = .ok (.lload_n k, 1)) (hi : (k : Nat) = i) (hv : lv[i]? = some (some (.long x))) (K : JW g mi d Q M L (pc + 1) lv (.long x :: st)) : JW g mi d Q M L pc lv (st) := by
  intro p e s m args below meth c H locs ls C hP hS hl
  exact lv_lload_n C.1 C.2.1 hd hi (hl.at hv) (K p e s m args below meth c H locs ls C hP hS hl)
theorem ro_lload {i : Nat} {x : Int64} (hd : decode (mi_c mi) pc = .ok (.lload i, 2)) (hv : lv[i]? = some (some (.long x))) (K : JW g mi d Q M L (pc + 2) lv (.long x :: st)) : JW g mi d Q M L pc lv (st) := by
  intro p e s m args below meth c H locs ls C hP hS hl
  exact lv_lload C.1 C.2.1 hd (hl.at hv) (K p e s m args below meth c H locs ls C hP hS hl)
theorem ro_aload_n {k : Fin 4} {i : Nat} {x : Nat} (hd : decode (mi_c mi) pc = .ok (.aload_n k, 1)) (hi : (k : Nat) = i) (hv : lv[i]? = some (some (.ref x))) (K : JW g mi d Q M L (pc + 1) lv (.ref x :: st)) : JW g mi d Q M L pc lv (st) := by
  intro p e s m args below meth c H locs ls C hP hS hl
  exact lv_aload_n C.1 C.2.1 hd hi (hl.at hv) (K p e s m args below meth c H locs ls C hP hS hl)
theorem ro_aload {i : Nat} {x : Nat} (hd : decode (mi_c mi) pc = .ok (.aload i, 2)) (hv : lv[i]? = some (some (.ref x))) (K : JW g mi d Q M L (pc + 2) lv (.ref x :: st)) : JW g mi d Q M L pc lv (st) := by
  intro p e s m args below meth c H locs ls C hP hS hl
  exact lv_aload C.1 C.2.1 hd (hl.at hv) (K p e s m args below meth c H locs ls C hP hS hl)
theorem ro_istore_nG {k : Fin 4} {i : Nat} {x : Int32} (hd : decode (mi_c mi) pc = .ok (.istore_n k, 1)) (hi : (k : Nat) = i) (hn : i < mi_n mi) (hk : lv_ok lv i = true) (K : JW g mi d Q M L (pc + 1) (lv.set i (some (.int x))) st) : JW g mi d Q M L pc lv (.int x :: st) := by
  intro p e s m args below meth c H locs ls C hP hS hl
  exact lv_istore_n C.1 C.2.1 hd hi hl.has hn rfl (fun ls' hl' => K p e s m args below meth c H locs ls' C hP hS (lvH.set1 hl' hk))
theorem ro_istoreG {i : Nat} {x : Int32} (hd : decode (mi_c mi) pc = .ok (.istore i, 2)) (hn : i < mi_n mi) (hk : lv_ok lv i = true) (K : JW g mi d Q M L (pc + 2) (lv.set i (some (.int x))) st) : JW g mi d Q M L pc lv (.int x :: st) := by
  intro p e s m args below meth c H locs ls C hP hS hl
  exact lv_istore C.1 C.2.1 hd hl.has hn rfl (fun ls' hl' => K p e s m args below meth c H locs ls' C hP hS (lvH.set1 hl' hk))
theorem ro_astore_nG {k : Fin 4} {i : Nat} {x : Nat} (hd : decode (mi_c mi) pc = .ok (.astore_n k, 1)) (hi : (k : Nat) = i) (hn : i < mi_n mi) (hk : lv_ok lv i = true) (K : JW g mi d Q M L (pc + 1) (lv.set i (some (.ref x))) st) : JW g mi d Q M L pc lv (.ref x :: st) := by
  intro p e s m args below meth c H locs ls C hP hS hl
  exact lv_astore_n C.1 C.2.1 hd hi hl.has hn rfl (fun ls' hl' => K p e s m args below meth c H locs ls' C hP hS (lvH.set1 hl' hk))
theorem ro_astoreG {i : Nat} {x : Nat} (hd : decode (mi_c mi) pc = .ok (.astore i, 2)) (hn : i < mi_n mi) (hk : lv_ok lv i = true) (K : JW g mi d Q M L (pc + 2) (lv.set i (some (.ref x))) st) : JW g mi d Q M L pc lv (.ref x :: st) := by
  intro p e s m args below meth c H locs ls C hP hS hl
  exact lv_astore C.1 C.2.1 hd hl.has hn rfl (fun ls' hl' => K p e s m args below meth c H locs ls' C hP hS (lvH.set1 hl' hk))
theorem ro_lstore_nG {k : Fin 4} {i : Nat} {x : Int64} (hd : decode (mi_c mi) pc = .ok (.lstore_n k, 1)) (hi : (k : Nat) = i) (hn : i + 1 < mi_n mi) (hk : lv_ok lv i = true) (K : JW g mi d Q M L (pc + 1) ((lv.set i (some (.long x))).set (i + 1) none) st) : JW g mi d Q M L pc lv (.long x :: st) := by
  intro p e s m args below meth c H locs ls C hP hS hl
  exact lv_lstore_n C.1 C.2.1 hd hi hl.has hn rfl (fun ls' hl' => K p e s m args below meth c H locs ls' C hP hS (lvH.set2 hl' hk))
theorem ro_lstoreG {i : Nat} {x : Int64} (hd : decode (mi_c mi) pc = .ok (.lstore i, 2)) (hn : i + 1 < mi_n mi) (hk : lv_ok lv i = true) (K : JW g mi d Q M L (pc + 2) ((lv.set i (some (.long x))).set (i + 1) none) st) : JW g mi d Q M L pc lv (.long x :: st) := by
  intro p e s m args below meth c H locs ls C hP hS hl
  exact lv_lstore C.1 C.2.1 hd hl.has hn rfl (fun ls' hl' => K p e s m args below meth c H locs ls' C hP hS (lvH.set2 hl' hk))
theorem ro_iincG {i : Nat} {n : Int} {x : Int32} (hd : decode (mi_c mi) pc = .ok (.iinc i n, 3)) (hn : i < mi_n mi) (hv : lv[i]? = some (some (.int x))) (hk : lv_ok lv i = true) (K : JW g mi d Q M L (pc + 3) (lv.set i (some (.int (x + Int32.ofInt n)))) st) : JW g mi d Q M L pc lv st := by
  intro p e s m args below meth c H locs ls C hP hS hl
  obtain ⟨k, hk2⟩ := List.getElem?_of_mem (lv_prs_mem (lv := lv) (q := (i, .int x)).mpr hv)
  exact lv_iinc C.1 C.2.1 hd hl.has hk2 rfl hn rfl (fun ls' hl' => K p e s m args below meth c H locs ls' C hP hS (lvH.set1 hl' hk))
theorem ro_istore_n0 {x0 : Option Value} {lt : List (Option Value)} {x : Int32} (hd : decode (mi_c mi) pc = .ok (.istore_n 0, 1)) (hn : 0 < mi_n mi) (hk : lv_ok (x0 :: lt) 0 = true) (K : JW g mi d Q M L (pc + 1) (some (.int x) :: lt) st) : JW g mi d Q M L pc (x0 :: lt) (.int x :: st) := ro_istore_nG hd rfl hn hk K
theorem ro_istore0 {x0 : Option Value} {lt : List (Option Value)} {x : Int32} (hd : decode (mi_c mi) pc = .ok (.istore 0, 2)) (hn : 0 < mi_n mi) (hk : lv_ok (x0 :: lt) 0 = true) (K : JW g mi d Q M L (pc + 2) (some (.int x) :: lt) st) : JW g mi d Q M L pc (x0 :: lt) (.int x :: st) := ro_istoreG hd hn hk K
theorem ro_astore_n0 {x0 : Option Value} {lt : List (Option Value)} {x : Nat} (hd : decode (mi_c mi) pc = .ok (.astore_n 0, 1)) (hn : 0 < mi_n mi) (hk : lv_ok (x0 :: lt) 0 = true) (K : JW g mi d Q M L (pc + 1) (some (.ref x) :: lt) st) : JW g mi d Q M L pc (x0 :: lt) (.ref x :: st) := ro_astore_nG hd rfl hn hk K
theorem ro_astore0 {x0 : Option Value} {lt : List (Option Value)} {x : Nat} (hd : decode (mi_c mi) pc = .ok (.astore 0, 2)) (hn : 0 < mi_n mi) (hk : lv_ok (x0 :: lt) 0 = true) (K : JW g mi d Q M L (pc + 2) (some (.ref x) :: lt) st) : JW g mi d Q M L pc (x0 :: lt) (.ref x :: st) := ro_astoreG hd hn hk K
theorem ro_iinc0 {lt : List (Option Value)} {n : Int} {x v : Int32} (hd : decode (mi_c mi) pc = .ok (.iinc 0 n, 3)) (hn : 0 < mi_n mi) (hv : x + Int32.ofInt n = v) (hk : lv_ok (some (.int x) :: lt) 0 = true) (K : JW g mi d Q M L (pc + 3) (some (.int v) :: lt) st) : JW g mi d Q M L pc (some (.int x) :: lt) st := by
  subst hv
  exact ro_iincG hd hn rfl hk K
theorem ro_lstore_n0 {x0 x1 : Option Value} {lt : List (Option Value)} {x : Int64} (hd : decode (mi_c mi) pc = .ok (.lstore_n 0, 1)) (hn : 0 + 1 < mi_n mi) (hk : lv_ok (x0 :: x1 :: lt) 0 = true) (K : JW g mi d Q M L (pc + 1) (some (.long x) :: none :: lt) st) : JW g mi d Q M L pc (x0 :: x1 :: lt) (.long x :: st) := ro_lstore_nG hd rfl hn hk K
theorem ro_lstore0 {x0 x1 : Option Value} {lt : List (Option Value)} {x : Int64} (hd : decode (mi_c mi) pc = .ok (.lstore 0, 2)) (hn : 0 + 1 < mi_n mi) (hk : lv_ok (x0 :: x1 :: lt) 0 = true) (K : JW g mi d Q M L (pc + 2) (some (.long x) :: none :: lt) st) : JW g mi d Q M L pc (x0 :: x1 :: lt) (.long x :: st) := ro_lstoreG hd hn hk K
theorem ro_istore_n1 {x0 x1 : Option Value} {lt : List (Option Value)} {x : Int32} (hd : decode (mi_c mi) pc = .ok (.istore_n 1, 1)) (hn : 1 < mi_n mi) (hk : lv_ok (x0 :: x1 :: lt) 1 = true) (K : JW g mi d Q M L (pc + 1) (x0 :: some (.int x) :: lt) st) : JW g mi d Q M L pc (x0 :: x1 :: lt) (.int x :: st) := ro_istore_nG hd rfl hn hk K
theorem ro_istore1 {x0 x1 : Option Value} {lt : List (Option Value)} {x : Int32} (hd : decode (mi_c mi) pc = .ok (.istore 1, 2)) (hn : 1 < mi_n mi) (hk : lv_ok (x0 :: x1 :: lt) 1 = true) (K : JW g mi d Q M L (pc + 2) (x0 :: some (.int x) :: lt) st) : JW g mi d Q M L pc (x0 :: x1 :: lt) (.int x :: st) := ro_istoreG hd hn hk K
theorem ro_astore_n1 {x0 x1 : Option Value} {lt : List (Option Value)} {x : Nat} (hd : decode (mi_c mi) pc = .ok (.astore_n 1, 1)) (hn : 1 < mi_n mi) (hk : lv_ok (x0 :: x1 :: lt) 1 = true) (K : JW g mi d Q M L (pc + 1) (x0 :: some (.ref x) :: lt) st) : JW g mi d Q M L pc (x0 :: x1 :: lt) (.ref x :: st) := ro_astore_nG hd rfl hn hk K
theorem ro_astore1 {x0 x1 : Option Value} {lt : List (Option Value)} {x : Nat} (hd : decode (mi_c mi) pc = .ok (.astore 1, 2)) (hn : 1 < mi_n mi) (hk : lv_ok (x0 :: x1 :: lt) 1 = true) (K : JW g mi d Q M L (pc + 2) (x0 :: some (.ref x) :: lt) st) : JW g mi d Q M L pc (x0 :: x1 :: lt) (.ref x :: st) := ro_astoreG hd hn hk K
theorem ro_iinc1 {x0 : Option Value} {lt : List (Option Value)} {n : Int} {x v : Int32} (hd : decode (mi_c mi) pc = .ok (.iinc 1 n, 3)) (hn : 1 < mi_n mi) (hv : x + Int32.ofInt n = v) (hk : lv_ok (x0 :: some (.int x) :: lt) 1 = true) (K : JW g mi d Q M L (pc + 3) (x0 :: some (.int v) :: lt) st) : JW g mi d Q M L pc (x0 :: some (.int x) :: lt) st := by
  subst hv
  exact ro_iincG hd hn rfl hk K
theorem ro_lstore_n1 {x0 x1 x2 : Option Value} {lt : List (Option Value)} {x : Int64} (hd : decode (mi_c mi) pc = .ok (.lstore_n 1, 1)) (hn : 1 + 1 < mi_n mi) (hk : lv_ok (x0 :: x1 :: x2 :: lt) 1 = true) (K : JW g mi d Q M L (pc + 1) (x0 :: some (.long x) :: none :: lt) st) : JW g mi d Q M L pc (x0 :: x1 :: x2 :: lt) (.long x :: st) := ro_lstore_nG hd rfl hn hk K
theorem ro_lstore1 {x0 x1 x2 : Option Value} {lt : List (Option Value)} {x : Int64} (hd : decode (mi_c mi) pc = .ok (.lstore 1, 2)) (hn : 1 + 1 < mi_n mi) (hk : lv_ok (x0 :: x1 :: x2 :: lt) 1 = true) (K : JW g mi d Q M L (pc + 2) (x0 :: some (.long x) :: none :: lt) st) : JW g mi d Q M L pc (x0 :: x1 :: x2 :: lt) (.long x :: st) := ro_lstoreG hd hn hk K
theorem ro_istore_n2 {x0 x1 x2 : Option Value} {lt : List (Option Value)} {x : Int32} (hd : decode (mi_c mi) pc = .ok (.istore_n 2, 1)) (hn : 2 < mi_n mi) (hk : lv_ok (x0 :: x1 :: x2 :: lt) 2 = true) (K : JW g mi d Q M L (pc + 1) (x0 :: x1 :: some (.int x) :: lt) st) : JW g mi d Q M L pc (x0 :: x1 :: x2 :: lt) (.int x :: st) := ro_istore_nG hd rfl hn hk K
theorem ro_istore2 {x0 x1 x2 : Option Value} {lt : List (Option Value)} {x : Int32} (hd : decode (mi_c mi) pc = .ok (.istore 2, 2)) (hn : 2 < mi_n mi) (hk : lv_ok (x0 :: x1 :: x2 :: lt) 2 = true) (K : JW g mi d Q M L (pc + 2) (x0 :: x1 :: some (.int x) :: lt) st) : JW g mi d Q M L pc (x0 :: x1 :: x2 :: lt) (.int x :: st) := ro_istoreG hd hn hk K
theorem ro_astore_n2 {x0 x1 x2 : Option Value} {lt : List (Option Value)} {x : Nat} (hd : decode (mi_c mi) pc = .ok (.astore_n 2, 1)) (hn : 2 < mi_n mi) (hk : lv_ok (x0 :: x1 :: x2 :: lt) 2 = true) (K : JW g mi d Q M L (pc + 1) (x0 :: x1 :: some (.ref x) :: lt) st) : JW g mi d Q M L pc (x0 :: x1 :: x2 :: lt) (.ref x :: st) := ro_astore_nG hd rfl hn hk K
theorem ro_astore2 {x0 x1 x2 : Option Value} {lt : List (Option Value)} {x : Nat} (hd : decode (mi_c mi) pc = .ok (.astore 2, 2)) (hn : 2 < mi_n mi) (hk : lv_ok (x0 :: x1 :: x2 :: lt) 2 = true) (K : JW g mi d Q M L (pc + 2) (x0 :: x1 :: some (.ref x) :: lt) st) : JW g mi d Q M L pc (x0 :: x1 :: x2 :: lt) (.ref x :: st) := ro_astoreG hd hn hk K
theorem ro_iinc2 {x0 x1 : Option Value} {lt : List (Option Value)} {n : Int} {x v : Int32} (hd : decode (mi_c mi) pc = .ok (.iinc 2 n, 3)) (hn : 2 < mi_n mi) (hv : x + Int32.ofInt n = v) (hk : lv_ok (x0 :: x1 :: some (.int x) :: lt) 2 = true) (K : JW g mi d Q M L (pc + 3) (x0 :: x1 :: some (.int v) :: lt) st) : JW g mi d Q M L pc (x0 :: x1 :: some (.int x) :: lt) st := by
  subst hv
  exact ro_iincG hd hn rfl hk K
theorem ro_lstore_n2 {x0 x1 x2 x3 : Option Value} {lt : List (Option Value)} {x : Int64} (hd : decode (mi_c mi) pc = .ok (.lstore_n 2, 1)) (hn : 2 + 1 < mi_n mi) (hk : lv_ok (x0 :: x1 :: x2 :: x3 :: lt) 2 = true) (K : JW g mi d Q M L (pc + 1) (x0 :: x1 :: some (.long x) :: none :: lt) st) : JW g mi d Q M L pc (x0 :: x1 :: x2 :: x3 :: lt) (.long x :: st) := ro_lstore_nG hd rfl hn hk K
theorem ro_lstore2 {x0 x1 x2 x3 : Option Value} {lt : List (Option Value)} {x : Int64} (hd : decode (mi_c mi) pc = .ok (.lstore 2, 2)) (hn : 2 + 1 < mi_n mi) (hk : lv_ok (x0 :: x1 :: x2 :: x3 :: lt) 2 = true) (K : JW g mi d Q M L (pc + 2) (x0 :: x1 :: some (.long x) :: none :: lt) st) : JW g mi d Q M L pc (x0 :: x1 :: x2 :: x3 :: lt) (.long x :: st) := ro_lstoreG hd hn hk K
theorem ro_istore_n3 {x0 x1 x2 x3 : Option Value} {lt : List (Option Value)} {x : Int32} (hd : decode (mi_c mi) pc = .ok (.istore_n 3, 1)) (hn : 3 < mi_n mi) (hk : lv_ok (x0 :: x1 :: x2 :: x3 :: lt) 3 = true) (K : JW g mi d Q M L (pc + 1) (x0 :: x1 :: x2 :: some (.int x) :: lt) st) : JW g mi d Q M L pc (x0 :: x1 :: x2 :: x3 :: lt) (.int x :: st) := ro_istore_nG hd rfl hn hk K
theorem ro_istore3 {x0 x1 x2 x3 : Option Value} {lt : List (Option Value)} {x : Int32} (hd : decode (mi_c mi) pc = .ok (.istore 3, 2)) (hn : 3 < mi_n mi) (hk : lv_ok (x0 :: x1 :: x2 :: x3 :: lt) 3 = true) (K : JW g mi d Q M L (pc + 2) (x0 :: x1 :: x2 :: some (.int x) :: lt) st) : JW g mi d Q M L pc (x0 :: x1 :: x2 :: x3 :: lt) (.int x :: st) := ro_istoreG hd hn hk K
theorem ro_astore_n3 {x0 x1 x2 x3 : Option Value} {lt : List (Option Value)} {x : Nat} (hd : decode (mi_c mi) pc = .ok (.astore_n 3, 1)) (hn : 3 < mi_n mi) (hk : lv_ok (x0 :: x1 :: x2 :: x3 :: lt) 3 = true) (K : JW g mi d Q M L (pc + 1) (x0 :: x1 :: x2 :: some (.ref x) :: lt) st) : JW g mi d Q M L pc (x0 :: x1 :: x2 :: x3 :: lt) (.ref x :: st) := ro_astore_nG hd rfl hn hk K
theorem ro_astore3 {x0 x1 x2 x3 : Option Value} {lt : List (Option Value)} {x : Nat} (hd : decode (mi_c mi) pc = .ok (.astore 3, 2)) (hn : 3 < mi_n mi) (hk : lv_ok (x0 :: x1 :: x2 :: x3 :: lt) 3 = true) (K : JW g mi d Q M L (pc + 2) (x0 :: x1 :: x2 :: some (.ref x) :: lt) st) : JW g mi d Q M L pc (x0 :: x1 :: x2 :: x3 :: lt) (.ref x :: st) := ro_astoreG hd hn hk K
theorem ro_iinc3 {x0 x1 x2 : Option Value} {lt : List (Option Value)} {n : Int} {x v : Int32} (hd : decode (mi_c mi) pc = .ok (.iinc 3 n, 3)) (hn : 3 < mi_n mi) (hv : x + Int32.ofInt n = v) (hk : lv_ok (x0 :: x1 :: x2 :: some (.int x) :: lt) 3 = true) (K : JW g mi d Q M L (pc + 3) (x0 :: x1 :: x2 :: some (.int v) :: lt) st) : JW g mi d Q M L pc (x0 :: x1 :: x2 :: some (.int x) :: lt) st := by
  subst hv
  exact ro_iincG hd hn rfl hk K
theorem ro_lstore_n3 {x0 x1 x2 x3 x4 : Option Value} {lt : List (Option Value)} {x : Int64} (hd : decode (mi_c mi) pc = .ok (.lstore_n 3, 1)) (hn : 3 + 1 < mi_n mi) (hk : lv_ok (x0 :: x1 :: x2 :: x3 :: x4 :: lt) 3 = true) (K : JW g mi d Q M L (pc + 1) (x0 :: x1 :: x2 :: some (.long x) :: none :: lt) st) : JW g mi d Q M L pc (x0 :: x1 :: x2 :: x3 :: x4 :: lt) (.long x :: st) := ro_lstore_nG hd rfl hn hk K
theorem ro_lstore3 {x0 x1 x2 x3 x4 : Option Value} {lt : List (Option Value)} {x : Int64} (hd : decode (mi_c mi) pc = .ok (.lstore 3, 2)) (hn : 3 + 1 < mi_n mi) (hk : lv_ok (x0 :: x1 :: x2 :: x3 :: x4 :: lt) 3 = true) (K : JW g mi d Q M L (pc + 2) (x0 :: x1 :: x2 :: some (.long x) :: none :: lt) st) : JW g mi d Q M L pc (x0 :: x1 :: x2 :: x3 :: x4 :: lt) (.long x :: st) := ro_lstoreG hd hn hk K
theorem ro_istore4 {x0 x1 x2 x3 x4 : Option Value} {lt : List (Option Value)} {x : Int32} (hd : decode (mi_c mi) pc = .ok (.istore 4, 2)) (hn : 4 < mi_n mi) (hk : lv_ok (x0 :: x1 :: x2 :: x3 :: x4 :: lt) 4 = true) (K : JW g mi d Q M L (pc + 2) (x0 :: x1 :: x2 :: x3 :: some (.int x) :: lt) st) : JW g mi d Q M L pc (x0 :: x1 :: x2 :: x3 :: x4 :: lt) (.int x :: st) := ro_istoreG hd hn hk K
theorem ro_astore4 {x0 x1 x2 x3 x4 : Option Value} {lt : List (Option Value)} {x : Nat} (hd : decode (mi_c mi) pc = .ok (.astore 4, 2)) (hn : 4 < mi_n mi) (hk : lv_ok (x0 :: x1 :: x2 :: x3 :: x4 :: lt) 4 = true) (K : JW g mi d Q M L (pc + 2) (x0 :: x1 :: x2 :: x3 :: some (.ref x) :: lt) st) : JW g mi d Q M L pc (x0 :: x1 :: x2 :: x3 :: x4 :: lt) (.ref x :: st) := ro_astoreG hd hn hk K
theorem ro_iinc4 {x0 x1 x2 x3 : Option Value} {lt : List (Option Value)} {n : Int} {x v : Int32} (hd : decode (mi_c mi) pc = .ok (.iinc 4 n, 3)) (hn : 4 < mi_n mi) (hv : x + Int32.ofInt n = v) (hk : lv_ok (x0 :: x1 :: x2 :: x3 :: some (.int x) :: lt) 4 = true) (K : JW g mi d Q M L (pc + 3) (x0 :: x1 :: x2 :: x3 :: some (.int v) :: lt) st) : JW g mi d Q M L pc (x0 :: x1 :: x2 :: x3 :: some (.int x) :: lt) st := by
  subst hv
  exact ro_iincG hd hn rfl hk K
theorem ro_lstore4 {x0 x1 x2 x3 x4 x5 : Option Value} {lt : List (Option Value)} {x : Int64} (hd : decode (mi_c mi) pc = .ok (.lstore 4, 2)) (hn : 4 + 1 < mi_n mi) (hk : lv_ok (x0 :: x1 :: x2 :: x3 :: x4 :: x5 :: lt) 4 = true) (K : JW g mi d Q M L (pc + 2) (x0 :: x1 :: x2 :: x3 :: some (.long x) :: none :: lt) st) : JW g mi d Q M L pc (x0 :: x1 :: x2 :: x3 :: x4 :: x5 :: lt) (.long x :: st) := ro_lstoreG hd hn hk K
theorem ro_istore5 {x0 x1 x2 x3 x4 x5 : Option Value} {lt : List (Option Value)} {x : Int32} (hd : decode (mi_c mi) pc = .ok (.istore 5, 2)) (hn : 5 < mi_n mi) (hk : lv_ok (x0 :: x1 :: x2 :: x3 :: x4 :: x5 :: lt) 5 = true) (K : JW g mi d Q M L (pc + 2) (x0 :: x1 :: x2 :: x3 :: x4 :: some (.int x) :: lt) st) : JW g mi d Q M L pc (x0 :: x1 :: x2 :: x3 :: x4 :: x5 :: lt) (.int x :: st) := ro_istoreG hd hn hk K
theorem ro_astore5 {x0 x1 x2 x3 x4 x5 : Option Value} {lt : List (Option Value)} {x : Nat} (hd : decode (mi_c mi) pc = .ok (.astore 5, 2)) (hn : 5 < mi_n mi) (hk : lv_ok (x0 :: x1 :: x2 :: x3 :: x4 :: x5 :: lt) 5 = true) (K : JW g mi d Q M L (pc + 2) (x0 :: x1 :: x2 :: x3 :: x4 :: some (.ref x) :: lt) st) : JW g mi d Q M L pc (x0 :: x1 :: x2 :: x3 :: x4 :: x5 :: lt) (.ref x :: st) := ro_astoreG hd hn hk K
theorem ro_iinc5 {x0 x1 x2 x3 x4 : Option Value} {lt : List (Option Value)} {n : Int} {x v : Int32} (hd : decode (mi_c mi) pc = .ok (.iinc 5 n, 3)) (hn : 5 < mi_n mi) (hv : x + Int32.ofInt n = v) (hk : lv_ok (x0 :: x1 :: x2 :: x3 :: x4 :: some (.int x) :: lt) 5 = true) (K : JW g mi d Q M L (pc + 3) (x0 :: x1 :: x2 :: x3 :: x4 :: some (.int v) :: lt) st) : JW g mi d Q M L pc (x0 :: x1 :: x2 :: x3 :: x4 :: some (.int x) :: lt) st := by
  subst hv
  exact ro_iincG hd hn rfl hk K
theorem ro_lstore5 {x0 x1 x2 x3 x4 x5 x6 : Option Value} {lt : List (Option Value)} {x : Int64} (hd : decode (mi_c mi) pc = .ok (.lstore 5, 2)) (hn : 5 + 1 < mi_n mi) (hk : lv_ok (x0 :: x1 :: x2 :: x3 :: x4 :: x5 :: x6 :: lt) 5 = true) (K : JW g mi d Q M L (pc + 2) (x0 :: x1 :: x2 :: x3 :: x4 :: some (.long x) :: none :: lt) st) : JW g mi d Q M L pc (x0 :: x1 :: x2 :: x3 :: x4 :: x5 :: x6 :: lt) (.long x :: st) := ro_lstoreG hd hn hk K
theorem ro_istore6 {x0 x1 x2 x3 x4 x5 x6 : Option Value} {lt : List (Option Value)} {x : Int32} (hd : decode (mi_c mi) pc = .ok (.istore 6, 2)) (hn : 6 < mi_n mi) (hk : lv_ok (x0 :: x1 :: x2 :: x3 :: x4 :: x5 :: x6 :: lt) 6 = true) (K : JW g mi d Q M L (pc + 2) (x0 :: x1 :: x2 :: x3 :: x4 :: x5 :: some (.int x) :: lt) st) : JW g mi d Q M L pc (x0 :: x1 :: x2 :: x3 :: x4 :: x5 :: x6 :: lt) (.int x :: st) := ro_istoreG hd hn hk K
theorem ro_astore6 {x0 x1 x2 x3 x4 x5 x6 : Option Value} {lt : List (Option Value)} {x : Nat} (hd : decode (mi_c mi) pc = .ok (.astore 6, 2)) (hn : 6 < mi_n mi) (hk : lv_ok (x0 :: x1 :: x2 :: x3 :: x4 :: x5 :: x6 :: lt) 6 = true) (K : JW g mi d Q M L (pc + 2) (x0 :: x1 :: x2 :: x3 :: x4 :: x5 :: some (.ref x) :: lt) st) : JW g mi d Q M L pc (x0 :: x1 :: x2 :: x3 :: x4 :: x5 :: x6 :: lt) (.ref x :: st) := ro_astoreG hd hn hk K
theorem ro_iinc6 {x0 x1 x2 x3 x4 x5 : Option Value} {lt : List (Option Value)} {n : Int} {x v : Int32} (hd : decode (mi_c mi) pc = .ok (.iinc 6 n, 3)) (hn : 6 < mi_n mi) (hv : x + Int32.ofInt n = v) (hk : lv_ok (x0 :: x1 :: x2 :: x3 :: x4 :: x5 :: some (.int x) :: lt) 6 = true) (K : JW g mi d Q M L (pc + 3) (x0 :: x1 :: x2 :: x3 :: x4 :: x5 :: some (.int v) :: lt) st) : JW g mi d Q M L pc (x0 :: x1 :: x2 :: x3 :: x4 :: x5 :: some (.int x) :: lt) st := by
  subst hv
  exact ro_iincG hd hn rfl hk K
theorem ro_lstore6 {x0 x1 x2 x3 x4 x5 x6 x7 : Option Value} {lt : List (Option Value)} {x : Int64} (hd : decode (mi_c mi) pc = .ok (.lstore 6, 2)) (hn : 6 + 1 < mi_n mi) (hk : lv_ok (x0 :: x1 :: x2 :: x3 :: x4 :: x5 :: x6 :: x7 :: lt) 6 = true) (K : JW g mi d Q M L (pc + 2) (x0 :: x1 :: x2 :: x3 :: x4 :: x5 :: some (.long x) :: none :: lt) st) : JW g mi d Q M L pc (x0 :: x1 :: x2 :: x3 :: x4 :: x5 :: x6 :: x7 :: lt) (.long x :: st) := ro_lstoreG hd hn hk K
theorem ro_istore7 {x0 x1 x2 x3 x4 x5 x6 x7 : Option Value} {lt : List (Option Value)} {x : Int32} (hd : decode (mi_c mi) pc = .ok (.istore 7, 2)) (hn : 7 < mi_n mi) (hk : lv_ok (x0 :: x1 :: x2 :: x3 :: x4 :: x5 :: x6 :: x7 :: lt) 7 = true) (K : JW g mi d Q M L (pc + 2) (x0 :: x1 :: x2 :: x3 :: x4 :: x5 :: x6 :: some (.int x) :: lt) st) : JW g mi d Q M L pc (x0 :: x1 :: x2 :: x3 :: x4 :: x5 :: x6 :: x7 :: lt) (.int x :: st) := ro_istoreG hd hn hk K
theorem ro_astore7 {x0 x1 x2 x3 x4 x5 x6 x7 : Option Value} {lt : List (Option Value)} {x : Nat} (hd : decode (mi_c mi) pc = .ok (.astore 7, 2)) (hn : 7 < mi_n mi) (hk : lv_ok (x0 :: x1 :: x2 :: x3 :: x4 :: x5 :: x6 :: x7 :: lt) 7 = true) (K : JW g mi d Q M L (pc + 2) (x0 :: x1 :: x2 :: x3 :: x4 :: x5 :: x6 :: some (.ref x) :: lt) st) : JW g mi d Q M L pc (x0 :: x1 :: x2 :: x3 :: x4 :: x5 :: x6 :: x7 :: lt) (.ref x :: st) := ro_astoreG hd hn hk K
theorem ro_iinc7 {x0 x1 x2 x3 x4 x5 x6 : Option Value} {lt : List (Option Value)} {n : Int} {x v : Int32} (hd : decode (mi_c mi) pc = .ok (.iinc 7 n, 3)) (hn : 7 < mi_n mi) (hv : x + Int32.ofInt n = v) (hk : lv_ok (x0 :: x1 :: x2 :: x3 :: x4 :: x5 :: x6 :: some (.int x) :: lt) 7 = true) (K : JW g mi d Q M L (pc + 3) (x0 :: x1 :: x2 :: x3 :: x4 :: x5 :: x6 :: some (.int v) :: lt) st) : JW g mi d Q M L pc (x0 :: x1 :: x2 :: x3 :: x4 :: x5 :: x6 :: some (.int x) :: lt) st := by
  subst hv
  exact ro_iincG hd hn rfl hk K
theorem ro_lstore7 {x0 x1 x2 x3 x4 x5 x6 x7 x8 : Option Value} {lt : List (Option Value)} {x : Int64} (hd : decode (mi_c mi) pc = .ok (.lstore 7, 2)) (hn : 7 + 1 < mi_n mi) (hk : lv_ok (x0 :: x1 :: x2 :: x3 :: x4 :: x5 :: x6 :: x7 :: x8 :: lt) 7 = true) (K : JW g mi d Q M L (pc + 2) (x0 :: x1 :: x2 :: x3 :: x4 :: x5 :: x6 :: some (.long x) :: none :: lt) st) : JW g mi d Q M L pc (x0 :: x1 :: x2 :: x3 :: x4 :: x5 :: x6 :: x7 :: x8 :: lt) (.long x :: st) := ro_lstoreG hd hn hk K
theorem ro_istore8 {x0 x1 x2 x3 x4 x5 x6 x7 x8 : Option Value} {lt : List (Option Value)} {x : Int32} (hd : decode (mi_c mi) pc = .ok (.istore 8, 2)) (hn : 8 < mi_n mi) (hk : lv_ok (x0 :: x1 :: x2 :: x3 :: x4 :: x5 :: x6 :: x7 :: x8 :: lt) 8 = true) (K : JW g mi d Q M L (pc + 2) (x0 :: x1 :: x2 :: x3 :: x4 :: x5 :: x6 :: x7 :: some (.int x) :: lt) st) : JW g mi d Q M L pc (x0 :: x1 :: x2 :: x3 :: x4 :: x5 :: x6 :: x7 :: x8 :: lt) (.int x :: st) := ro_istoreG hd hn hk K
theorem ro_astore8 {x0 x1 x2 x3 x4 x5 x6 x7 x8 : Option Value} {lt : List (Option Value)} {x : Nat} (hd : decode (mi_c mi) pc = .ok (.astore 8, 2)) (hn : 8 < mi_n mi) (hk : lv_ok (x0 :: x1 :: x2 :: x3 :: x4 :: x5 :: x6 :: x7 :: x8 :: lt) 8 = true) (K : JW g mi d Q M L (pc + 2) (x0 :: x1 :: x2 :: x3 :: x4 :: x5 :: x6 :: x7 :: some (.ref x) :: lt) st) : JW g mi d Q M L pc (x0 :: x1 :: x2 :: x3 :: x4 :: x5 :: x6 :: x7 :: x8 :: lt) (.ref x :: st) := ro_astoreG hd hn hk K
theorem ro_iinc8 {x0 x1 x2 x3 x4 x5 x6 x7 : Option Value} {lt : List (Option Value)} {n : Int} {x v : Int32} (hd : decode (mi_c mi) pc = .ok (.iinc 8 n, 3)) (hn : 8 < mi_n mi) (hv : x + Int32.ofInt n = v) (hk : lv_ok (x0 :: x1 :: x2 :: x3 :: x4 :: x5 :: x6 :: x7 :: some (.int x) :: lt) 8 = true) (K : JW g mi d Q M L (pc + 3) (x0 :: x1 :: x2 :: x3 :: x4 :: x5 :: x6 :: x7 :: some (.int v) :: lt) st) : JW g mi d Q M L pc (x0 :: x1 :: x2 :: x3 :: x4 :: x5 :: x6 :: x7 :: some (.int x) :: lt) st := by
  subst hv
  exact ro_iincG hd hn rfl hk K
theorem ro_lstore8 {x0 x1 x2 x3 x4 x5 x6 x7 x8 x9 : Option Value} {lt : List (Option Value)} {x : Int64} (hd : decode (mi_c mi) pc = .ok (.lstore 8, 2)) (hn : 8 + 1 < mi_n mi) (hk : lv_ok (x0 :: x1 :: x2 :: x3 :: x4 :: x5 :: x6 :: x7 :: x8 :: x9 :: lt) 8 = true) (K : JW g mi d Q M L (pc + 2) (x0 :: x1 :: x2 :: x3 :: x4 :: x5 :: x6 :: x7 :: some (.long x) :: none :: lt) st) : JW g mi d Q M L pc (x0 :: x1 :: x2 :: x3 :: x4 :: x5 :: x6 :: x7 :: x8 :: x9 :: lt) (.long x :: st) := ro_lstoreG hd hn hk K
theorem ro_istore9 {x0 x1 x2 x3 x4 x5 x6 x7 x8 x9 : Option Value} {lt : List (Option Value)} {x : Int32} (hd : decode (mi_c mi) pc = .ok (.istore 9, 2)) (hn : 9 < mi_n mi) (hk : lv_ok (x0 :: x1 :: x2 :: x3 :: x4 :: x5 :: x6 :: x7 :: x8 :: x9 :: lt) 9 = true) (K : JW g mi d Q M L (pc + 2) (x0 :: x1 :: x2 :: x3 :: x4 :: x5 :: x6 :: x7 :: x8 :: some (.int x) :: lt) st) : JW g mi d Q M L pc (x0 :: x1 :: x2 :: x3 :: x4 :: x5 :: x6 :: x7 :: x8 :: x9 :: lt) (.int x :: st) := ro_istoreG hd hn hk K
theorem ro_astore9 {x0 x1 x2 x3 x4 x5 x6 x7 x8 x9 : Option Value} {lt : List (Option Value)} {x : Nat} (hd : decode (mi_c mi) pc = .ok (.astore 9, 2)) (hn : 9 < mi_n mi) (hk : lv_ok (x0 :: x1 :: x2 :: x3 :: x4 :: x5 :: x6 :: x7 :: x8 :: x9 :: lt) 9 = true) (K : JW g mi d Q M L (pc + 2) (x0 :: x1 :: x2 :: x3 :: x4 :: x5 :: x6 :: x7 :: x8 :: some (.ref x) :: lt) st) : JW g mi d Q M L pc (x0 :: x1 :: x2 :: x3 :: x4 :: x5 :: x6 :: x7 :: x8 :: x9 :: lt) (.ref x :: st) := ro_astoreG hd hn hk K
theorem ro_iinc9 {x0 x1 x2 x3 x4 x5 x6 x7 x8 : Option Value} {lt : List (Option Value)} {n : Int} {x v : Int32} (hd : decode (mi_c mi) pc = .ok (.iinc 9 n, 3)) (hn : 9 < mi_n mi) (hv : x + Int32.ofInt n = v) (hk : lv_ok (x0 :: x1 :: x2 :: x3 :: x4 :: x5 :: x6 :: x7 :: x8 :: some (.int x) :: lt) 9 = true) (K : JW g mi d Q M L (pc + 3) (x0 :: x1 :: x2 :: x3 :: x4 :: x5 :: x6 :: x7 :: x8 :: some (.int v) :: lt) st) : JW g mi d Q M L pc (x0 :: x1 :: x2 :: x3 :: x4 :: x5 :: x6 :: x7 :: x8 :: some (.int x) :: lt) st := by
  subst hv
  exact ro_iincG hd hn rfl hk K
theorem ro_lstore9 {x0 x1 x2 x3 x4 x5 x6 x7 x8 x9 x10 : Option Value} {lt : List (Option Value)} {x : Int64} (hd : decode (mi_c mi) pc = .ok (.lstore 9, 2)) (hn : 9 + 1 < mi_n mi) (hk : lv_ok (x0 :: x1 :: x2 :: x3 :: x4 :: x5 :: x6 :: x7 :: x8 :: x9 :: x10 :: lt) 9 = true) (K : JW g mi d Q M L (pc + 2) (x0 :: x1 :: x2 :: x3 :: x4 :: x5 :: x6 :: x7 :: x8 :: some (.long x) :: none :: lt) st) : JW g mi d Q M L pc (x0 :: x1 :: x2 :: x3 :: x4 :: x5 :: x6 :: x7 :: x8 :: x9 :: x10 :: lt) (.long x :: st) := ro_lstoreG hd hn hk K
theorem ro_istore10 {x0 x1 x2 x3 x4 x5 x6 x7 x8 x9 x10 : Option Value} {lt : List (Option Value)} {x : Int32} (hd : decode (mi_c mi) pc = .ok (.istore 10, 2)) (hn : 10 < mi_n mi) (hk : lv_ok (x0 :: x1 :: x2 :: x3 :: x4 :: x5 :: x6 :: x7 :: x8 :: x9 :: x10 :: lt) 10 = true) (K : JW g mi d Q M L (pc + 2) (x0 :: x1 :: x2 :: x3 :: x4 :: x5 :: x6 :: x7 :: x8 :: x9 :: some (.int x) :: lt) st) : JW g mi d Q M L pc (x0 :: x1 :: x2 :: x3 :: x4 :: x5 :: x6 :: x7 :: x8 :: x9 :: x10 :: lt) (.int x :: st) := ro_istoreG hd hn hk K
theorem ro_astore10 {x0 x1 x2 x3 x4 x5 x6 x7 x8 x9 x10 : Option Value} {lt : List (Option Value)} {x : Nat} (hd : decode (mi_c mi) pc = .ok (.astore 10, 2)) (hn : 10 < mi_n mi) (hk : lv_ok (x0 :: x1 :: x2 :: x3 :: x4 :: x5 :: x6 :: x7 :: x8 :: x9 :: x10 :: lt) 10 = true) (K : JW g mi d Q M L (pc + 2) (x0 :: x1 :: x2 :: x3 :: x4 :: x5 :: x6 :: x7 :: x8 :: x9 :: some (.ref x) :: lt) st) : JW g mi d Q M L pc (x0 :: x1 :: x2 :: x3 :: x4 :: x5 :: x6 :: x7 :: x8 :: x9 :: x10 :: lt) (.ref x :: st) := ro_astoreG hd hn hk K
theorem ro_iinc10 {x0 x1 x2 x3 x4 x5 x6 x7 x8 x9 : Option Value} {lt : List (Option Value)} {n : Int} {x v : Int32} (hd : decode (mi_c mi) pc = .ok (.iinc 10 n, 3)) (hn : 10 < mi_n mi) (hv : x + Int32.ofInt n = v) (hk : lv_ok (x0 :: x1 :: x2 :: x3 :: x4 :: x5 :: x6 :: x7 :: x8 :: x9 :: some (.int x) :: lt) 10 = true) (K : JW g mi d Q M L (pc + 3) (x0 :: x1 :: x2 :: x3 :: x4 :: x5 :: x6 :: x7 :: x8 :: x9 :: some (.int v) :: lt) st) : JW g mi d Q M L pc (x0 :: x1 :: x2 :: x3 :: x4 :: x5 :: x6 :: x7 :: x8 :: x9 :: some (.int x) :: lt) st := by
  subst hv
  exact ro_iincG hd hn rfl hk K
theorem ro_lstore10 {x0 x1 x2 x3 x4 x5 x6 x7 x8 x9 x10 x11 : Option Value} {lt : List (Option Value)} {x : Int64} (hd : decode (mi_c mi) pc = .ok (.lstore 10, 2)) (hn : 10 + 1 < mi_n mi) (hk : lv_ok (x0 :: x1 :: x2 :: x3 :: x4 :: x5 :: x6 :: x7 :: x8 :: x9 :: x10 :: x11 :: lt) 10 = true) (K : JW g mi d Q M L (pc + 2) (x0 :: x1 :: x2 :: x3 :: x4 :: x5 :: x6 :: x7 :: x8 :: x9 :: some (.long x) :: none :: lt) st) : JW g mi d Q M L pc (x0 :: x1 :: x2 :: x3 :: x4 :: x5 :: x6 :: x7 :: x8 :: x9 :: x10 :: x11 :: lt) (.long x :: st) := ro_lstoreG hd hn hk K
theorem ro_istore11 {x0 x1 x2 x3 x4 x5 x6 x7 x8 x9 x10 x11 : Option Value} {lt : List (Option Value)} {x : Int32} (hd : decode (mi_c mi) pc = .ok (.istore 11, 2)) (hn : 11 < mi_n mi) (hk : lv_ok (x0 :: x1 :: x2 :: x3 :: x4 :: x5 :: x6 :: x7 :: x8 :: x9 :: x10 :: x11 :: lt) 11 = true) (K : JW g mi d Q M L (pc + 2) (x0 :: x1 :: x2 :: x3 :: x4 :: x5 :: x6 :: x7 :: x8 :: x9 :: x10 :: some (.int x) :: lt) st) : JW g mi d Q M L pc (x0 :: x1 :: x2 :: x3 :: x4 :: x5 :: x6 :: x7 :: x8 :: x9 :: x10 :: x11 :: lt) (.int x :: st) := ro_istoreG hd hn hk K
theorem ro_astore11 {x0 x1 x2 x3 x4 x5 x6 x7 x8 x9 x10 x11 : Option Value} {lt : List (Option Value)} {x : Nat} (hd : decode (mi_c mi) pc = .ok (.astore 11, 2)) (hn : 11 < mi_n mi) (hk : lv_ok (x0 :: x1 :: x2 :: x3 :: x4 :: x5 :: x6 :: x7 :: x8 :: x9 :: x10 :: x11 :: lt) 11 = true) (K : JW g mi d Q M L (pc + 2) (x0 :: x1 :: x2 :: x3 :: x4 :: x5 :: x6 :: x7 :: x8 :: x9 :: x10 :: some (.ref x) :: lt) st) : JW g mi d Q M L pc (x0 :: x1 :: x2 :: x3 :: x4 :: x5 :: x6 :: x7 :: x8 :: x9 :: x10 :: x11 :: lt) (.ref x :: st) := ro_astoreG hd hn hk K
theorem ro_iinc11 {x0 x1 x2 x3 x4 x5 x6 x7 x8 x9 x10 : Option Value} {lt : List (Option Value)} {n : Int} {x v : Int32} (hd : decode (mi_c mi) pc = .ok (.iinc 11 n, 3)) (hn : 11 < mi_n mi) (hv : x + Int32.ofInt n = v) (hk : lv_ok (x0 :: x1 :: x2 :: x3 :: x4 :: x5 :: x6 :: x7 :: x8 :: x9 :: x10 :: some (.int x) :: lt) 11 = true) (K : JW g mi d Q M L (pc + 3) (x0 :: x1 :: x2 :: x3 :: x4 :: x5 :: x6 :: x7 :: x8 :: x9 :: x10 :: some (.int v) :: lt) st) : JW g mi d Q M L pc (x0 :: x1 :: x2 :: x3 :: x4 :: x5 :: x6 :: x7 :: x8 :: x9 :: x10 :: some (.int x) :: lt) st := by
  subst hv
  exact ro_iincG hd hn rfl hk K
theorem ro_lstore11 {x0 x1 x2 x3 x4 x5 x6 x7 x8 x9 x10 x11 x12 : Option Value} {lt : List (Option Value)} {x : Int64} (hd : decode (mi_c mi) pc = .ok (.lstore 11, 2)) (hn : 11 + 1 < mi_n mi) (hk : lv_ok (x0 :: x1 :: x2 :: x3 :: x4 :: x5 :: x6 :: x7 :: x8 :: x9 :: x10 :: x11 :: x12 :: lt) 11 = true) (K : JW g mi d Q M L (pc + 2) (x0 :: x1 :: x2 :: x3 :: x4 :: x5 :: x6 :: x7 :: x8 :: x9 :: x10 :: some (.long x) :: none :: lt) st) : JW g mi d Q M L pc (x0 :: x1 :: x2 :: x3 :: x4 :: x5 :: x6 :: x7 :: x8 :: x9 :: x10 :: x11 :: x12 :: lt) (.long x :: st) := ro_lstoreG hd hn hk K
theorem ro_istore12 {x0 x1 x2 x3 x4 x5 x6 x7 x8 x9 x10 x11 x12 : Option Value} {lt : List (Option Value)} {x : Int32} (hd : decode (mi_c mi) pc = .ok (.istore 12, 2)) (hn : 12 < mi_n mi) (hk : lv_ok (x0 :: x1 :: x2 :: x3 :: x4 :: x5 :: x6 :: x7 :: x8 :: x9 :: x10 :: x11 :: x12 :: lt) 12 = true) (K : JW g mi d Q M L (pc + 2) (x0 :: x1 :: x2 :: x3 :: x4 :: x5 :: x6 :: x7 :: x8 :: x9 :: x10 :: x11 :: some (.int x) :: lt) st) : JW g mi d Q M L pc (x0 :: x1 :: x2 :: x3 :: x4 :: x5 :: x6 :: x7 :: x8 :: x9 :: x10 :: x11 :: x12 :: lt) (.int x :: st) := ro_istoreG hd hn hk K
theorem ro_astore12 {x0 x1 x2 x3 x4 x5 x6 x7 x8 x9 x10 x11 x12 : Option Value} {lt : List (Option Value)} {x : Nat} (hd : decode (mi_c mi) pc = .ok (.astore 12, 2)) (hn : 12 < mi_n mi) (hk : lv_ok (x0 :: x1 :: x2 :: x3 :: x4 :: x5 :: x6 :: x7 :: x8 :: x9 :: x10 :: x11 :: x12 :: lt) 12 = true) (K : JW g mi d Q M L (pc + 2) (x0 :: x1 :: x2 :: x3 :: x4 :: x5 :: x6 :: x7 :: x8 :: x9 :: x10 :: x11 :: some (.ref x) :: lt) st) : JW g mi d Q M L pc (x0 :: x1 :: x2 :: x3 :: x4 :: x5 :: x6 :: x7 :: x8 :: x9 :: x10 :: x11 :: x12 :: lt) (.ref x :: st) := ro_astoreG hd hn hk K
theorem ro_iinc12 {x0 x1 x2 x3 x4 x5 x6 x7 x8 x9 x10 x11 : Option Value} {lt : List (Option Value)} {n : Int} {x v : Int32} (hd : decode (mi_c mi) pc = .ok (.iinc 12 n, 3)) (hn : 12 < mi_n mi) (hv : x + Int32.ofInt n = v) (hk : lv_ok (x0 :: x1 :: x2 :: x3 :: x4 :: x5 :: x6 :: x7 :: x8 :: x9 :: x10 :: x11 :: some (.int x) :: lt) 12 = true) (K : JW g mi d Q M L (pc + 3) (x0 :: x1 :: x2 :: x3 :: x4 :: x5 :: x6 :: x7 :: x8 :: x9 :: x10 :: x11 :: some (.int v) :: lt) st) : JW g mi d Q M L pc (x0 :: x1 :: x2 :: x3 :: x4 :: x5 :: x6 :: x7 :: x8 :: x9 :: x10 :: x11 :: some (.int x) :: lt) st := by
  subst hv
  exact ro_iincG hd hn rfl hk K
theorem ro_lstore12 {x0 x1 x2 x3 x4 x5 x6 x7 x8 x9 x10 x11 x12 x13 : Option Value} {lt : List (Option Value)} {x : Int64} (hd : decode (mi_c mi) pc = .ok (.lstore 12, 2)) (hn : 12 + 1 < mi_n mi) (hk : lv_ok (x0 :: x1 :: x2 :: x3 :: x4 :: x5 :: x6 :: x7 :: x8 :: x9 :: x10 :: x11 :: x12 :: x13 :: lt) 12 = true) (K : JW g mi d Q M L (pc + 2) (x0 :: x1 :: x2 :: x3 :: x4 :: x5 :: x6 :: x7 :: x8 :: x9 :: x10 :: x11 :: some (.long x) :: none :: lt) st) : JW g mi d Q M L pc (x0 :: x1 :: x2 :: x3 :: x4 :: x5 :: x6 :: x7 :: x8 :: x9 :: x10 :: x11 :: x12 :: x13 :: lt) (.long x :: st) := ro_lstoreG hd hn hk K
theorem ro_iadd {x y : Int32} (hd : decode (mi_c mi) pc = .ok (.iadd, 1)) (K : JW g mi d Q M L (pc + 1) lv (.int (x + y) :: st)) : JW g mi d Q M L pc lv (.int y :: .int x :: st) := by
  intro p e s m args below meth c H locs ls C hP hS hl
  exact lv_iadd C.1 C.2.1 hd (K p e s m args below meth c H locs ls C hP hS hl)
theorem ro_isub {x y : Int32} (hd : decode (mi_c mi) pc = .ok (.isub, 1)) (K : JW g mi d Q M L (pc + 1) lv (.int (x - y) :: st)) : JW g mi d Q M L pc lv (.int y :: .int x :: st) := by
  intro p e s m args below meth c H locs ls C hP hS hl
  exact lv_isub C.1 C.2.1 hd (K p e s m args below meth c H locs ls C hP hS hl)
theorem ro_imul {x y : Int32} (hd : decode (mi_c mi) pc = .ok (.imul, 1)) (K : JW g mi d Q M L (pc + 1) lv (.int (x * y) :: st)) : JW g mi d Q M L pc lv (.int y :: .int x :: st) := by
  intro p e s m args below meth c H locs ls C hP hS hl
  exact lv_imul C.1 C.2.1 hd (K p e s m args below meth c H locs ls C hP hS hl)
theorem ro_iand {x y : Int32} (hd : decode (mi_c mi) pc = .ok (.iand, 1)) (K : JW g mi d Q M L (pc + 1) lv (.int (x &&& y) :: st)) : JW g mi d Q M L pc lv (.int y :: .int x :: st) := by
  intro p e s m args below meth c H locs ls C hP hS hl
  exact lv_iand C.1 C.2.1 hd (K p e s m args below meth c H locs ls C hP hS hl)
theorem ro_ior {x y : Int32} (hd : decode (mi_c mi) pc = .ok (.ior, 1)) (K : JW g mi d Q M L (pc + 1) lv (.int (x ||| y) :: st)) : JW g mi d Q M L pc lv (.int y :: .int x :: st) := by
  intro p e s m args below meth c H locs ls C hP hS hl
  exact lv_ior C.1 C.2.1 hd (K p e s m args below meth c H locs ls C hP hS hl)
theorem ro_ixor {x y : Int32} (hd : decode (mi_c mi) pc = .ok (.ixor, 1)) (K : JW g mi d Q M L (pc + 1) lv (.int (x ^^^ y) :: st)) : JW g mi d Q M L pc lv (.int y :: .int x :: st) := by
  intro p e s m args below meth c H locs ls C hP hS hl
  exact lv_ixor C.1 C.2.1 hd (K p e s m args below meth c H locs ls C hP hS hl)
theorem ro_ishl {x y : Int32} (hd : decode (mi_c mi) pc = .ok (.ishl, 1)) (K : JW g mi d Q M L (pc + 1) lv (.int (x <<< (y &&& 31)) :: st)) : JW g mi d Q M L pc lv (.int y :: .int x :: st) := by
  intro p e s m args below meth c H locs ls C hP hS hl
  exact lv_ishl C.1 C.2.1 hd (K p e s m args below meth c H locs ls C hP hS hl)
theorem ro_ishr {x y : Int32} (hd : decode (mi_c mi) pc = .ok (.ishr, 1)) (K : JW g mi d Q M L (pc + 1) lv (.int (x >>> (y &&& 31)) :: st)) : JW g mi d Q M L pc lv (.int y :: .int x :: st) := by
  intro p e s m args below meth c H locs ls C hP hS hl
  exact lv_ishr C.1 C.2.1 hd (K p e s m args below meth c H locs ls C hP hS hl)
theorem ro_iushr {x y : Int32} (hd : decode (mi_c mi) pc = .ok (.iushr, 1)) (K : JW g mi d Q M L (pc + 1) lv (.int ((x.toUInt32 >>> (y.toUInt32 &&& Int32.toUInt32 31)).toInt32) :: st)) : JW g mi d Q M L pc lv (.int y :: .int x :: st) := by
  intro p e s m args below meth c H locs ls C hP hS hl
  exact lv_iushr C.1 C.2.1 hd rfl (K p e s m args below meth c H locs ls C hP hS hl)
theorem ro_idiv {x y : Int32} (hd : decode (mi_c mi) pc = .ok (.idiv, 1)) (hne : ¬ y = 0) (K : JW g mi d Q M L (pc + 1) lv (.int (x / y) :: st)) : JW g mi d Q M L pc lv (.int y :: .int x :: st) := by
  intro p e s m args below meth c H locs ls C hP hS hl
  exact lv_idiv C.1 C.2.1 hd hne (K p e s m args below meth c H locs ls C hP hS hl)
theorem ro_irem {x y : Int32} (hd : decode (mi_c mi) pc = .ok (.irem, 1)) (hne : ¬ y = 0) (K : JW g mi d Q M L (pc + 1) lv (.int (x - x / y * y) :: st)) : JW g mi d Q M L pc lv (.int y :: .int x :: st) := by
  intro p e s m args below meth c H locs ls C hP hS hl
  exact lv_irem C.1 C.2.1 hd hne (K p e s m args below meth c H locs ls C hP hS hl)
theorem ro_ineg {x : Int32} (hd : decode (mi_c mi) pc = .ok (.ineg, 1)) (K : JW g mi d Q M L (pc + 1) lv (.int (-x) :: st)) : JW g mi d Q M L pc lv (.int x :: st) := by
  intro p e s m args below meth c H locs ls C hP hS hl
  exact lv_ineg C.1 C.2.1 hd (K p e s m args below meth c H locs ls C hP hS hl)
theorem ro_ladd {x y : Int64} (hd : decode (mi_c mi) pc = .ok (.ladd, 1)) (K : JW g mi d Q M L (pc + 1) lv (.long (x + y) :: st)) : JW g mi d Q M L pc lv (.long y :: .long x :: st) := by
  intro p e s m args below meth c H locs ls C hP hS hl
  exact lv_ladd C.1 C.2.1 hd (K p e s m args below meth c H locs ls C hP hS hl)
theorem ro_lsub {x y : Int64} (hd : decode (mi_c mi) pc = .ok (.lsub, 1)) (K : JW g mi d Q M L (pc + 1) lv (.long (x - y) :: st)) : JW g mi d Q M L pc lv (.long y :: .long x :: st) := by
  intro p e s m args below meth c H locs ls C hP hS hl
  exact lv_lsub C.1 C.2.1 hd (K p e s m args below meth c H locs ls C hP hS hl)
theorem ro_lmul {x y : Int64} (hd : decode (mi_c mi) pc = .ok (.lmul, 1)) (K : JW g mi d Q M L (pc + 1) lv (.long (x * y) :: st)) : JW g mi d Q M L pc lv (.long y :: .long x :: st) := by
  intro p e s m args below meth c H locs ls C hP hS hl
  exact lv_lmul C.1 C.2.1 hd (K p e s m args below meth c H locs ls C hP hS hl)
theorem ro_land {x y : Int64} (hd : decode (mi_c mi) pc = .ok (.land, 1)) (K : JW g mi d Q M L (pc + 1) lv (.long (x &&& y) :: st)) : JW g mi d Q M L pc lv (.long y :: .long x :: st) := by
  intro p e s m args below meth c H locs ls C hP hS hl
  exact lv_land C.1 C.2.1 hd (K p e s m args below meth c H locs ls C hP hS hl)
theorem ro_lor {x y : Int64} (hd : decode (mi_c mi) pc = .ok (.lor, 1)) (K : JW g mi d Q M L (pc + 1) lv (.long (x ||| y) :: st)) : JW g mi d Q M L pc lv (.long y :: .long x :: st) := by
  intro p e s m args below meth c H locs ls C hP hS hl
  exact lv_lor C.1 C.2.1 hd (K p e s m args below meth c H locs ls C hP hS hl)
theorem ro_ldiv {x y : Int64} (hd : decode (mi_c mi) pc = .ok (.ldiv, 1)) (hne : ¬ y = 0) (K : JW g mi d Q M L (pc + 1) lv (.long (x / y) :: st)) : JW g mi d Q M L pc lv (.long y :: .long x :: st) := by
  intro p e s m args below meth c H locs ls C hP hS hl
  exact lv_ldiv C.1 C.2.1 hd hne (K p e s m args below meth c H locs ls C hP hS hl)
theorem ro_lrem {x y : Int64} (hd : decode (mi_c mi) pc = .ok (.lrem, 1)) (hne : ¬ y = 0) (K : JW g mi d Q M L (pc + 1) lv (.long (x - x / y * y) :: st)) : JW g mi d Q M L pc lv (.long y :: .long x :: st) := by
  intro p e s m args below meth c H locs ls C hP hS hl
  exact lv_lrem C.1 C.2.1 hd hne (K p e s m args below meth c H locs ls C hP hS hl)
theorem ro_lushr {x : Int64} {y : Int32} (hd : decode (mi_c mi) pc = .ok (.lushr, 1)) (K : JW g mi d Q M L (pc + 1) lv (.long ((x.toUInt64 >>> (y.toInt64.toUInt64 &&& Int64.toUInt64 63)).toInt64) :: st)) : JW g mi d Q M L pc lv (.int y :: .long x :: st) := by
  intro p e s m args below meth c H locs ls C hP hS hl
  exact lv_lushr C.1 C.2.1 hd rfl (K p e s m args below meth c H locs ls C hP hS hl)
theorem ro_lshl {x : Int64} {y : Int32} (hd : decode (mi_c mi) pc = .ok (.lshl, 1)) (K : JW g mi d Q M L (pc + 1) lv (.long (x <<< (y.toInt64 &&& 63)) :: st)) : JW g mi d Q M L pc lv (.int y :: .long x :: st) := by
  intro p e s m args below meth c H locs ls C hP hS hl
  exact lv_lshl C.1 C.2.1 hd rfl (K p e s m args below meth c H locs ls C hP hS hl)
theorem ro_i2l {x : Int32} (hd : decode (mi_c mi) pc = .ok (.i2l, 1)) (K : JW g mi d Q M L (pc + 1) lv (.long x.toInt64 :: st)) : JW g mi d Q M L pc lv (.int x :: st) := by
  intro p e s m args below meth c H locs ls C hP hS hl
  exact lv_i2l C.1 C.2.1 hd rfl (K p e s m args below meth c H locs ls C hP hS hl)
theorem ro_l2i {x : Int64} (hd : decode (mi_c mi) pc = .ok (.l2i, 1)) (K : JW g mi d Q M L (pc + 1) lv (.int x.toInt32 :: st)) : JW g mi d Q M L pc lv (.long x :: st) := by
  intro p e s m args below meth c H locs ls C hP hS hl
  exact lv_l2i C.1 C.2.1 hd rfl (K p e s m args below meth c H locs ls C hP hS hl)
theorem ro_lcmp {x y : Int64} (hd : decode (mi_c mi) pc = .ok (.lcmp, 1)) (K : JW g mi d Q M L (pc + 1) lv (.int (lg_cmp x y) :: st)) : JW g mi d Q M L pc lv (.long y :: .long x :: st) := by
  intro p e s m args below meth c H locs ls C hP hS hl
  exact W.lcmp C.1 C.2.1 hd (K p e s m args below meth c H locs ls C hP hS hl)
theorem ro_dup {v : Value} (hd : decode (mi_c mi) pc = .ok (.dup, 1)) (hv : v.category = 1) (K : JW g mi d Q M L (pc + 1) lv (v :: v :: st)) : JW g mi d Q M L pc lv (v :: st) := by
  intro p e s m args below meth c H locs ls C hP hS hl
  exact lv_dup C.1 C.2.1 hd hv (K p e s m args below meth c H locs ls C hP hS hl)
theorem ro_pop {v : Value} (hd : decode (mi_c mi) pc = .ok (.pop, 1)) (hv : v.category = 1) (K : JW g mi d Q M L (pc + 1) lv (st)) : JW g mi d Q M L pc lv (v :: st) := by
  intro p e s m args below meth c H locs ls C hP hS hl
  exact lv_pop C.1 C.2.1 hd hv (K p e s m args below meth c H locs ls C hP hS hl)
theorem ro_dup2 {v w : Value} (hd : decode (mi_c mi) pc = .ok (.dup2, 1)) (hv : v.category = 1) (hw : w.category = 1) (K : JW g mi d Q M L (pc + 1) lv (v :: w :: v :: w :: st)) : JW g mi d Q M L pc lv (v :: w :: st) := by
  intro p e s m args below meth c H locs ls C hP hS hl
  exact lv_dup2_11 C.1 C.2.1 hd hv hw (K p e s m args below meth c H locs ls C hP hS hl)
theorem ro_if_eq {x : Int32} {off : Int} (tgt : Nat) (hd : decode (mi_c mi) pc = .ok (.ifCond .eq off, 3)) (ht : (pc : Int) + off = (tgt : Int)) (Kt : x = 0 → JW g mi d Q M L tgt lv st) (Kf : ¬ x = 0 → JW g mi d Q M L (pc + 3) lv st) : JW g mi d Q M L pc lv (.int x :: st) := by
  intro p e s m args below meth c H locs ls C hP hS hl
  exact lv_if_eq C.1 C.2.1 hd ht (fun h => Kt h p e s m args below meth c H locs ls C hP hS hl) (fun h => Kf h p e s m args below meth c H locs ls C hP hS hl)
theorem ro_if_ne {x : Int32} {off : Int} (tgt : Nat) (hd : decode (mi_c mi) pc = .ok (.ifCond .ne off, 3)) (ht : (pc : Int) + off = (tgt : Int)) (Kt : ¬ x = 0 → JW g mi d Q M L tgt lv st) (Kf : x = 0 → JW g mi d Q M L (pc + 3) lv st) : JW g mi d Q M L pc lv (.int x :: st) := by
  intro p e s m args below meth c H locs ls C hP hS hl
  exact lv_if_ne C.1 C.2.1 hd ht (fun h => Kt h p e s m args below meth c H locs ls C hP hS hl) (fun h => Kf h p e s m args below meth c H locs ls C hP hS hl)
theorem ro_if_lt {x : Int32} {off : Int} (tgt : Nat) (hd : decode (mi_c mi) pc = .ok (.ifCond .lt off, 3)) (ht : (pc : Int) + off = (tgt : Int)) (Kt : x < 0 → JW g mi d Q M L tgt lv st) (Kf : ¬ x < 0 → JW g mi d Q M L (pc + 3) lv st) : JW g mi d Q M L pc lv (.int x :: st) := by
  intro p e s m args below meth c H locs ls C hP hS hl
  exact lv_if_lt C.1 C.2.1 hd ht (fun h => Kt h p e s m args below meth c H locs ls C hP hS hl) (fun h => Kf h p e s m args below meth c H locs ls C hP hS hl)
theorem ro_if_ge {x : Int32} {off : Int} (tgt : Nat) (hd : decode (mi_c mi) pc = .ok (.ifCond .ge off, 3)) (ht : (pc : Int) + off = (tgt : Int)) (Kt : 0 ≤ x → JW g mi d Q M L tgt lv st) (Kf : ¬ 0 ≤ x → JW g mi d Q M L (pc + 3) lv st) : JW g mi d Q M L pc lv (.int x :: st) := by
  intro p e s m args below meth c H locs ls C hP hS hl
  exact lv_if_ge C.1 C.2.1 hd ht (fun h => Kt h p e s m args below meth c H locs ls C hP hS hl) (fun h => Kf h p e s m args below meth c H locs ls C hP hS hl)
theorem ro_if_gt {x : Int32} {off : Int} (tgt : Nat) (hd : decode (mi_c mi) pc = .ok (.ifCond .gt off, 3)) (ht : (pc : Int) + off = (tgt : Int)) (Kt : 0 < x → JW g mi d Q M L tgt lv st) (Kf : ¬ 0 < x → JW g mi d Q M L (pc + 3) lv st) : JW g mi d Q M L pc lv (.int x :: st) := by
  intro p e s m args below meth c H locs ls C hP hS hl
  exact lv_if_gt C.1 C.2.1 hd ht (fun h => Kt h p e s m args below meth c H locs ls C hP hS hl) (fun h => Kf h p e s m args below meth c H locs ls C hP hS hl)
theorem ro_if_le {x : Int32} {off : Int} (tgt : Nat) (hd : decode (mi_c mi) pc = .ok (.ifCond .le off, 3)) (ht : (pc : Int) + off = (tgt : Int)) (Kt : x ≤ 0 → JW g mi d Q M L tgt lv st) (Kf : ¬ x ≤ 0 → JW g mi d Q M L (pc + 3) lv st) : JW g mi d Q M L pc lv (.int x :: st) := by
  intro p e s m args below meth c H locs ls C hP hS hl
  exact lv_if_le C.1 C.2.1 hd ht (fun h => Kt h p e s m args below meth c H locs ls C hP hS hl) (fun h => Kf h p e s m args below meth c H locs ls C hP hS hl)
theorem ro_icmp_eq {x y : Int32} {off : Int} (tgt : Nat) (hd : decode (mi_c mi) pc = .ok (.if_icmp .eq off, 3)) (ht : (pc : Int) + off = (tgt : Int)) (Kt : x = y → JW g mi d Q M L tgt lv st) (Kf : ¬ x = y → JW g mi d Q M L (pc + 3) lv st) : JW g mi d Q M L pc lv (.int y :: .int x :: st) := by
  intro p e s m args below meth c H locs ls C hP hS hl
  exact lv_icmp_eq C.1 C.2.1 hd ht (fun h => Kt h p e s m args below meth c H locs ls C hP hS hl) (fun h => Kf h p e s m args below meth c H locs ls C hP hS hl)
theorem ro_icmp_ne {x y : Int32} {off : Int} (tgt : Nat) (hd : decode (mi_c mi) pc = .ok (.if_icmp .ne off, 3)) (ht : (pc : Int) + off = (tgt : Int)) (Kt : ¬ x = y → JW g mi d Q M L tgt lv st) (Kf : x = y → JW g mi d Q M L (pc + 3) lv st) : JW g mi d Q M L pc lv (.int y :: .int x :: st) := by
  intro p e s m args below meth c H locs ls C hP hS hl
  exact lv_icmp_ne C.1 C.2.1 hd ht (fun h => Kt h p e s m args below meth c H locs ls C hP hS hl) (fun h => Kf h p e s m args below meth c H locs ls C hP hS hl)
theorem ro_icmp_lt {x y : Int32} {off : Int} (tgt : Nat) (hd : decode (mi_c mi) pc = .ok (.if_icmp .lt off, 3)) (ht : (pc : Int) + off = (tgt : Int)) (Kt : x < y → JW g mi d Q M L tgt lv st) (Kf : ¬ x < y → JW g mi d Q M L (pc + 3) lv st) : JW g mi d Q M L pc lv (.int y :: .int x :: st) := by
  intro p e s m args below meth c H locs ls C hP hS hl
  exact lv_icmp_lt C.1 C.2.1 hd ht (fun h => Kt h p e s m args below meth c H locs ls C hP hS hl) (fun h => Kf h p e s m args below meth c H locs ls C hP hS hl)
theorem ro_icmp_ge {x y : Int32} {off : Int} (tgt : Nat) (hd : decode (mi_c mi) pc = .ok (.if_icmp .ge off, 3)) (ht : (pc : Int) + off = (tgt : Int)) (Kt : y ≤ x → JW g mi d Q M L tgt lv st) (Kf : ¬ y ≤ x → JW g mi d Q M L (pc + 3) lv st) : JW g mi d Q M L pc lv (.int y :: .int x :: st) := by
  intro p e s m args below meth c H locs ls C hP hS hl
  exact lv_icmp_ge C.1 C.2.1 hd ht (fun h => Kt h p e s m args below meth c H locs ls C hP hS hl) (fun h => Kf h p e s m args below meth c H locs ls C hP hS hl)
theorem ro_icmp_gt {x y : Int32} {off : Int} (tgt : Nat) (hd : decode (mi_c mi) pc = .ok (.if_icmp .gt off, 3)) (ht : (pc : Int) + off = (tgt : Int)) (Kt : y < x → JW g mi d Q M L tgt lv st) (Kf : ¬ y < x → JW g mi d Q M L (pc + 3) lv st) : JW g mi d Q M L pc lv (.int y :: .int x :: st) := by
  intro p e s m args below meth c H locs ls C hP hS hl
  exact lv_icmp_gt C.1 C.2.1 hd ht (fun h => Kt h p e s m args below meth c H locs ls C hP hS hl) (fun h => Kf h p e s m args below meth c H locs ls C hP hS hl)
theorem ro_icmp_le {x y : Int32} {off : Int} (tgt : Nat) (hd : decode (mi_c mi) pc = .ok (.if_icmp .le off, 3)) (ht : (pc : Int) + off = (tgt : Int)) (Kt : x ≤ y → JW g mi d Q M L tgt lv st) (Kf : ¬ x ≤ y → JW g mi d Q M L (pc + 3) lv st) : JW g mi d Q M L pc lv (.int y :: .int x :: st) := by
  intro p e s m args below meth c H locs ls C hP hS hl
  exact lv_icmp_le C.1 C.2.1 hd ht (fun h => Kt h p e s m args below meth c H locs ls C hP hS hl) (fun h => Kf h p e s m args below meth c H locs ls C hP hS hl)
theorem ro_goto {off : Int} (tgt : Nat) (hd : decode (mi_c mi) pc = .ok (.goto off, 3)) (ht : (pc : Int) + off = (tgt : Int)) (K : JW g mi d Q M L tgt lv st) : JW g mi d Q M L pc lv st := by
  intro p e s m args below meth c H locs ls C hP hS hl
  exact lv_goto C.1 C.2.1 hd ht (K p e s m args below meth c H locs ls C hP hS hl)
theorem ro_tableOut {dflt lo hi : Int} {offs : Array Int} {len : Nat} {x : Int32} (tgt : Nat) (hd : decode (mi_c mi) pc = .ok (.tableswitch dflt lo hi offs, len)) (h : x.toInt < lo ∨ hi < x.toInt) (ht : (pc : Int) + dflt = (tgt : Int)) (K : JW g mi d Q M L tgt lv st) : JW g mi d Q M L pc lv (.int x :: st) := by
  intro p e s m args below meth c H locs ls C hP hS hl
  exact lv_tableOut C.1 C.2.1 hd h ht (K p e s m args below meth c H locs ls C hP hS hl)
theorem ro_tableIn {dflt lo hi : Int} {offs : Array Int} {len : Nat} {x : Int32} {off : Int} (tgt : Nat) (hd : decode (mi_c mi) pc = .ok (.tableswitch dflt lo hi offs, len)) (h1 : ¬ x.toInt < lo) (h2 : ¬ hi < x.toInt) (ho : offs[(x.toInt - lo).toNat]? = some off) (ht : (pc : Int) + off = (tgt : Int)) (K : JW g mi d Q M L tgt lv st) : JW g mi d Q M L pc lv (.int x :: st) := by
  intro p e s m args below meth c H locs ls C hP hS hl
  exact lv_tableIn C.1 C.2.1 hd h1 h2 ho ht (K p e s m args below meth c H locs ls C hP hS hl)
theorem ro_ldcw {idx : Nat} {v : Int32} (hd : decode (mi_c mi) pc = .ok (.ldc_w idx, 3)) (hw : Cond.constant (mi_o mi) idx v ∈ mi_w mi) (K : JW g mi d Q M L (pc + 3) lv (.int v :: st)) : JW g mi d Q M L pc lv st := by
  intro p e s m args below meth c H locs ls C hP hS hl
  exact lv_ldcw C.1 C.2.1 C.2.2.2.2.1 (C.2.2.2.2.2.1 _ hw) hd (K p e s m args below meth c H locs ls C hP hS hl)
theorem ro_ldc2 {idx : Nat} {v : Int64} (hd : decode (mi_c mi) pc = .ok (.ldc2_w idx, 3)) (hw : Cond.constantLong (mi_o mi) idx v ∈ mi_w mi) (K : JW g mi d Q M L (pc + 3) lv (.long v :: st)) : JW g mi d Q M L pc lv st := by
  intro p e s m args below meth c H locs ls C hP hS hl
  exact lv_ldc2 C.1 C.2.1 C.2.2.2.2.1 (C.2.2.2.2.2.1 _ hw) hd (K p e s m args below meth c H locs ls C hP hS hl)
theorem ro_get {i ci N idx : Nat} {fs : List Value} {Cn : String} {T : u_T} {v : Value} (k : Nat) (he : CE g i (M i) (L i) (.inr (ci, fs))) (hc : vwCl[ci]? = some (Cn, T, N)) (hin : ∀ w ∈ u_ws Cn T N, w ∈ mi_w mi) (hk : k < N) (hw : Cond.fieldLink (mi_o mi) idx (T k).1 (T k).2.1 (T k).2.2.1 ∈ mi_w mi) (hv : fs[k]? = some v) (hd : decode (mi_c mi) pc = .ok (.getfield idx, 3)) (K : JW g mi d Q M L (pc + 3) lv (v :: st)) : JW g mi d Q M L pc lv (.ref (dq_A g i) :: st) := by
  intro p e s m args below meth c H locs ls C hP hS hl
  exact va_get C.1 C.2.1 C.2.2.2.2.2.1 hin C.2.2.2.2.1 C.2.2.2.2.2.2.2.1 hP i (dq_get he) hc k hk (C.2.2.2.2.2.1 _ hw) (fun _ h => h) hv hd (K p e s m args below meth c H locs ls C hP hS hl)
theorem ro_put {i ci N idx : Nat} {fs : List Value} {Cn : String} {T : u_T} {v : Value} (ty0 : Nat → FieldType) {ty : FieldType} {r : Nat → Int32} {x : Int64} (k : Nat) (hty : ∀ k, k < N → parseFieldDescriptor (T k).2.2.1 = some (ty0 k)) (hnm : ∀ a, a < N → ∀ b, b < N → a ≠ b → (T a).2.1 ≠ (T b).2.1) (he : CE g i (M i) (L i) (.inr (ci, fs))) (he2 : CE g i r x (.inr (ci, fs.set k v))) (hc : vwCl[ci]? = some (Cn, T, N)) (hin : ∀ w ∈ u_ws Cn T N, w ∈ mi_w mi) (hk : k < N) (hw : Cond.fieldLink (mi_o mi) idx (T k).1 (T k).2.1 (T k).2.2.1 ∈ mi_w mi) (hfin : (T k).2.2.2 = false) (hd0 : parseFieldDescriptor (T k).2.2.1 = some ty) (hn : narrow ty v = v) (hfit : fits ty v = true) (hlen : k < fs.length) (hd : decode (mi_c mi) pc = .ok (.putfield idx, 3)) (K : JW g mi d Q (va_up M i r) (va_up L i x) (pc + 3) lv st) : JW g mi d Q M L pc lv (v :: .ref (dq_A g i) :: st) := by
  intro p e s m args below meth c H locs ls C hP hS hl
  exact va_put C.1 C.2.1 C.2.2.2.2.2.1 hin ty0 hty hnm C.2.2.2.2.1 C.2.2.2.2.2.2.2.1 hP (dq_wsD C.2.2.2.2.2.2.2.2.1 M L) hS i (dq_get he) hc k hk (C.2.2.2.2.2.1 _ hw) (fun _ h => h) hfin hd0 hn hfit hlen hd (fun H1 locs1 hP1 _ hS1 => K p e s m args below meth c H1 locs1 ls C (by rw [← dq_set he2]; exact hP1) hS1 hl)
theorem ro_iald {i n : Nat} {f : Nat → Int32} {j : Int32} (he : CE g i (M i) (L i) (.inl (dq_I g, n, .inl f))) (hin : vp_in j n) (hd : decode (mi_c mi) pc = .ok (.iaload, 1)) (K : JW g mi d Q M L (pc + 1) lv (.int (f j.toNatClampNeg) :: st)) : JW g mi d Q M L pc lv (.int j :: .ref (dq_A g i) :: st) := by
  intro p e s m args below meth c H locs ls C hP hS hl
  exact va_iald C.1 C.2.1 C.2.2.2.2.2.2.2.1 hP i 0 (dq_get he) rfl hin hd (K p e s m args below meth c H locs ls C hP hS hl)
theorem ro_bald {i n : Nat} {f : Nat → Int32} {j : Int32} (he : CE g i (M i) (L i) (.inl (dq_B g, n, .inl f))) (hin : vp_in j n) (hd : decode (mi_c mi) pc = .ok (.baload, 1)) (K : JW g mi d Q M L (pc + 1) lv (.int (f j.toNatClampNeg) :: st)) : JW g mi d Q M L pc lv (.int j :: .ref (dq_A g i) :: st) := by
  intro p e s m args below meth c H locs ls C hP hS hl
  exact va_zald C.1 C.2.1 C.2.2.2.2.2.2.2.1 hP i 1 (dq_get he) rfl hin hd (K p e s m args below meth c H locs ls C hP hS hl)
theorem ro_aald {i n : Nat} {f : Nat → Option Nat} {j : Int32} {a : Nat} (he : CE g i (M i) (L i) (.inl (dq_S g, n, .inr (.inr (.inr (.inr f)))))) (hin : vp_in j n) (hf : f j.toNatClampNeg = some a) (hd : decode (mi_c mi) pc = .ok (.aaload, 1)) (K : JW g mi d Q M L (pc + 1) lv (.ref a :: st)) : JW g mi d Q M L pc lv (.int j :: .ref (dq_A g i) :: st) := by
  intro p e s m args below meth c H locs ls C hP hS hl
  refine va_aldq C.1 C.2.1 C.2.2.2.2.2.2.2.1 hP i 2 (dq_get he) rfl hin hd ?_
  rw [hf]
  exact (K p e s m args below meth c H locs ls C hP hS hl)
theorem ro_iast {i n : Nat} {f : Nat → Int32} {j x : Int32} (he : CE g i (M i) (L i) (.inl (dq_I g, n, .inl f))) (he2 : CE g i (upd f j.toNatClampNeg x) (L i) (.inl (dq_I g, n, .inl (upd f j.toNatClampNeg x)))) (hin : vp_in j n) (hd : decode (mi_c mi) pc = .ok (.iastore, 1)) (K : JW g mi d Q (va_up M i (upd f j.toNatClampNeg x)) L (pc + 1) lv st) : JW g mi d Q M L pc lv (.int x :: .int j :: .ref (dq_A g i) :: st) := by
  intro p e s m args below meth c H locs ls C hP hS hl
  exact va_iast C.1 C.2.1 C.2.2.2.2.2.2.2.1 hP (dq_wsD C.2.2.2.2.2.2.2.2.1 M L) hS i 0 (dq_get he) rfl hin hd (fun H1 locs1 hP1 _ hS1 => K p e s m args below meth c H1 locs1 ls C (by rw [dq_set he2] at hP1; rw [va_up_id] at hP1; exact hP1) hS1 hl)
theorem ro_bast {i n : Nat} {f : Nat → Int32} {j x : Int32} (he : CE g i (M i) (L i) (.inl (dq_B g, n, .inl f))) (he2 : CE g i (upd f j.toNatClampNeg x) (L i) (.inl (dq_B g, n, .inl (upd f j.toNatClampNeg x)))) (hx : vp_nar .boolean x = x) (hin : vp_in j n) (hd : decode (mi_c mi) pc = .ok (.bastore, 1)) (K : JW g mi d Q (va_up M i (upd f j.toNatClampNeg x)) L (pc + 1) lv st) : JW g mi d Q M L pc lv (.int x :: .int j :: .ref (dq_A g i) :: st) := by
  intro p e s m args below meth c H locs ls C hP hS hl
  exact va_zast C.1 C.2.1 C.2.2.2.2.2.2.2.1 hP (dq_wsD C.2.2.2.2.2.2.2.2.1 M L) hS i 1 (dq_get he) rfl hin hd (fun H1 locs1 hP1 _ hS1 => K p e s m args below meth c H1 locs1 ls C (by rw [hx, dq_set he2] at hP1; rw [va_up_id] at hP1; exact hP1) hS1 hl)
theorem ro_alen {i n : Nat} {f : Nat → Int32} {v : Int32} (he : CE g i (M i) (L i) (.inl (dq_I g, n, .inl f))) (hv : Int32.ofNat n = v) (hd : decode (mi_c mi) pc = .ok (.arraylength, 1)) (K : JW g mi d Q M L (pc + 1) lv (.int v :: st)) : JW g mi d Q M L pc lv (.ref (dq_A g i) :: st) := by
  intro p e s m args below meth c H locs ls C hP hS hl
  exact va_alen C.1 C.2.1 C.2.2.2.2.2.2.2.1 hP i 0 (dq_get he) rfl hv hd (K p e s m args below meth c H locs ls C hP hS hl)
theorem ro_ear1 (ho : mi_o mi = RX4) (hd : decode (mi_c mi) pc = .ok (.getstatic 83, 3)) (K : JW g mi d Q M L (pc + 3) lv (.ref (dq_E g) :: st)) : JW g mi d Q M L pc lv st := by
  intro p e s m args below meth c H locs ls C hP hS hl
  have hown : s.vm.findClass RX4 = some m.cls := by rw [← ho]; exact C.2.2.2.2.1
  exact va_getsN C.1 C.2.1 C.2.2.2.2.2.2.2.2.2.1 hS hown (va_Nw.use rfl C.2.2.2.2.2.2.2.2.2.2.2.1) (fun _ h => h) hd (K p e s m args below meth c H locs ls C hP hS hl)
theorem ro_ear2 (ho : mi_o mi = RX1) (hd : decode (mi_c mi) pc = .ok (.getstatic 26, 3)) (K : JW g mi d Q M L (pc + 3) lv (.ref (dq_E g) :: st)) : JW g mi d Q M L pc lv st := by
  intro p e s m args below meth c H locs ls C hP hS hl
  have hown : s.vm.findClass RX1 = some m.cls := by rw [← ho]; exact C.2.2.2.2.1
  exact va_getsN C.1 C.2.1 C.2.2.2.2.2.2.2.2.2.1 hS hown (va_Nw.use rfl C.2.2.2.2.2.2.2.2.2.2.2.2) (fun _ h => h) hd (K p e s m args below meth c H locs ls C hP hS hl)
theorem ro_eald {j : Int32} (hin : vp_in j 4) (hd : decode (mi_c mi) pc = .ok (.iaload, 1)) (K : JW g mi d Q M L (pc + 1) lv (.int (dq_ear j.toNatClampNeg) :: st)) : JW g mi d Q M L pc lv (.int j :: .ref (dq_E g) :: st) := by
  intro p e s m args below meth c H locs ls C hP hS hl
  exact va_ti C.1 C.2.1 C.2.2.2.2.2.2.2.2.2.2.1 hS hin rfl hd (K p e s m args below meth c H locs ls C hP hS hl)
theorem ro_iret {v : Int32} (hr : mi_r mi = some .int) (hd : decode (mi_c mi) pc = .ok (.ireturn, 1)) (hq : Q (some (.int v)) M L) : JW g mi d Q M L pc lv [.int v] := by
  intro p e s m args below meth c H locs ls C hP hS hl
  exact W.iret C.1 C.2.1 (C.2.2.1.trans hr) (fun t ht _ => ⟨⟨_, M, L, rfl, hq, by rw [ht]; exact hP⟩, hS.F ht⟩) hS.2.2 hd C.2.2.2.2.2.2.1
theorem ro_zret {v : Int32} (hr : mi_r mi = some .boolean) (hn : narrow .boolean (.int v) = .int v) (hd : decode (mi_c mi) pc = .ok (.ireturn, 1)) (hq : Q (some (.int v)) M L) : JW g mi d Q M L pc lv [.int v] := by
  intro p e s m args below meth c H locs ls C hP hS hl
  exact W.zret C.1 C.2.1 (C.2.2.1.trans hr) hn (fun t ht _ => ⟨⟨_, M, L, rfl, hq, by rw [ht]; exact hP⟩, hS.F ht⟩) hS.2.2 hd C.2.2.2.2.2.2.1
theorem ro_lret {v : Int64} (hr : mi_r mi = some .long) (hd : decode (mi_c mi) pc = .ok (.lreturn, 1)) (hq : Q (some (.long v)) M L) : JW g mi d Q M L pc lv [.long v] := by
  intro p e s m args below meth c H locs ls C hP hS hl
  exact W.lret C.1 C.2.1 (C.2.2.1.trans hr) (fun t ht _ => ⟨⟨_, M, L, rfl, hq, by rw [ht]; exact hP⟩, hS.F ht⟩) hS.2.2 hd C.2.2.2.2.2.2.1
theorem ro_vret (hr : mi_r mi = none) (hd : decode (mi_c mi) pc = .ok (.return_, 1)) (hq : Q none M L) : JW g mi d Q M L pc lv [] := by
  intro p e s m args below meth c H locs ls C hP hS hl
  exact W.vret C.1 C.2.1 (C.2.2.1.trans hr) (fun t ht _ => ⟨⟨_, M, L, rfl, hq, by rw [ht]; exact hP⟩, hS.F ht⟩) hS.2.2 hd C.2.2.2.2.2.2.1
theorem dq_blind {av : List Value} : FrameBlind (va_Pc av (dq_W g M L)) := fun a U gf mk q => by
  obtain ⟨q0, qP, qK, qd, qZ, qT, qn, qm⟩ := q
  exact ⟨q0, qP, va_K.moved (u := U) (U := U.calling gf mk a) (Vm.Alike.refl U.vm) qK, qd, va_Z.moved (u := U) (U := U.calling gf mk a) (Vm.Alike.refl U.vm) qZ, va_T.moved (u := U) (U := U.calling gf mk a) (Vm.Alike.refl U.vm) qT, va_Nw.same rfl (rfl : U.vm = (U.calling gf mk a).vm) qn, va_Nw.same rfl (rfl : U.vm = (U.calling gf mk a).vm) qm⟩
theorem dq_at {s U : State} {H : Heap} {locs : List Loc} (h : dq_St g s s.heap) (hS : va_S (dq_AA g) s.heap H locs) (hP : va_P (dq_D g) vwCl (dq_ws g M L) H) (hU : U.heap = H) (hW : s.WarmedH U.vm) : dq_W g M L U := by
  obtain ⟨qK, qd, qZ, qT, qn, qm⟩ := h
  refine ⟨by rw [hU]; exact hP, va_K.moved hW.alike qK, qd, ?_, ?_, va_Nw.warmF hW qn, va_Nw.warmF hW qm⟩
  · rw [hU]; exact va_Z.moved hW.alike (qZ.kept hS.2.1)
  · rw [hU]; exact va_T.moved hW.alike (qT.kept hS.2.1)
theorem ro_go {Q2 : Option Value → MM → LL → Prop} {st0 rest : List Value} {p : Program} {e : Env} {s : State} {m : MethodId} {args : Array Value} {below : List Frame} {meth : Method} {c : Code} {H : Heap} {locs : List Loc} {ls : Array Slot} {a : Array Value} (hr : va_Run p (dq_l g) e (rmD d) s m args below meth c H locs 0 0 0 0 (F0 m pc ls st0) rest (QQ g Q2 a) (dq_AA g)) (C : Cx g mi p s m args meth c) (hS : va_S (dq_AA g) s.heap H locs) (hl : lvH ls (mi_n mi) lv) (K : ∀ v M' L', Q2 v M' L' → JW g mi d Q M' L' (pc + 3) lv (v.toList ++ rest)) : W p (dq_l g) e (rmD d) s m args below meth c H locs 0 0 (MQ below (QQ g Q) args s 0 0 (dq_AA g)) (F0 m pc ls st0) := by
  intro T hT X
  obtain ⟨v, st₀, t, T', Lc, h0, X', hL, e1, e2, ⟨⟨r, M1, L1, hv, hq, hP1⟩, hz, hk⟩, st⟩ := hr T hT X
  cases hv
  rw [h0] at hz hk
  obtain ⟨t2, a1, b1⟩ := K v M1 L1 hq p e s m args below meth c T'.heap (locs ++ Lc) ls C (by rw [e1]; exact hP1)
    ⟨Nat.le_trans hS.1 (by rw [e1]; exact hz), fun q h1 h2 => by rw [e1, hk q (Nat.lt_of_lt_of_le h1 hS.1) h2]; exact hS.2.1 q h1 h2, fun q hq => by
      rcases List.mem_append.mp hq with h | h
      · exact hS.2.2 q h
      · exact hL q h⟩ hl T' rfl X'
  exact ⟨t2, st t2 a1, b1⟩
theorem ro_callVG {mi2 : MI} {d2 n idx b ci N : Nat} {As rest : List Value} {fs : List Value} {Cn : String} {T : u_T} {Q2 : Option Value → MM → LL → Prop} (ok : MOK mi2 n) (hc : CTQ g mi2 d2 (.ref (dq_A g b) :: As) M L Q2) (he : CE g b (M b) (L b) (.inr (ci, fs))) (hcl : vwCl[ci]? = some (Cn, T, N)) (hC : (mi_y mi2).cls = Cn) (hG : GoodIn (mi_w mi) (wsV (mi_o mi) idx Cn (mi_y mi2) (mi_w mi2))) (hdd : d2 + 1 ≤ d) (hA : As.length = n) (hrs : (rest.map fun v => v.category).sum ≤ 8) (hd : decode (mi_c mi) pc = .ok (.invokevirtual idx, 3)) (K : ∀ v M' L', Q2 v M' L' → JW g mi d Q M' L' (pc + 3) lv (v.toList ++ rest)) : JW g mi d Q M L pc lv (As.reverse ++ .ref (dq_A g b) :: rest) := by
  intro p e s m args below meth c H locs ls C hP hS hl
  refine ro_go (va_runV (C := Cn) (As := As) (rest := rest) (b := dq_A g b) (n := n) ⟨C.1, C.2.1, C.2.2.2.1, C.2.2.2.2.1, C.2.2.2.2.2.1⟩ hc (cwV n C.2.2.2.2.2.1 hG ok.1 rfl rfl ⟨hC, ok.2.2.1⟩ ⟨hdd, ?_⟩) ⟨dq_blind, va_recv C.2.2.2.2.2.2.2.1 hP hcl (dq_get he), fun U hU hW => ⟨rfl, dq_at C.2.2.2.2.2.2.2 hS hP hU hW⟩⟩ rfl hA hl.1 rfl (lv_room hrs) hd ⟨Nat.le_refl _, Nat.le_refl _⟩) C hS hl K
  have h1 := ok.2.2.2.1
  show 8 + (mi_n mi2 + 11) + 38 * d2 ≤ 38 * d
  omega
theorem ro_callSG {mi2 : MI} {d2 n idx : Nat} {As rest : List Value} {Q2 : Option Value → MM → LL → Prop} (ok : MOK mi2 n) (hc : CTQ g mi2 d2 As M L Q2) (hG : GoodIn (mi_w mi) (va_wsS (mi_o mi) idx (mi_y mi2) (mi_w mi2))) (hdd : d2 + 1 ≤ d) (hA : As.length = n) (hrs : (rest.map fun v => v.category).sum ≤ 8) (hd : decode (mi_c mi) pc = .ok (.invokestatic idx, 3)) (K : ∀ v M' L', Q2 v M' L' → JW g mi d Q M' L' (pc + 3) lv (v.toList ++ rest)) : JW g mi d Q M L pc lv (As.reverse ++ rest) := by
  intro p e s m args below meth c H locs ls C hP hS hl
  refine ro_go (va_runS (As := As) (rest := rest) (n := n) ⟨C.1, C.2.1, C.2.2.2.1, C.2.2.2.2.1, C.2.2.2.2.2.1⟩ hc (va_cwS n C.2.2.2.2.2.1 hG ok.1 rfl rfl ok.2.2.1 ⟨hdd, ?_⟩) ⟨dq_blind, fun U hU hW => ⟨rfl, dq_at C.2.2.2.2.2.2.2 hS hP hU hW⟩⟩ rfl hA hl.1 rfl (lv_room hrs) hd ⟨Nat.le_refl _, Nat.le_refl _⟩) C hS hl K
  have h1 := ok.2.2.2.1
  show 8 + (mi_n mi2 + 11) + 38 * d2 ≤ 38 * d
  omega
theorem ro_callV0 {mi2 : MI} {d2 idx b ci N : Nat} {rest : List Value} {fs : List Value} {Cn : String} {T : u_T} {v : Option Value} {M' : MM} {L' : LL} (ok : MOK mi2 0) (hc : CT g mi2 d2 (.ref (dq_A g b) :: []) M L v M' L') (he : CE g b (M b) (L b) (.inr (ci, fs))) (hcl : vwCl[ci]? = some (Cn, T, N)) (hC : (mi_y mi2).cls = Cn) (hG : GoodIn (mi_w mi) (wsV (mi_o mi) idx Cn (mi_y mi2) (mi_w mi2))) (hdd : d2 + 1 ≤ d) (hrs : (rest.map fun v => v.category).sum ≤ 8) (hd : decode (mi_c mi) pc = .ok (.invokevirtual idx, 3)) (K : JW g mi d Q M' L' (pc + 3) lv (v.toList ++ rest)) : JW g mi d Q M L pc lv (.ref (dq_A g b) :: rest) := ro_callVG (As := []) ok hc he hcl hC hG hdd rfl hrs hd (fun _ _ _ ⟨h1, h2, h3⟩ => by rw [h1, h2, h3]; exact K)
theorem ro_callV1 {mi2 : MI} {d2 idx b ci N : Nat} {a0 : Value} {rest : List Value} {fs : List Value} {Cn : String} {T : u_T} {v : Option Value} {M' : MM} {L' : LL} (ok : MOK mi2 1) (hc : CT g mi2 d2 (.ref (dq_A g b) :: [a0]) M L v M' L') (he : CE g b (M b) (L b) (.inr (ci, fs))) (hcl : vwCl[ci]? = some (Cn, T, N)) (hC : (mi_y mi2).cls = Cn) (hG : GoodIn (mi_w mi) (wsV (mi_o mi) idx Cn (mi_y mi2) (mi_w mi2))) (hdd : d2 + 1 ≤ d) (hrs : (rest.map fun v => v.category).sum ≤ 8) (hd : decode (mi_c mi) pc = .ok (.invokevirtual idx, 3)) (K : JW g mi d Q M' L' (pc + 3) lv (v.toList ++ rest)) : JW g mi d Q M L pc lv (a0 :: .ref (dq_A g b) :: rest) := ro_callVG (As := [a0]) ok hc he hcl hC hG hdd rfl hrs hd (fun _ _ _ ⟨h1, h2, h3⟩ => by rw [h1, h2, h3]; exact K)
theorem ro_callS1 {mi2 : MI} {d2 idx : Nat} {a0 : Value} {rest : List Value} {v : Option Value} {M' : MM} {L' : LL} (ok : MOK mi2 1) (hc : CT g mi2 d2 [a0] M L v M' L') (hG : GoodIn (mi_w mi) (va_wsS (mi_o mi) idx (mi_y mi2) (mi_w mi2))) (hdd : d2 + 1 ≤ d) (hrs : (rest.map fun v => v.category).sum ≤ 8) (hd : decode (mi_c mi) pc = .ok (.invokestatic idx, 3)) (K : JW g mi d Q M' L' (pc + 3) lv (v.toList ++ rest)) : JW g mi d Q M L pc lv (a0 :: rest) := ro_callSG (As := [a0]) ok hc hG hdd rfl hrs hd (fun _ _ _ ⟨h1, h2, h3⟩ => by rw [h1, h2, h3]; exact K)
theorem ro_callV2 {mi2 : MI} {d2 idx b ci N : Nat} {a0 a1 : Value} {rest : List Value} {fs : List Value} {Cn : String} {T : u_T} {v : Option Value} {M' : MM} {L' : LL} (ok : MOK mi2 2) (hc : CT g mi2 d2 (.ref (dq_A g b) :: [a0, a1]) M L v M' L') (he : CE g b (M b) (L b) (.inr (ci, fs))) (hcl : vwCl[ci]? = some (Cn, T, N)) (hC : (mi_y mi2).cls = Cn) (hG : GoodIn (mi_w mi) (wsV (mi_o mi) idx Cn (mi_y mi2) (mi_w mi2))) (hdd : d2 + 1 ≤ d) (hrs : (rest.map fun v => v.category).sum ≤ 8) (hd : decode (mi_c mi) pc = .ok (.invokevirtual idx, 3)) (K : JW g mi d Q M' L' (pc + 3) lv (v.toList ++ rest)) : JW g mi d Q M L pc lv (a1 :: a0 :: .ref (dq_A g b) :: rest) := ro_callVG (As := [a0, a1]) ok hc he hcl hC hG hdd rfl hrs hd (fun _ _ _ ⟨h1, h2, h3⟩ => by rw [h1, h2, h3]; exact K)
theorem ro_callS2 {mi2 : MI} {d2 idx : Nat} {a0 a1 : Value} {rest : List Value} {v : Option Value} {M' : MM} {L' : LL} (ok : MOK mi2 2) (hc : CT g mi2 d2 [a0, a1] M L v M' L') (hG : GoodIn (mi_w mi) (va_wsS (mi_o mi) idx (mi_y mi2) (mi_w mi2))) (hdd : d2 + 1 ≤ d) (hrs : (rest.map fun v => v.category).sum ≤ 8) (hd : decode (mi_c mi) pc = .ok (.invokestatic idx, 3)) (K : JW g mi d Q M' L' (pc + 3) lv (v.toList ++ rest)) : JW g mi d Q M L pc lv (a1 :: a0 :: rest) := ro_callSG (As := [a0, a1]) ok hc hG hdd rfl hrs hd (fun _ _ _ ⟨h1, h2, h3⟩ => by rw [h1, h2, h3]; exact K)
theorem ro_callV3 {mi2 : MI} {d2 idx b ci N : Nat} {a0 a1 a2 : Value} {rest : List Value} {fs : List Value} {Cn : String} {T : u_T} {v : Option Value} {M' : MM} {L' : LL} (ok : MOK mi2 3) (hc : CT g mi2 d2 (.ref (dq_A g b) :: [a0, a1, a2]) M L v M' L') (he : CE g b (M b) (L b) (.inr (ci, fs))) (hcl : vwCl[ci]? = some (Cn, T, N)) (hC : (mi_y mi2).cls = Cn) (hG : GoodIn (mi_w mi) (wsV (mi_o mi) idx Cn (mi_y mi2) (mi_w mi2))) (hdd : d2 + 1 ≤ d) (hrs : (rest.map fun v => v.category).sum ≤ 8) (hd : decode (mi_c mi) pc = .ok (.invokevirtual idx, 3)) (K : JW g mi d Q M' L' (pc + 3) lv (v.toList ++ rest)) : JW g mi d Q M L pc lv (a2 :: a1 :: a0 :: .ref (dq_A g b) :: rest) := ro_callVG (As := [a0, a1, a2]) ok hc he hcl hC hG hdd rfl hrs hd (fun _ _ _ ⟨h1, h2, h3⟩ => by rw [h1, h2, h3]; exact K)
theorem ro_callS3 {mi2 : MI} {d2 idx : Nat} {a0 a1 a2 : Value} {rest : List Value} {v : Option Value} {M' : MM} {L' : LL} (ok : MOK mi2 3) (hc : CT g mi2 d2 [a0, a1, a2] M L v M' L') (hG : GoodIn (mi_w mi) (va_wsS (mi_o mi) idx (mi_y mi2) (mi_w mi2))) (hdd : d2 + 1 ≤ d) (hrs : (rest.map fun v => v.category).sum ≤ 8) (hd : decode (mi_c mi) pc = .ok (.invokestatic idx, 3)) (K : JW g mi d Q M' L' (pc + 3) lv (v.toList ++ rest)) : JW g mi d Q M L pc lv (a2 :: a1 :: a0 :: rest) := ro_callSG (As := [a0, a1, a2]) ok hc hG hdd rfl hrs hd (fun _ _ _ ⟨h1, h2, h3⟩ => by rw [h1, h2, h3]; exact K)
theorem ro_callV4 {mi2 : MI} {d2 idx b ci N : Nat} {a0 a1 a2 a3 : Value} {rest : List Value} {fs : List Value} {Cn : String} {T : u_T} {v : Option Value} {M' : MM} {L' : LL} (ok : MOK mi2 4) (hc : CT g mi2 d2 (.ref (dq_A g b) :: [a0, a1, a2, a3]) M L v M' L') (he : CE g b (M b) (L b) (.inr (ci, fs))) (hcl : vwCl[ci]? = some (Cn, T, N)) (hC : (mi_y mi2).cls = Cn) (hG : GoodIn (mi_w mi) (wsV (mi_o mi) idx Cn (mi_y mi2) (mi_w mi2))) (hdd : d2 + 1 ≤ d) (hrs : (rest.map fun v => v.category).sum ≤ 8) (hd : decode (mi_c mi) pc = .ok (.invokevirtual idx, 3)) (K : JW g mi d Q M' L' (pc + 3) lv (v.toList ++ rest)) : JW g mi d Q M L pc lv (a3 :: a2 :: a1 :: a0 :: .ref (dq_A g b) :: rest) := ro_callVG (As := [a0, a1, a2, a3]) ok hc he hcl hC hG hdd rfl hrs hd (fun _ _ _ ⟨h1, h2, h3⟩ => by rw [h1, h2, h3]; exact K)
theorem ro_callS4 {mi2 : MI} {d2 idx : Nat} {a0 a1 a2 a3 : Value} {rest : List Value} {v : Option Value} {M' : MM} {L' : LL} (ok : MOK mi2 4) (hc : CT g mi2 d2 [a0, a1, a2, a3] M L v M' L') (hG : GoodIn (mi_w mi) (va_wsS (mi_o mi) idx (mi_y mi2) (mi_w mi2))) (hdd : d2 + 1 ≤ d) (hrs : (rest.map fun v => v.category).sum ≤ 8) (hd : decode (mi_c mi) pc = .ok (.invokestatic idx, 3)) (K : JW g mi d Q M' L' (pc + 3) lv (v.toList ++ rest)) : JW g mi d Q M L pc lv (a3 :: a2 :: a1 :: a0 :: rest) := ro_callSG (As := [a0, a1, a2, a3]) ok hc hG hdd rfl hrs hd (fun _ _ _ ⟨h1, h2, h3⟩ => by rw [h1, h2, h3]; exact K)
theorem ro_callV5 {mi2 : MI} {d2 idx b ci N : Nat} {a0 a1 a2 a3 a4 : Value} {rest : List Value} {fs : List Value} {Cn : String} {T : u_T} {v : Option Value} {M' : MM} {L' : LL} (ok : MOK mi2 5) (hc : CT g mi2 d2 (.ref (dq_A g b) :: [a0, a1, a2, a3, a4]) M L v M' L') (he : CE g b (M b) (L b) (.inr (ci, fs))) (hcl : vwCl[ci]? = some (Cn, T, N)) (hC : (mi_y mi2).cls = Cn) (hG : GoodIn (mi_w mi) (wsV (mi_o mi) idx Cn (mi_y mi2) (mi_w mi2))) (hdd : d2 + 1 ≤ d) (hrs : (rest.map fun v => v.category).sum ≤ 8) (hd : decode (mi_c mi) pc = .ok (.invokevirtual idx, 3)) (K : JW g mi d Q M' L' (pc + 3) lv (v.toList ++ rest)) : JW g mi d Q M L pc lv (a4 :: a3 :: a2 :: a1 :: a0 :: .ref (dq_A g b) :: rest) := ro_callVG (As := [a0, a1, a2, a3, a4]) ok hc he hcl hC hG hdd rfl hrs hd (fun _ _ _ ⟨h1, h2, h3⟩ => by rw [h1, h2, h3]; exact K)
theorem ro_callS5 {mi2 : MI} {d2 idx : Nat} {a0 a1 a2 a3 a4 : Value} {rest : List Value} {v : Option Value} {M' : MM} {L' : LL} (ok : MOK mi2 5) (hc : CT g mi2 d2 [a0, a1, a2, a3, a4] M L v M' L') (hG : GoodIn (mi_w mi) (va_wsS (mi_o mi) idx (mi_y mi2) (mi_w mi2))) (hdd : d2 + 1 ≤ d) (hrs : (rest.map fun v => v.category).sum ≤ 8) (hd : decode (mi_c mi) pc = .ok (.invokestatic idx, 3)) (K : JW g mi d Q M' L' (pc + 3) lv (v.toList ++ rest)) : JW g mi d Q M L pc lv (a4 :: a3 :: a2 :: a1 :: a0 :: rest) := ro_callSG (As := [a0, a1, a2, a3, a4]) ok hc hG hdd rfl hrs hd (fun _ _ _ ⟨h1, h2, h3⟩ => by rw [h1, h2, h3]; exact K)
end RO
