/-! ===== THE LAW: its own walk over the numbered memory ===== -/
def CL (g : GT) (b Ln : Nat) (xs : Nat → Int32) (p : Program) (s : State) (m : MethodId) (meth : Method) (c : Code) : Prop :=
  p.tables.exec = Jvm.exec ∧ c.code = code ∧ meth.sig.returnType = ret ∧ c.maxLocals = 4 ∧ s.vm.findClass RL = some m.cls ∧ (∀ w ∈ lw_tbl, w.before #[Value.ref b] s = true) ∧ meth.locks = false ∧ dq_St g s s.heap ∧ va_X b Ln xs s s.heap ∧ b < s.heap.size ∧ dq_z g = s.heap.size
def JL (g : GT) (b Ln : Nat) (xs : Nat → Int32) (M : MM) (L : LL) (pc : Nat) (lv : List (Option Value)) (st : List Value) : Prop :=
  ∀ (p : Program) (e : Env) (s : State) (m : MethodId) (below : List Frame) (meth : Method) (c : Code) (H : Heap) (locs : List Loc) (ls : Array Slot),
    CL g b Ln xs p s m meth c → va_P (dq_D g) vwCl (dq_ws g M L) H → va_S (dq_AA g) s.heap H locs → lvH ls 4 lv →
    W p (dq_l g) e room_1 s m #[Value.ref b] below meth c H locs 600000 7302250 (lw_Z below #[Value.ref b] s) (F0 m pc ls st)
section LO
variable {g : GT} {b Ln : Nat} {xs : Nat → Int32} {M : MM} {L : LL} {pc : Nat} {lv : List (Option Value)} {st : List Value}
theorem lo_top {v w : Int32} (h : v = w) (k : JL g b Ln xs M L pc lv (.int w :: st)) : JL g b Ln xs M L pc lv (.int v :: st) := h ▸ k
theorem lo_iconst {q : Int} {v : Int32} (hd : decode code pc = .ok (.iconst q, 1)) (hv : Int32.ofInt q = v) (K : JL g b Ln xs M L (pc + 1) lv (.int v :: st)) : JL g b Ln xs M L pc lv st := by
  intro p e s m below meth c H locs ls C hP hS hl
  exact lv_iconst C.1 C.2.1 hd hv (K p e s m below meth c H locs ls C hP hS hl)
theorem lo_bipush {q : Int} {v : Int32} (hd : decode code pc = .ok (.bipush q, 2)) (hv : (Int8.ofInt q).toInt32 = v) (K : JL g b Ln xs M L (pc + 2) lv (.int v :: st)) : JL g b Ln xs M L pc lv st := by
  intro p e s m below meth c H locs ls C hP hS hl
  exact lv_bipush C.1 C.2.1 hd hv (K p e s m below meth c H locs ls C hP hS hl)
theorem lo_iload_n {j : Fin 4} {i : Nat} {x : Int32} (hd : decode code pc = .ok (.iload_n j, 1)) (hi : (j : Nat) = i) (hv : lv[i]? = some (some (.int x))) (K : JL g b Ln xs M L (pc + 1) lv (.int x :: st)) : JL g b Ln xs M L pc lv st := by
  intro p e s m below meth c H locs ls C hP hS hl
  exact lv_iload_n C.1 C.2.1 hd hi (hl.at hv) (K p e s m below meth c H locs ls C hP hS hl)
theorem lo_aload_n {j : Fin 4} {i : Nat} {x : Nat} (hd : decode code pc = .ok (.aload_n j, 1)) (hi : (j : Nat) = i) (hv : lv[i]? = some (some (.ref x))) (K : JL g b Ln xs M L (pc + 1) lv (.ref x :: st)) : JL g b Ln xs M L pc lv st := by
  intro p e s m below meth c H locs ls C hP hS hl
  exact lv_aload_n C.1 C.2.1 hd hi (hl.at hv) (K p e s m below meth c H locs ls C hP hS hl)
theorem lo_iadd {x y : Int32} (hd : decode code pc = .ok (.iadd, 1)) (K : JL g b Ln xs M L (pc + 1) lv (.int (x + y) :: st)) : JL g b Ln xs M L pc lv (.int y :: .int x :: st) := by
  intro p e s m below meth c H locs ls C hP hS hl
  exact lv_iadd C.1 C.2.1 hd (K p e s m below meth c H locs ls C hP hS hl)
theorem lo_isub {x y : Int32} (hd : decode code pc = .ok (.isub, 1)) (K : JL g b Ln xs M L (pc + 1) lv (.int (x - y) :: st)) : JL g b Ln xs M L pc lv (.int y :: .int x :: st) := by
  intro p e s m below meth c H locs ls C hP hS hl
  exact lv_isub C.1 C.2.1 hd (K p e s m below meth c H locs ls C hP hS hl)
theorem lo_iand {x y : Int32} (hd : decode code pc = .ok (.iand, 1)) (K : JL g b Ln xs M L (pc + 1) lv (.int (x &&& y) :: st)) : JL g b Ln xs M L pc lv (.int y :: .int x :: st) := by
  intro p e s m below meth c H locs ls C hP hS hl
  exact lv_iand C.1 C.2.1 hd (K p e s m below meth c H locs ls C hP hS hl)
theorem lo_goto {off : Int} (tgt : Nat) (hd : decode code pc = .ok (.goto off, 3)) (ht : (pc : Int) + off = (tgt : Int)) (K : JL g b Ln xs M L tgt lv st) : JL g b Ln xs M L pc lv st := by
  intro p e s m below meth c H locs ls C hP hS hl
  exact lv_goto C.1 C.2.1 hd ht (K p e s m below meth c H locs ls C hP hS hl)
theorem lo_iinc {i : Nat} {q : Int} {x : Int32} (hd : decode code pc = .ok (.iinc i q, 3)) (hn : i < 4) (hv : lv[i]? = some (some (.int x))) (hk : lv_ok lv i = true) (K : JL g b Ln xs M L (pc + 3) (lv.set i (some (.int (x + Int32.ofInt q)))) st) : JL g b Ln xs M L pc lv st := by
  intro p e s m below meth c H locs ls C hP hS hl
  obtain ⟨kk, hk2⟩ := List.getElem?_of_mem (lv_prs_mem (lv := lv) (q := (i, .int x)).mpr hv)
  exact lv_iinc C.1 C.2.1 hd hl.has hk2 rfl hn rfl (fun ls' hl' => K p e s m below meth c H locs ls' C hP hS (lvH.set1 hl' hk))
theorem lo_i2l {x : Int32} (hd : decode code pc = .ok (.i2l, 1)) (K : JL g b Ln xs M L (pc + 1) lv (.long x.toInt64 :: st)) : JL g b Ln xs M L pc lv (.int x :: st) := by
  intro p e s m below meth c H locs ls C hP hS hl
  exact lv_i2l C.1 C.2.1 hd rfl (K p e s m below meth c H locs ls C hP hS hl)
theorem lo_lshl {x : Int64} {y : Int32} (hd : decode code pc = .ok (.lshl, 1)) (K : JL g b Ln xs M L (pc + 1) lv (.long (x <<< (y.toInt64 &&& 63)) :: st)) : JL g b Ln xs M L pc lv (.int y :: .long x :: st) := by
  intro p e s m below meth c H locs ls C hP hS hl
  exact lv_lshl C.1 C.2.1 hd rfl (K p e s m below meth c H locs ls C hP hS hl)
theorem lo_land {x y : Int64} (hd : decode code pc = .ok (.land, 1)) (K : JL g b Ln xs M L (pc + 1) lv (.long (x &&& y) :: st)) : JL g b Ln xs M L pc lv (.long y :: .long x :: st) := by
  intro p e s m below meth c H locs ls C hP hS hl
  exact lv_land C.1 C.2.1 hd (K p e s m below meth c H locs ls C hP hS hl)
theorem lo_lor {x y : Int64} (hd : decode code pc = .ok (.lor, 1)) (K : JL g b Ln xs M L (pc + 1) lv (.long (x ||| y) :: st)) : JL g b Ln xs M L pc lv (.long y :: .long x :: st) := by
  intro p e s m below meth c H locs ls C hP hS hl
  exact lv_lor C.1 C.2.1 hd (K p e s m below meth c H locs ls C hP hS hl)
theorem lo_lcmp {x y : Int64} (hd : decode code pc = .ok (.lcmp, 1)) (K : JL g b Ln xs M L (pc + 1) lv (.int (lg_cmp x y) :: st)) : JL g b Ln xs M L pc lv (.long y :: .long x :: st) := by
  intro p e s m below meth c H locs ls C hP hS hl
  exact W.lcmp C.1 C.2.1 hd (K p e s m below meth c H locs ls C hP hS hl)
theorem lo_if_eq {x : Int32} {off : Int} (tgt : Nat) (hd : decode code pc = .ok (.ifCond .eq off, 3)) (ht : (pc : Int) + off = (tgt : Int)) (Kt : x = 0 → JL g b Ln xs M L tgt lv st) (Kf : ¬ x = 0 → JL g b Ln xs M L (pc + 3) lv st) : JL g b Ln xs M L pc lv (.int x :: st) := by
  intro p e s m below meth c H locs ls C hP hS hl
  exact lv_if_eq C.1 C.2.1 hd ht (fun h => Kt h p e s m below meth c H locs ls C hP hS hl) (fun h => Kf h p e s m below meth c H locs ls C hP hS hl)
theorem lo_icmp_eq {x y : Int32} {off : Int} (tgt : Nat) (hd : decode code pc = .ok (.if_icmp .eq off, 3)) (ht : (pc : Int) + off = (tgt : Int)) (Kt : x = y → JL g b Ln xs M L tgt lv st) (Kf : ¬ x = y → JL g b Ln xs M L (pc + 3) lv st) : JL g b Ln xs M L pc lv (.int y :: .int x :: st) := by
  intro p e s m below meth c H locs ls C hP hS hl
  exact lv_icmp_eq C.1 C.2.1 hd ht (fun h => Kt h p e s m below meth c H locs ls C hP hS hl) (fun h => Kf h p e s m below meth c H locs ls C hP hS hl)
theorem lo_icmp_gt {x y : Int32} {off : Int} (tgt : Nat) (hd : decode code pc = .ok (.if_icmp .gt off, 3)) (ht : (pc : Int) + off = (tgt : Int)) (Kt : y < x → JL g b Ln xs M L tgt lv st) (Kf : ¬ y < x → JL g b Ln xs M L (pc + 3) lv st) : JL g b Ln xs M L pc lv (.int y :: .int x :: st) := by
  intro p e s m below meth c H locs ls C hP hS hl
  exact lv_icmp_gt C.1 C.2.1 hd ht (fun h => Kt h p e s m below meth c H locs ls C hP hS hl) (fun h => Kf h p e s m below meth c H locs ls C hP hS hl)
theorem lo_tableOut {dflt lo hi : Int} {offs : Array Int} {len : Nat} {x : Int32} (tgt : Nat) (hd : decode code pc = .ok (.tableswitch dflt lo hi offs, len)) (h : x.toInt < lo ∨ hi < x.toInt) (ht : (pc : Int) + dflt = (tgt : Int)) (K : JL g b Ln xs M L tgt lv st) : JL g b Ln xs M L pc lv (.int x :: st) := by
  intro p e s m below meth c H locs ls C hP hS hl
  exact lv_tableOut C.1 C.2.1 hd h ht (K p e s m below meth c H locs ls C hP hS hl)
theorem lo_tableIn {dflt lo hi : Int} {offs : Array Int} {len : Nat} {x : Int32} {off : Int} (tgt : Nat) (hd : decode code pc = .ok (.tableswitch dflt lo hi offs, len)) (h1 : ¬ x.toInt < lo) (h2 : ¬ hi < x.toInt) (ho : offs[(x.toInt - lo).toNat]? = some off) (ht : (pc : Int) + off = (tgt : Int)) (K : JL g b Ln xs M L tgt lv st) : JL g b Ln xs M L pc lv (.int x :: st) := by
  intro p e s m below meth c H locs ls C hP hS hl
  exact lv_tableIn C.1 C.2.1 hd h1 h2 ho ht (K p e s m below meth c H locs ls C hP hS hl)
theorem lo_ldc2 {idx : Nat} {v : Int64} (hd : decode code pc = .ok (.ldc2_w idx, 3)) (hw : Cond.constantLong RL idx v ∈ lw_tbl) (K : JL g b Ln xs M L (pc + 3) lv (.long v :: st)) : JL g b Ln xs M L pc lv st := by
  intro p e s m below meth c H locs ls C hP hS hl
  exact lv_ldc2 C.1 C.2.1 C.2.2.2.2.1 (C.2.2.2.2.2.1 _ hw) hd (K p e s m below meth c H locs ls C hP hS hl)
theorem lo_bA {p : Program} {s : State} {m : MethodId} {meth : Method} {c : Code} (C : CL g b Ln xs p s m meth c) : ¬ dq_AA g b := fun h => by
  have h1 : dq_z g ≤ b := h
  have h2 := C.2.2.2.2.2.2.2.2.2.1
  rw [C.2.2.2.2.2.2.2.2.2.2] at h1
  omega
theorem lo_sld {j : Nat} (hj : j < Ln) (h31 : Ln < 2 ^ 31) (hd : decode code pc = .ok (.iaload, 1)) (K : JL g b Ln xs M L (pc + 1) lv (.int (xs j) :: st)) : JL g b Ln xs M L pc lv (.int (nI j) :: .ref b :: st) := by
  intro p e s m below meth c H locs ls C hP hS hl
  refine va_sld C.1 C.2.1 C.2.2.2.2.2.2.2.2.1 C.2.2.2.2.2.2.2.2.2.1 (lo_bA C) hS (nI_in hj h31) hd ?_
  rw [nI_clamp (by omega)]
  exact (K p e s m below meth c H locs ls C hP hS hl)
theorem lo_slen (hd : decode code pc = .ok (.arraylength, 1)) (K : JL g b Ln xs M L (pc + 1) lv (.int (nI Ln) :: st)) : JL g b Ln xs M L pc lv (.ref b :: st) := by
  intro p e s m below meth c H locs ls C hP hS hl
  exact va_slen C.1 C.2.1 C.2.2.2.2.2.2.2.2.1 C.2.2.2.2.2.2.2.2.2.1 (lo_bA C) hS hd (K p e s m below meth c H locs ls C hP hS hl)
theorem lo_ret (hd : decode code pc = .ok (.ireturn, 1)) : JL g b Ln xs M L pc lv [.int 1] := by
  intro p e s m below meth c H locs ls C hP hS hl
  refine va_forget (fun q hq => ?_) (lw_ret C.1 C.2.1 C.2.2.1 C.2.2.2.2.2.2.1 hd)
  have h1 : dq_z g ≤ q.base := hS.2.2 q hq
  rw [← C.2.2.2.2.2.2.2.2.2.2]
  exact h1
theorem lo_go {Q2 : Option Value → MM → LL → Prop} {st0 rest : List Value} {p : Program} {e : Env} {s : State} {m : MethodId} {below : List Frame} {meth : Method} {c : Code} {H : Heap} {locs : List Loc} {ls : Array Slot} {a : Array Value} (hr : va_Run p (dq_l g) e room_1 s m #[Value.ref b] below meth c H locs 600000 7302250 0 0 (F0 m pc ls st0) rest (QQ g Q2 a) (dq_AA g)) (C : CL g b Ln xs p s m meth c) (hS : va_S (dq_AA g) s.heap H locs) (hl : lvH ls 4 lv) (K : ∀ v M' L', Q2 v M' L' → JL g b Ln xs M' L' (pc + 3) lv (v.toList ++ rest)) : W p (dq_l g) e room_1 s m #[Value.ref b] below meth c H locs 600000 7302250 (lw_Z below #[Value.ref b] s) (F0 m pc ls st0) := by
  intro T hT X
  obtain ⟨v, st₀, t, T', Lc, h0, X', hL, e1, e2, ⟨⟨r, M1, L1, hv, hq, hP1⟩, hz, hk⟩, st⟩ := hr T hT X
  cases hv
  rw [h0] at hz hk
  obtain ⟨t2, a1, b1⟩ := K v M1 L1 hq p e s m below meth c T'.heap (locs ++ Lc) ls C (by rw [e1]; exact hP1)
    ⟨Nat.le_trans hS.1 (by rw [e1]; exact hz), fun q h1 h2 => by rw [e1, hk q (Nat.lt_of_lt_of_le h1 hS.1) h2]; exact hS.2.1 q h1 h2, fun q hq => by
      rcases List.mem_append.mp hq with h | h
      · exact hS.2.2 q h
      · exact hL q h⟩ hl T' rfl X'
  exact ⟨t2, st t2 a1, b1⟩
theorem lo_callG {mi2 : MI} {d2 n idx bb ci N : Nat} {As rest : List Value} {fs : List Value} {Cn : String} {T : u_T} {Q2 : Option Value → MM → LL → Prop} (ok : MOK mi2 n) (hc : CTQ g mi2 d2 (.ref (dq_A g bb) :: As) M L Q2) (he : CE g bb (M bb) (L bb) (.inr (ci, fs))) (hcl : vwCl[ci]? = some (Cn, T, N)) (hC : (mi_y mi2).cls = Cn) (hG : GoodIn lw_tbl (wsV RL idx Cn (mi_y mi2) (mi_w mi2))) (hdd : d2 ≤ 8) (hA : As.length = n) (hrs : (rest.map fun v => v.category).sum ≤ 8) (hd : decode code pc = .ok (.invokevirtual idx, 3)) (K : ∀ v M' L', Q2 v M' L' → JL g b Ln xs M' L' (pc + 3) lv (v.toList ++ rest)) : JL g b Ln xs M L pc lv (As.reverse ++ .ref (dq_A g bb) :: rest) := by
  intro p e s m below meth c H locs ls C hP hS hl
  refine lo_go (va_runV (C := Cn) (As := As) (rest := rest) (b := dq_A g bb) (n := n) ⟨C.1, C.2.1, C.2.2.2.1, C.2.2.2.2.1, C.2.2.2.2.2.1⟩ hc (cwV n C.2.2.2.2.2.1 hG ok.1 rfl rfl ⟨hC, ok.2.2.1⟩ ⟨?_, ?_⟩) ⟨dq_blind, va_recv C.2.2.2.2.2.2.2.1.1 hP hcl (dq_get he), fun U hU hW => ⟨rfl, dq_at C.2.2.2.2.2.2.2.1 hS hP hU hW⟩⟩ rfl hA hl.1 rfl (lv_room hrs) hd ⟨Nat.le_refl _, Nat.le_refl _⟩) C hS hl K
  · show d2 + 1 ≤ 10
    omega
  · have h1 := ok.2.2.2.1
    show 8 + (mi_n mi2 + 11) + 38 * d2 ≤ 388
    omega
theorem lo_call0 {mi2 : MI} {d2 idx bb ci N : Nat} {rest : List Value} {fs : List Value} {Cn : String} {T : u_T} {Q2 : Option Value → MM → LL → Prop} (ok : MOK mi2 0) (hc : CTQ g mi2 d2 (.ref (dq_A g bb) :: []) M L Q2) (he : CE g bb (M bb) (L bb) (.inr (ci, fs))) (hcl : vwCl[ci]? = some (Cn, T, N)) (hC : (mi_y mi2).cls = Cn) (hG : GoodIn lw_tbl (wsV RL idx Cn (mi_y mi2) (mi_w mi2))) (hdd : d2 ≤ 8) (hrs : (rest.map fun v => v.category).sum ≤ 8) (hd : decode code pc = .ok (.invokevirtual idx, 3)) (K : ∀ v M' L', Q2 v M' L' → JL g b Ln xs M' L' (pc + 3) lv (v.toList ++ rest)) : JL g b Ln xs M L pc lv (.ref (dq_A g bb) :: rest) := lo_callG (As := []) ok hc he hcl hC hG hdd rfl hrs hd K
theorem lo_call1 {mi2 : MI} {d2 idx bb ci N : Nat} {a0 : Value} {rest : List Value} {fs : List Value} {Cn : String} {T : u_T} {Q2 : Option Value → MM → LL → Prop} (ok : MOK mi2 1) (hc : CTQ g mi2 d2 (.ref (dq_A g bb) :: [a0]) M L Q2) (he : CE g bb (M bb) (L bb) (.inr (ci, fs))) (hcl : vwCl[ci]? = some (Cn, T, N)) (hC : (mi_y mi2).cls = Cn) (hG : GoodIn lw_tbl (wsV RL idx Cn (mi_y mi2) (mi_w mi2))) (hdd : d2 ≤ 8) (hrs : (rest.map fun v => v.category).sum ≤ 8) (hd : decode code pc = .ok (.invokevirtual idx, 3)) (K : ∀ v M' L', Q2 v M' L' → JL g b Ln xs M' L' (pc + 3) lv (v.toList ++ rest)) : JL g b Ln xs M L pc lv (a0 :: .ref (dq_A g bb) :: rest) := lo_callG (As := [a0]) ok hc he hcl hC hG hdd rfl hrs hd K
theorem lo_call2 {mi2 : MI} {d2 idx bb ci N : Nat} {a0 a1 : Value} {rest : List Value} {fs : List Value} {Cn : String} {T : u_T} {Q2 : Option Value → MM → LL → Prop} (ok : MOK mi2 2) (hc : CTQ g mi2 d2 (.ref (dq_A g bb) :: [a0, a1]) M L Q2) (he : CE g bb (M bb) (L bb) (.inr (ci, fs))) (hcl : vwCl[ci]? = some (Cn, T, N)) (hC : (mi_y mi2).cls = Cn) (hG : GoodIn lw_tbl (wsV RL idx Cn (mi_y mi2) (mi_w mi2))) (hdd : d2 ≤ 8) (hrs : (rest.map fun v => v.category).sum ≤ 8) (hd : decode code pc = .ok (.invokevirtual idx, 3)) (K : ∀ v M' L', Q2 v M' L' → JL g b Ln xs M' L' (pc + 3) lv (v.toList ++ rest)) : JL g b Ln xs M L pc lv (a1 :: a0 :: .ref (dq_A g bb) :: rest) := lo_callG (As := [a0, a1]) ok hc he hcl hC hG hdd rfl hrs hd K
theorem lo_call3 {mi2 : MI} {d2 idx bb ci N : Nat} {a0 a1 a2 : Value} {rest : List Value} {fs : List Value} {Cn : String} {T : u_T} {Q2 : Option Value → MM → LL → Prop} (ok : MOK mi2 3) (hc : CTQ g mi2 d2 (.ref (dq_A g bb) :: [a0, a1, a2]) M L Q2) (he : CE g bb (M bb) (L bb) (.inr (ci, fs))) (hcl : vwCl[ci]? = some (Cn, T, N)) (hC : (mi_y mi2).cls = Cn) (hG : GoodIn lw_tbl (wsV RL idx Cn (mi_y mi2) (mi_w mi2))) (hdd : d2 ≤ 8) (hrs : (rest.map fun v => v.category).sum ≤ 8) (hd : decode code pc = .ok (.invokevirtual idx, 3)) (K : ∀ v M' L', Q2 v M' L' → JL g b Ln xs M' L' (pc + 3) lv (v.toList ++ rest)) : JL g b Ln xs M L pc lv (a2 :: a1 :: a0 :: .ref (dq_A g bb) :: rest) := lo_callG (As := [a0, a1, a2]) ok hc he hcl hC hG hdd rfl hrs hd K
theorem lo_call4 {mi2 : MI} {d2 idx bb ci N : Nat} {a0 a1 a2 a3 : Value} {rest : List Value} {fs : List Value} {Cn : String} {T : u_T} {Q2 : Option Value → MM → LL → Prop} (ok : MOK mi2 4) (hc : CTQ g mi2 d2 (.ref (dq_A g bb) :: [a0, a1, a2, a3]) M L Q2) (he : CE g bb (M bb) (L bb) (.inr (ci, fs))) (hcl : vwCl[ci]? = some (Cn, T, N)) (hC : (mi_y mi2).cls = Cn) (hG : GoodIn lw_tbl (wsV RL idx Cn (mi_y mi2) (mi_w mi2))) (hdd : d2 ≤ 8) (hrs : (rest.map fun v => v.category).sum ≤ 8) (hd : decode code pc = .ok (.invokevirtual idx, 3)) (K : ∀ v M' L', Q2 v M' L' → JL g b Ln xs M' L' (pc + 3) lv (v.toList ++ rest)) : JL g b Ln xs M L pc lv (a3 :: a2 :: a1 :: a0 :: .ref (dq_A g bb) :: rest) := lo_callG (As := [a0, a1, a2, a3]) ok hc he hcl hC hG hdd rfl hrs hd K
theorem lo_call5 {mi2 : MI} {d2 idx bb ci N : Nat} {a0 a1 a2 a3 a4 : Value} {rest : List Value} {fs : List Value} {Cn : String} {T : u_T} {Q2 : Option Value → MM → LL → Prop} (ok : MOK mi2 5) (hc : CTQ g mi2 d2 (.ref (dq_A g bb) :: [a0, a1, a2, a3, a4]) M L Q2) (he : CE g bb (M bb) (L bb) (.inr (ci, fs))) (hcl : vwCl[ci]? = some (Cn, T, N)) (hC : (mi_y mi2).cls = Cn) (hG : GoodIn lw_tbl (wsV RL idx Cn (mi_y mi2) (mi_w mi2))) (hdd : d2 ≤ 8) (hrs : (rest.map fun v => v.category).sum ≤ 8) (hd : decode code pc = .ok (.invokevirtual idx, 3)) (K : ∀ v M' L', Q2 v M' L' → JL g b Ln xs M' L' (pc + 3) lv (v.toList ++ rest)) : JL g b Ln xs M L pc lv (a4 :: a3 :: a2 :: a1 :: a0 :: .ref (dq_A g bb) :: rest) := lo_callG (As := [a0, a1, a2, a3, a4]) ok hc he hcl hC hG hdd rfl hrs hd K
end LO
