/-! ===== the world behind the constructors is the numbered one ===== -/
def adF (s qt qd qn qr qh qm : Nat → Nat) (Q KQ : Nat → Nat → Nat) : Nat → Nat := fun i => if i < 12 then s i else if i < 16 then qh (i - 12) else if i < 23 then qt (i - 16) else if i < 30 then qd (i - 23) else if i < 34 then qn (i - 30) else if i < 38 then qr (i - 34) else if i < 94 then Q ((i - 38) / 4) ((i - 38) % 4) else if i < 102 then KQ ((i - 94) / 4) ((i - 94) % 4) else qm (i - 102)
def posF (i : Nat) : Nat := if i < 8 then i else if i = 8 then 15 else if i = 9 then 23 else if i = 10 then 32 else if i = 11 then 33 else if i < 16 then i + 78 else if i < 23 then i - 8 else if i < 30 then i - 7 else if i < 38 then i - 6 else if i < 94 then i - 4 else i
theorem pos_inj : ∀ i : Nat, i < 118 → ∀ j : Nat, j < 118 → posF i = posF j → i = j := by decide +kernel
theorem as_0 {P : Nat → Prop} : ∀ k, k < 0 → P k := fun k hk => absurd hk (Nat.not_lt_zero k)
theorem as_s {P : Nat → Prop} {n : Nat} (h : ∀ k, k < n → P k) (h2 : P n) : ∀ k, k < n + 1 → P k := fun k hk => by
  by_cases e : k = n
  · subst e; exact h2
  · exact h k (by omega)
def gOf (l : Launch) (D : va_G) (ad : Nat → Nat) (z : Nat) (ids : ClassId × ClassId × ClassId) (E : Nat) : GT := (l, D, ad, z, ids, E)
def earsL (l : Launch) (D : va_G) (ad0 : Nat → Nat) (z : Nat) (ids : ClassId × ClassId × ClassId) (E : Nat) (s qt qd qn qr qh : Nat → Nat) (Q KQ : Nat → Nat → Nat) : va_W := [(s 0, .inr (5, [.ref (s 1), .int 0, .ref (qt 0), .ref (s 8), .ref (qn 0), .ref (qr 0), .ref (s 10), .ref (qh 0), .ref (s 2), .ref (s 3), .long 0, .ref (s 4), .ref (s 5), .ref (s 6), .ref (s 7)])), (s 1, dq_ar (gOf l D ad0 z ids E) 64 (fun _ => 0)), (s 2, dq_sr (gOf l D ad0 z ids E) 2 (fun k => some (KQ k 0))), (s 3, dq_br (gOf l D ad0 z ids E) 2 (fun _ => 0)), (s 4, dq_ar (gOf l D ad0 z ids E) 12 (fun _ => 0)), (s 5, dq_ar (gOf l D ad0 z ids E) 5 (fun _ => 0)), (s 6, dq_ar (gOf l D ad0 z ids E) 4 (fun _ => 0)), (s 7, dq_ar (gOf l D ad0 z ids E) 4 (fun _ => 0)), (qt 0, .inr (2, [.int 0, .int 0, .int 0, .ref (qt 1), .ref (qt 2), .ref (qt 3), .ref (qt 4), .ref (qt 5), .ref (qt 6)])), (qt 1, dq_ar (gOf l D ad0 z ids E) 5 (fun _ => 0)), (qt 2, dq_ar (gOf l D ad0 z ids E) 5 (fun _ => 0)), (qt 3, dq_ar (gOf l D ad0 z ids E) 8 (fun _ => 0)), (qt 4, dq_ar (gOf l D ad0 z ids E) 8 (fun _ => 0)), (qt 5, dq_ar (gOf l D ad0 z ids E) 8 (fun _ => 0)), (qt 6, dq_ar (gOf l D ad0 z ids E) 4 (fun _ => 0)), (s 8, .inr (3, [.ref (qd 0), .ref (s 9), .int 0, .int 0, .int 0])), (qd 0, .inr (2, [.int 0, .int 0, .int 0, .ref (qd 1), .ref (qd 2), .ref (qd 3), .ref (qd 4), .ref (qd 5), .ref (qd 6)])), (qd 1, dq_ar (gOf l D ad0 z ids E) 5 (fun _ => 0)), (qd 2, dq_ar (gOf l D ad0 z ids E) 5 (fun _ => 0)), (qd 3, dq_ar (gOf l D ad0 z ids E) 8 (fun _ => 0)), (qd 4, dq_ar (gOf l D ad0 z ids E) 8 (fun _ => 0)), (qd 5, dq_ar (gOf l D ad0 z ids E) 8 (fun _ => 0)), (qd 6, dq_ar (gOf l D ad0 z ids E) 4 (fun _ => 0)), (s 9, dq_ar (gOf l D ad0 z ids E) 3 (fun _ => 0)), (qn 0, .inr (4, [.ref (qt 0), .ref (qn 1), .ref (qn 2), .ref (qn 3), .int 0, .int 0])), (qn 1, dq_ar (gOf l D ad0 z ids E) 5 (fun _ => 0)), (qn 2, dq_ar (gOf l D ad0 z ids E) 5 (fun _ => 0)), (qn 3, dq_ar (gOf l D ad0 z ids E) 5 (fun _ => 0)), (qr 0, .inr (4, [.ref (qt 0), .ref (qr 1), .ref (qr 2), .ref (qr 3), .int 0, .int 0])), (qr 1, dq_ar (gOf l D ad0 z ids E) 5 (fun _ => 0)), (qr 2, dq_ar (gOf l D ad0 z ids E) 5 (fun _ => 0)), (qr 3, dq_ar (gOf l D ad0 z ids E) 5 (fun _ => 0)), (s 10, .inr (0, [.ref (s 11), .int 0, .int 0])), (s 11, dq_sr (gOf l D ad0 z ids E) 14 (fun k => some (Q k 0))), (Q 0 0, .inr (4, [.ref (qt 0), .ref (Q 0 1), .ref (Q 0 2), .ref (Q 0 3), .int 0, .int 0])), (Q 0 1, dq_ar (gOf l D ad0 z ids E) 5 (fun _ => 0)), (Q 0 2, dq_ar (gOf l D ad0 z ids E) 5 (fun _ => 0)), (Q 0 3, dq_ar (gOf l D ad0 z ids E) 5 (fun _ => 0)), (Q 1 0, .inr (4, [.ref (qt 0), .ref (Q 1 1), .ref (Q 1 2), .ref (Q 1 3), .int 0, .int 0])), (Q 1 1, dq_ar (gOf l D ad0 z ids E) 5 (fun _ => 0)), (Q 1 2, dq_ar (gOf l D ad0 z ids E) 5 (fun _ => 0)), (Q 1 3, dq_ar (gOf l D ad0 z ids E) 5 (fun _ => 0)), (Q 2 0, .inr (4, [.ref (qt 0), .ref (Q 2 1), .ref (Q 2 2), .ref (Q 2 3), .int 0, .int 0])), (Q 2 1, dq_ar (gOf l D ad0 z ids E) 5 (fun _ => 0)), (Q 2 2, dq_ar (gOf l D ad0 z ids E) 5 (fun _ => 0)), (Q 2 3, dq_ar (gOf l D ad0 z ids E) 5 (fun _ => 0)), (Q 3 0, .inr (4, [.ref (qt 0), .ref (Q 3 1), .ref (Q 3 2), .ref (Q 3 3), .int 0, .int 0])), (Q 3 1, dq_ar (gOf l D ad0 z ids E) 5 (fun _ => 0)), (Q 3 2, dq_ar (gOf l D ad0 z ids E) 5 (fun _ => 0)), (Q 3 3, dq_ar (gOf l D ad0 z ids E) 5 (fun _ => 0)), (Q 4 0, .inr (4, [.ref (qt 0), .ref (Q 4 1), .ref (Q 4 2), .ref (Q 4 3), .int 0, .int 0])), (Q 4 1, dq_ar (gOf l D ad0 z ids E) 5 (fun _ => 0)), (Q 4 2, dq_ar (gOf l D ad0 z ids E) 5 (fun _ => 0)), (Q 4 3, dq_ar (gOf l D ad0 z ids E) 5 (fun _ => 0)), (Q 5 0, .inr (4, [.ref (qt 0), .ref (Q 5 1), .ref (Q 5 2), .ref (Q 5 3), .int 0, .int 0])), (Q 5 1, dq_ar (gOf l D ad0 z ids E) 5 (fun _ => 0)), (Q 5 2, dq_ar (gOf l D ad0 z ids E) 5 (fun _ => 0)), (Q 5 3, dq_ar (gOf l D ad0 z ids E) 5 (fun _ => 0)), (Q 6 0, .inr (4, [.ref (qt 0), .ref (Q 6 1), .ref (Q 6 2), .ref (Q 6 3), .int 0, .int 0])), (Q 6 1, dq_ar (gOf l D ad0 z ids E) 5 (fun _ => 0)), (Q 6 2, dq_ar (gOf l D ad0 z ids E) 5 (fun _ => 0)), (Q 6 3, dq_ar (gOf l D ad0 z ids E) 5 (fun _ => 0)), (Q 7 0, .inr (4, [.ref (qt 0), .ref (Q 7 1), .ref (Q 7 2), .ref (Q 7 3), .int 0, .int 0])), (Q 7 1, dq_ar (gOf l D ad0 z ids E) 5 (fun _ => 0)), (Q 7 2, dq_ar (gOf l D ad0 z ids E) 5 (fun _ => 0)), (Q 7 3, dq_ar (gOf l D ad0 z ids E) 5 (fun _ => 0)), (Q 8 0, .inr (4, [.ref (qt 0), .ref (Q 8 1), .ref (Q 8 2), .ref (Q 8 3), .int 0, .int 0])), (Q 8 1, dq_ar (gOf l D ad0 z ids E) 5 (fun _ => 0)), (Q 8 2, dq_ar (gOf l D ad0 z ids E) 5 (fun _ => 0)), (Q 8 3, dq_ar (gOf l D ad0 z ids E) 5 (fun _ => 0)), (Q 9 0, .inr (4, [.ref (qt 0), .ref (Q 9 1), .ref (Q 9 2), .ref (Q 9 3), .int 0, .int 0])), (Q 9 1, dq_ar (gOf l D ad0 z ids E) 5 (fun _ => 0)), (Q 9 2, dq_ar (gOf l D ad0 z ids E) 5 (fun _ => 0)), (Q 9 3, dq_ar (gOf l D ad0 z ids E) 5 (fun _ => 0)), (Q 10 0, .inr (4, [.ref (qt 0), .ref (Q 10 1), .ref (Q 10 2), .ref (Q 10 3), .int 0, .int 0])), (Q 10 1, dq_ar (gOf l D ad0 z ids E) 5 (fun _ => 0)), (Q 10 2, dq_ar (gOf l D ad0 z ids E) 5 (fun _ => 0)), (Q 10 3, dq_ar (gOf l D ad0 z ids E) 5 (fun _ => 0)), (Q 11 0, .inr (4, [.ref (qt 0), .ref (Q 11 1), .ref (Q 11 2), .ref (Q 11 3), .int 0, .int 0])), (Q 11 1, dq_ar (gOf l D ad0 z ids E) 5 (fun _ => 0)), (Q 11 2, dq_ar (gOf l D ad0 z ids E) 5 (fun _ => 0)), (Q 11 3, dq_ar (gOf l D ad0 z ids E) 5 (fun _ => 0)), (Q 12 0, .inr (4, [.ref (qt 0), .ref (Q 12 1), .ref (Q 12 2), .ref (Q 12 3), .int 0, .int 0])), (Q 12 1, dq_ar (gOf l D ad0 z ids E) 5 (fun _ => 0)), (Q 12 2, dq_ar (gOf l D ad0 z ids E) 5 (fun _ => 0)), (Q 12 3, dq_ar (gOf l D ad0 z ids E) 5 (fun _ => 0)), (Q 13 0, .inr (4, [.ref (qt 0), .ref (Q 13 1), .ref (Q 13 2), .ref (Q 13 3), .int 0, .int 0])), (Q 13 1, dq_ar (gOf l D ad0 z ids E) 5 (fun _ => 0)), (Q 13 2, dq_ar (gOf l D ad0 z ids E) 5 (fun _ => 0)), (Q 13 3, dq_ar (gOf l D ad0 z ids E) 5 (fun _ => 0)), (qh 0, .inr (1, [.ref (qh 1), .ref (qh 2), .ref (qh 3), .int 0])), (qh 1, dq_ar (gOf l D ad0 z ids E) 6 (fun _ => 0)), (qh 2, dq_ar (gOf l D ad0 z ids E) 6 (fun _ => 0)), (qh 3, dq_br (gOf l D ad0 z ids E) 6 (fun _ => 0)), (KQ 0 0, .inr (4, [.ref (qt 0), .ref (KQ 0 1), .ref (KQ 0 2), .ref (KQ 0 3), .int 0, .int 0])), (KQ 0 1, dq_ar (gOf l D ad0 z ids E) 5 (fun _ => 0)), (KQ 0 2, dq_ar (gOf l D ad0 z ids E) 5 (fun _ => 0)), (KQ 0 3, dq_ar (gOf l D ad0 z ids E) 5 (fun _ => 0)), (KQ 1 0, .inr (4, [.ref (qt 0), .ref (KQ 1 1), .ref (KQ 1 2), .ref (KQ 1 3), .int 0, .int 0])), (KQ 1 1, dq_ar (gOf l D ad0 z ids E) 5 (fun _ => 0)), (KQ 1 2, dq_ar (gOf l D ad0 z ids E) 5 (fun _ => 0)), (KQ 1 3, dq_ar (gOf l D ad0 z ids E) 5 (fun _ => 0))]
theorem ears_flat {l : Launch} {D : va_G} {ad0 : Nat → Nat} {z : Nat} {ids : ClassId × ClassId × ClassId} {E : Nat} {s qt qd qn qr qh qm : Nat → Nat} {Q KQ : Nat → Nat → Nat} : earsB (gOf l D ad0 z ids E) s qt qd qn qr qh Q KQ = (earsL l D ad0 z ids E s qt qd qn qr qh Q KQ) := by
  simp only [earsB, laneB, readerB, sceneB, actsB, heardB, scBs, earsL, List.append_assoc, List.cons_append, List.nil_append]
theorem ak_0 {l : Launch} {D : va_G} {ad0 : Nat → Nat} {z : Nat} {ids : ClassId × ClassId × ClassId} {E : Nat} {s qt qd qn qr qh qm : Nat → Nat} {Q KQ : Nat → Nat → Nat} : ((earsL l D ad0 z ids E s qt qd qn qr qh Q KQ) ++ modelB (gOf l D ad0 z ids E) qm)[0]? = some (s 0, .inr (5, [.ref (s 1), .int 0, .ref (qt 0), .ref (s 8), .ref (qn 0), .ref (qr 0), .ref (s 10), .ref (qh 0), .ref (s 2), .ref (s 3), .long 0, .ref (s 4), .ref (s 5), .ref (s 6), .ref (s 7)])) := rfl
theorem ak_1 {l : Launch} {D : va_G} {ad0 : Nat → Nat} {z : Nat} {ids : ClassId × ClassId × ClassId} {E : Nat} {s qt qd qn qr qh qm : Nat → Nat} {Q KQ : Nat → Nat → Nat} : ((earsL l D ad0 z ids E s qt qd qn qr qh Q KQ) ++ modelB (gOf l D ad0 z ids E) qm)[1]? = some (s 1, dq_ar (gOf l D ad0 z ids E) 64 (fun _ => 0)) := rfl
theorem ak_2 {l : Launch} {D : va_G} {ad0 : Nat → Nat} {z : Nat} {ids : ClassId × ClassId × ClassId} {E : Nat} {s qt qd qn qr qh qm : Nat → Nat} {Q KQ : Nat → Nat → Nat} : ((earsL l D ad0 z ids E s qt qd qn qr qh Q KQ) ++ modelB (gOf l D ad0 z ids E) qm)[2]? = some (s 2, dq_sr (gOf l D ad0 z ids E) 2 (fun k => some (KQ k 0))) := rfl
theorem ak_3 {l : Launch} {D : va_G} {ad0 : Nat → Nat} {z : Nat} {ids : ClassId × ClassId × ClassId} {E : Nat} {s qt qd qn qr qh qm : Nat → Nat} {Q KQ : Nat → Nat → Nat} : ((earsL l D ad0 z ids E s qt qd qn qr qh Q KQ) ++ modelB (gOf l D ad0 z ids E) qm)[3]? = some (s 3, dq_br (gOf l D ad0 z ids E) 2 (fun _ => 0)) := rfl
theorem ak_4 {l : Launch} {D : va_G} {ad0 : Nat → Nat} {z : Nat} {ids : ClassId × ClassId × ClassId} {E : Nat} {s qt qd qn qr qh qm : Nat → Nat} {Q KQ : Nat → Nat → Nat} : ((earsL l D ad0 z ids E s qt qd qn qr qh Q KQ) ++ modelB (gOf l D ad0 z ids E) qm)[4]? = some (s 4, dq_ar (gOf l D ad0 z ids E) 12 (fun _ => 0)) := rfl
theorem ak_5 {l : Launch} {D : va_G} {ad0 : Nat → Nat} {z : Nat} {ids : ClassId × ClassId × ClassId} {E : Nat} {s qt qd qn qr qh qm : Nat → Nat} {Q KQ : Nat → Nat → Nat} : ((earsL l D ad0 z ids E s qt qd qn qr qh Q KQ) ++ modelB (gOf l D ad0 z ids E) qm)[5]? = some (s 5, dq_ar (gOf l D ad0 z ids E) 5 (fun _ => 0)) := rfl
theorem ak_6 {l : Launch} {D : va_G} {ad0 : Nat → Nat} {z : Nat} {ids : ClassId × ClassId × ClassId} {E : Nat} {s qt qd qn qr qh qm : Nat → Nat} {Q KQ : Nat → Nat → Nat} : ((earsL l D ad0 z ids E s qt qd qn qr qh Q KQ) ++ modelB (gOf l D ad0 z ids E) qm)[6]? = some (s 6, dq_ar (gOf l D ad0 z ids E) 4 (fun _ => 0)) := rfl
theorem ak_7 {l : Launch} {D : va_G} {ad0 : Nat → Nat} {z : Nat} {ids : ClassId × ClassId × ClassId} {E : Nat} {s qt qd qn qr qh qm : Nat → Nat} {Q KQ : Nat → Nat → Nat} : ((earsL l D ad0 z ids E s qt qd qn qr qh Q KQ) ++ modelB (gOf l D ad0 z ids E) qm)[7]? = some (s 7, dq_ar (gOf l D ad0 z ids E) 4 (fun _ => 0)) := rfl
theorem ak_8 {l : Launch} {D : va_G} {ad0 : Nat → Nat} {z : Nat} {ids : ClassId × ClassId × ClassId} {E : Nat} {s qt qd qn qr qh qm : Nat → Nat} {Q KQ : Nat → Nat → Nat} : ((earsL l D ad0 z ids E s qt qd qn qr qh Q KQ) ++ modelB (gOf l D ad0 z ids E) qm)[15]? = some (s 8, .inr (3, [.ref (qd 0), .ref (s 9), .int 0, .int 0, .int 0])) := rfl
theorem ak_9 {l : Launch} {D : va_G} {ad0 : Nat → Nat} {z : Nat} {ids : ClassId × ClassId × ClassId} {E : Nat} {s qt qd qn qr qh qm : Nat → Nat} {Q KQ : Nat → Nat → Nat} : ((earsL l D ad0 z ids E s qt qd qn qr qh Q KQ) ++ modelB (gOf l D ad0 z ids E) qm)[23]? = some (s 9, dq_ar (gOf l D ad0 z ids E) 3 (fun _ => 0)) := rfl
theorem ak_10 {l : Launch} {D : va_G} {ad0 : Nat → Nat} {z : Nat} {ids : ClassId × ClassId × ClassId} {E : Nat} {s qt qd qn qr qh qm : Nat → Nat} {Q KQ : Nat → Nat → Nat} : ((earsL l D ad0 z ids E s qt qd qn qr qh Q KQ) ++ modelB (gOf l D ad0 z ids E) qm)[32]? = some (s 10, .inr (0, [.ref (s 11), .int 0, .int 0])) := rfl
theorem ak_11 {l : Launch} {D : va_G} {ad0 : Nat → Nat} {z : Nat} {ids : ClassId × ClassId × ClassId} {E : Nat} {s qt qd qn qr qh qm : Nat → Nat} {Q KQ : Nat → Nat → Nat} : ((earsL l D ad0 z ids E s qt qd qn qr qh Q KQ) ++ modelB (gOf l D ad0 z ids E) qm)[33]? = some (s 11, dq_sr (gOf l D ad0 z ids E) 14 (fun k => some (Q k 0))) := rfl
theorem ak_12 {l : Launch} {D : va_G} {ad0 : Nat → Nat} {z : Nat} {ids : ClassId × ClassId × ClassId} {E : Nat} {s qt qd qn qr qh qm : Nat → Nat} {Q KQ : Nat → Nat → Nat} : ((earsL l D ad0 z ids E s qt qd qn qr qh Q KQ) ++ modelB (gOf l D ad0 z ids E) qm)[90]? = some (qh 0, .inr (1, [.ref (qh 1), .ref (qh 2), .ref (qh 3), .int 0])) := rfl
theorem ak_13 {l : Launch} {D : va_G} {ad0 : Nat → Nat} {z : Nat} {ids : ClassId × ClassId × ClassId} {E : Nat} {s qt qd qn qr qh qm : Nat → Nat} {Q KQ : Nat → Nat → Nat} : ((earsL l D ad0 z ids E s qt qd qn qr qh Q KQ) ++ modelB (gOf l D ad0 z ids E) qm)[91]? = some (qh 1, dq_ar (gOf l D ad0 z ids E) 6 (fun _ => 0)) := rfl
theorem ak_14 {l : Launch} {D : va_G} {ad0 : Nat → Nat} {z : Nat} {ids : ClassId × ClassId × ClassId} {E : Nat} {s qt qd qn qr qh qm : Nat → Nat} {Q KQ : Nat → Nat → Nat} : ((earsL l D ad0 z ids E s qt qd qn qr qh Q KQ) ++ modelB (gOf l D ad0 z ids E) qm)[92]? = some (qh 2, dq_ar (gOf l D ad0 z ids E) 6 (fun _ => 0)) := rfl
theorem ak_15 {l : Launch} {D : va_G} {ad0 : Nat → Nat} {z : Nat} {ids : ClassId × ClassId × ClassId} {E : Nat} {s qt qd qn qr qh qm : Nat → Nat} {Q KQ : Nat → Nat → Nat} : ((earsL l D ad0 z ids E s qt qd qn qr qh Q KQ) ++ modelB (gOf l D ad0 z ids E) qm)[93]? = some (qh 3, dq_br (gOf l D ad0 z ids E) 6 (fun _ => 0)) := rfl
theorem ak_16 {l : Launch} {D : va_G} {ad0 : Nat → Nat} {z : Nat} {ids : ClassId × ClassId × ClassId} {E : Nat} {s qt qd qn qr qh qm : Nat → Nat} {Q KQ : Nat → Nat → Nat} : ((earsL l D ad0 z ids E s qt qd qn qr qh Q KQ) ++ modelB (gOf l D ad0 z ids E) qm)[8]? = some (qt 0, .inr (2, [.int 0, .int 0, .int 0, .ref (qt 1), .ref (qt 2), .ref (qt 3), .ref (qt 4), .ref (qt 5), .ref (qt 6)])) := rfl
theorem ak_17 {l : Launch} {D : va_G} {ad0 : Nat → Nat} {z : Nat} {ids : ClassId × ClassId × ClassId} {E : Nat} {s qt qd qn qr qh qm : Nat → Nat} {Q KQ : Nat → Nat → Nat} : ((earsL l D ad0 z ids E s qt qd qn qr qh Q KQ) ++ modelB (gOf l D ad0 z ids E) qm)[9]? = some (qt 1, dq_ar (gOf l D ad0 z ids E) 5 (fun _ => 0)) := rfl
theorem ak_18 {l : Launch} {D : va_G} {ad0 : Nat → Nat} {z : Nat} {ids : ClassId × ClassId × ClassId} {E : Nat} {s qt qd qn qr qh qm : Nat → Nat} {Q KQ : Nat → Nat → Nat} : ((earsL l D ad0 z ids E s qt qd qn qr qh Q KQ) ++ modelB (gOf l D ad0 z ids E) qm)[10]? = some (qt 2, dq_ar (gOf l D ad0 z ids E) 5 (fun _ => 0)) := rfl
theorem ak_19 {l : Launch} {D : va_G} {ad0 : Nat → Nat} {z : Nat} {ids : ClassId × ClassId × ClassId} {E : Nat} {s qt qd qn qr qh qm : Nat → Nat} {Q KQ : Nat → Nat → Nat} : ((earsL l D ad0 z ids E s qt qd qn qr qh Q KQ) ++ modelB (gOf l D ad0 z ids E) qm)[11]? = some (qt 3, dq_ar (gOf l D ad0 z ids E) 8 (fun _ => 0)) := rfl
theorem ak_20 {l : Launch} {D : va_G} {ad0 : Nat → Nat} {z : Nat} {ids : ClassId × ClassId × ClassId} {E : Nat} {s qt qd qn qr qh qm : Nat → Nat} {Q KQ : Nat → Nat → Nat} : ((earsL l D ad0 z ids E s qt qd qn qr qh Q KQ) ++ modelB (gOf l D ad0 z ids E) qm)[12]? = some (qt 4, dq_ar (gOf l D ad0 z ids E) 8 (fun _ => 0)) := rfl
theorem ak_21 {l : Launch} {D : va_G} {ad0 : Nat → Nat} {z : Nat} {ids : ClassId × ClassId × ClassId} {E : Nat} {s qt qd qn qr qh qm : Nat → Nat} {Q KQ : Nat → Nat → Nat} : ((earsL l D ad0 z ids E s qt qd qn qr qh Q KQ) ++ modelB (gOf l D ad0 z ids E) qm)[13]? = some (qt 5, dq_ar (gOf l D ad0 z ids E) 8 (fun _ => 0)) := rfl
theorem ak_22 {l : Launch} {D : va_G} {ad0 : Nat → Nat} {z : Nat} {ids : ClassId × ClassId × ClassId} {E : Nat} {s qt qd qn qr qh qm : Nat → Nat} {Q KQ : Nat → Nat → Nat} : ((earsL l D ad0 z ids E s qt qd qn qr qh Q KQ) ++ modelB (gOf l D ad0 z ids E) qm)[14]? = some (qt 6, dq_ar (gOf l D ad0 z ids E) 4 (fun _ => 0)) := rfl
theorem ak_23 {l : Launch} {D : va_G} {ad0 : Nat → Nat} {z : Nat} {ids : ClassId × ClassId × ClassId} {E : Nat} {s qt qd qn qr qh qm : Nat → Nat} {Q KQ : Nat → Nat → Nat} : ((earsL l D ad0 z ids E s qt qd qn qr qh Q KQ) ++ modelB (gOf l D ad0 z ids E) qm)[16]? = some (qd 0, .inr (2, [.int 0, .int 0, .int 0, .ref (qd 1), .ref (qd 2), .ref (qd 3), .ref (qd 4), .ref (qd 5), .ref (qd 6)])) := rfl
theorem ak_24 {l : Launch} {D : va_G} {ad0 : Nat → Nat} {z : Nat} {ids : ClassId × ClassId × ClassId} {E : Nat} {s qt qd qn qr qh qm : Nat → Nat} {Q KQ : Nat → Nat → Nat} : ((earsL l D ad0 z ids E s qt qd qn qr qh Q KQ) ++ modelB (gOf l D ad0 z ids E) qm)[17]? = some (qd 1, dq_ar (gOf l D ad0 z ids E) 5 (fun _ => 0)) := rfl
theorem ak_25 {l : Launch} {D : va_G} {ad0 : Nat → Nat} {z : Nat} {ids : ClassId × ClassId × ClassId} {E : Nat} {s qt qd qn qr qh qm : Nat → Nat} {Q KQ : Nat → Nat → Nat} : ((earsL l D ad0 z ids E s qt qd qn qr qh Q KQ) ++ modelB (gOf l D ad0 z ids E) qm)[18]? = some (qd 2, dq_ar (gOf l D ad0 z ids E) 5 (fun _ => 0)) := rfl
theorem ak_26 {l : Launch} {D : va_G} {ad0 : Nat → Nat} {z : Nat} {ids : ClassId × ClassId × ClassId} {E : Nat} {s qt qd qn qr qh qm : Nat → Nat} {Q KQ : Nat → Nat → Nat} : ((earsL l D ad0 z ids E s qt qd qn qr qh Q KQ) ++ modelB (gOf l D ad0 z ids E) qm)[19]? = some (qd 3, dq_ar (gOf l D ad0 z ids E) 8 (fun _ => 0)) := rfl
theorem ak_27 {l : Launch} {D : va_G} {ad0 : Nat → Nat} {z : Nat} {ids : ClassId × ClassId × ClassId} {E : Nat} {s qt qd qn qr qh qm : Nat → Nat} {Q KQ : Nat → Nat → Nat} : ((earsL l D ad0 z ids E s qt qd qn qr qh Q KQ) ++ modelB (gOf l D ad0 z ids E) qm)[20]? = some (qd 4, dq_ar (gOf l D ad0 z ids E) 8 (fun _ => 0)) := rfl
theorem ak_28 {l : Launch} {D : va_G} {ad0 : Nat → Nat} {z : Nat} {ids : ClassId × ClassId × ClassId} {E : Nat} {s qt qd qn qr qh qm : Nat → Nat} {Q KQ : Nat → Nat → Nat} : ((earsL l D ad0 z ids E s qt qd qn qr qh Q KQ) ++ modelB (gOf l D ad0 z ids E) qm)[21]? = some (qd 5, dq_ar (gOf l D ad0 z ids E) 8 (fun _ => 0)) := rfl
theorem ak_29 {l : Launch} {D : va_G} {ad0 : Nat → Nat} {z : Nat} {ids : ClassId × ClassId × ClassId} {E : Nat} {s qt qd qn qr qh qm : Nat → Nat} {Q KQ : Nat → Nat → Nat} : ((earsL l D ad0 z ids E s qt qd qn qr qh Q KQ) ++ modelB (gOf l D ad0 z ids E) qm)[22]? = some (qd 6, dq_ar (gOf l D ad0 z ids E) 4 (fun _ => 0)) := rfl
theorem ak_30 {l : Launch} {D : va_G} {ad0 : Nat → Nat} {z : Nat} {ids : ClassId × ClassId × ClassId} {E : Nat} {s qt qd qn qr qh qm : Nat → Nat} {Q KQ : Nat → Nat → Nat} : ((earsL l D ad0 z ids E s qt qd qn qr qh Q KQ) ++ modelB (gOf l D ad0 z ids E) qm)[24]? = some (qn 0, .inr (4, [.ref (qt 0), .ref (qn 1), .ref (qn 2), .ref (qn 3), .int 0, .int 0])) := rfl
theorem ak_31 {l : Launch} {D : va_G} {ad0 : Nat → Nat} {z : Nat} {ids : ClassId × ClassId × ClassId} {E : Nat} {s qt qd qn qr qh qm : Nat → Nat} {Q KQ : Nat → Nat → Nat} : ((earsL l D ad0 z ids E s qt qd qn qr qh Q KQ) ++ modelB (gOf l D ad0 z ids E) qm)[25]? = some (qn 1, dq_ar (gOf l D ad0 z ids E) 5 (fun _ => 0)) := rfl
theorem ak_32 {l : Launch} {D : va_G} {ad0 : Nat → Nat} {z : Nat} {ids : ClassId × ClassId × ClassId} {E : Nat} {s qt qd qn qr qh qm : Nat → Nat} {Q KQ : Nat → Nat → Nat} : ((earsL l D ad0 z ids E s qt qd qn qr qh Q KQ) ++ modelB (gOf l D ad0 z ids E) qm)[26]? = some (qn 2, dq_ar (gOf l D ad0 z ids E) 5 (fun _ => 0)) := rfl
theorem ak_33 {l : Launch} {D : va_G} {ad0 : Nat → Nat} {z : Nat} {ids : ClassId × ClassId × ClassId} {E : Nat} {s qt qd qn qr qh qm : Nat → Nat} {Q KQ : Nat → Nat → Nat} : ((earsL l D ad0 z ids E s qt qd qn qr qh Q KQ) ++ modelB (gOf l D ad0 z ids E) qm)[27]? = some (qn 3, dq_ar (gOf l D ad0 z ids E) 5 (fun _ => 0)) := rfl
theorem ak_34 {l : Launch} {D : va_G} {ad0 : Nat → Nat} {z : Nat} {ids : ClassId × ClassId × ClassId} {E : Nat} {s qt qd qn qr qh qm : Nat → Nat} {Q KQ : Nat → Nat → Nat} : ((earsL l D ad0 z ids E s qt qd qn qr qh Q KQ) ++ modelB (gOf l D ad0 z ids E) qm)[28]? = some (qr 0, .inr (4, [.ref (qt 0), .ref (qr 1), .ref (qr 2), .ref (qr 3), .int 0, .int 0])) := rfl
theorem ak_35 {l : Launch} {D : va_G} {ad0 : Nat → Nat} {z : Nat} {ids : ClassId × ClassId × ClassId} {E : Nat} {s qt qd qn qr qh qm : Nat → Nat} {Q KQ : Nat → Nat → Nat} : ((earsL l D ad0 z ids E s qt qd qn qr qh Q KQ) ++ modelB (gOf l D ad0 z ids E) qm)[29]? = some (qr 1, dq_ar (gOf l D ad0 z ids E) 5 (fun _ => 0)) := rfl
theorem ak_36 {l : Launch} {D : va_G} {ad0 : Nat → Nat} {z : Nat} {ids : ClassId × ClassId × ClassId} {E : Nat} {s qt qd qn qr qh qm : Nat → Nat} {Q KQ : Nat → Nat → Nat} : ((earsL l D ad0 z ids E s qt qd qn qr qh Q KQ) ++ modelB (gOf l D ad0 z ids E) qm)[30]? = some (qr 2, dq_ar (gOf l D ad0 z ids E) 5 (fun _ => 0)) := rfl
theorem ak_37 {l : Launch} {D : va_G} {ad0 : Nat → Nat} {z : Nat} {ids : ClassId × ClassId × ClassId} {E : Nat} {s qt qd qn qr qh qm : Nat → Nat} {Q KQ : Nat → Nat → Nat} : ((earsL l D ad0 z ids E s qt qd qn qr qh Q KQ) ++ modelB (gOf l D ad0 z ids E) qm)[31]? = some (qr 3, dq_ar (gOf l D ad0 z ids E) 5 (fun _ => 0)) := rfl
theorem ak_38 {l : Launch} {D : va_G} {ad0 : Nat → Nat} {z : Nat} {ids : ClassId × ClassId × ClassId} {E : Nat} {s qt qd qn qr qh qm : Nat → Nat} {Q KQ : Nat → Nat → Nat} : ((earsL l D ad0 z ids E s qt qd qn qr qh Q KQ) ++ modelB (gOf l D ad0 z ids E) qm)[34]? = some (Q 0 0, .inr (4, [.ref (qt 0), .ref (Q 0 1), .ref (Q 0 2), .ref (Q 0 3), .int 0, .int 0])) := rfl
theorem ak_39 {l : Launch} {D : va_G} {ad0 : Nat → Nat} {z : Nat} {ids : ClassId × ClassId × ClassId} {E : Nat} {s qt qd qn qr qh qm : Nat → Nat} {Q KQ : Nat → Nat → Nat} : ((earsL l D ad0 z ids E s qt qd qn qr qh Q KQ) ++ modelB (gOf l D ad0 z ids E) qm)[35]? = some (Q 0 1, dq_ar (gOf l D ad0 z ids E) 5 (fun _ => 0)) := rfl
theorem ak_40 {l : Launch} {D : va_G} {ad0 : Nat → Nat} {z : Nat} {ids : ClassId × ClassId × ClassId} {E : Nat} {s qt qd qn qr qh qm : Nat → Nat} {Q KQ : Nat → Nat → Nat} : ((earsL l D ad0 z ids E s qt qd qn qr qh Q KQ) ++ modelB (gOf l D ad0 z ids E) qm)[36]? = some (Q 0 2, dq_ar (gOf l D ad0 z ids E) 5 (fun _ => 0)) := rfl
theorem ak_41 {l : Launch} {D : va_G} {ad0 : Nat → Nat} {z : Nat} {ids : ClassId × ClassId × ClassId} {E : Nat} {s qt qd qn qr qh qm : Nat → Nat} {Q KQ : Nat → Nat → Nat} : ((earsL l D ad0 z ids E s qt qd qn qr qh Q KQ) ++ modelB (gOf l D ad0 z ids E) qm)[37]? = some (Q 0 3, dq_ar (gOf l D ad0 z ids E) 5 (fun _ => 0)) := rfl
theorem ak_42 {l : Launch} {D : va_G} {ad0 : Nat → Nat} {z : Nat} {ids : ClassId × ClassId × ClassId} {E : Nat} {s qt qd qn qr qh qm : Nat → Nat} {Q KQ : Nat → Nat → Nat} : ((earsL l D ad0 z ids E s qt qd qn qr qh Q KQ) ++ modelB (gOf l D ad0 z ids E) qm)[38]? = some (Q 1 0, .inr (4, [.ref (qt 0), .ref (Q 1 1), .ref (Q 1 2), .ref (Q 1 3), .int 0, .int 0])) := rfl
theorem ak_43 {l : Launch} {D : va_G} {ad0 : Nat → Nat} {z : Nat} {ids : ClassId × ClassId × ClassId} {E : Nat} {s qt qd qn qr qh qm : Nat → Nat} {Q KQ : Nat → Nat → Nat} : ((earsL l D ad0 z ids E s qt qd qn qr qh Q KQ) ++ modelB (gOf l D ad0 z ids E) qm)[39]? = some (Q 1 1, dq_ar (gOf l D ad0 z ids E) 5 (fun _ => 0)) := rfl
theorem ak_44 {l : Launch} {D : va_G} {ad0 : Nat → Nat} {z : Nat} {ids : ClassId × ClassId × ClassId} {E : Nat} {s qt qd qn qr qh qm : Nat → Nat} {Q KQ : Nat → Nat → Nat} : ((earsL l D ad0 z ids E s qt qd qn qr qh Q KQ) ++ modelB (gOf l D ad0 z ids E) qm)[40]? = some (Q 1 2, dq_ar (gOf l D ad0 z ids E) 5 (fun _ => 0)) := rfl
theorem ak_45 {l : Launch} {D : va_G} {ad0 : Nat → Nat} {z : Nat} {ids : ClassId × ClassId × ClassId} {E : Nat} {s qt qd qn qr qh qm : Nat → Nat} {Q KQ : Nat → Nat → Nat} : ((earsL l D ad0 z ids E s qt qd qn qr qh Q KQ) ++ modelB (gOf l D ad0 z ids E) qm)[41]? = some (Q 1 3, dq_ar (gOf l D ad0 z ids E) 5 (fun _ => 0)) := rfl
theorem ak_46 {l : Launch} {D : va_G} {ad0 : Nat → Nat} {z : Nat} {ids : ClassId × ClassId × ClassId} {E : Nat} {s qt qd qn qr qh qm : Nat → Nat} {Q KQ : Nat → Nat → Nat} : ((earsL l D ad0 z ids E s qt qd qn qr qh Q KQ) ++ modelB (gOf l D ad0 z ids E) qm)[42]? = some (Q 2 0, .inr (4, [.ref (qt 0), .ref (Q 2 1), .ref (Q 2 2), .ref (Q 2 3), .int 0, .int 0])) := rfl
theorem ak_47 {l : Launch} {D : va_G} {ad0 : Nat → Nat} {z : Nat} {ids : ClassId × ClassId × ClassId} {E : Nat} {s qt qd qn qr qh qm : Nat → Nat} {Q KQ : Nat → Nat → Nat} : ((earsL l D ad0 z ids E s qt qd qn qr qh Q KQ) ++ modelB (gOf l D ad0 z ids E) qm)[43]? = some (Q 2 1, dq_ar (gOf l D ad0 z ids E) 5 (fun _ => 0)) := rfl
theorem ak_48 {l : Launch} {D : va_G} {ad0 : Nat → Nat} {z : Nat} {ids : ClassId × ClassId × ClassId} {E : Nat} {s qt qd qn qr qh qm : Nat → Nat} {Q KQ : Nat → Nat → Nat} : ((earsL l D ad0 z ids E s qt qd qn qr qh Q KQ) ++ modelB (gOf l D ad0 z ids E) qm)[44]? = some (Q 2 2, dq_ar (gOf l D ad0 z ids E) 5 (fun _ => 0)) := rfl
theorem ak_49 {l : Launch} {D : va_G} {ad0 : Nat → Nat} {z : Nat} {ids : ClassId × ClassId × ClassId} {E : Nat} {s qt qd qn qr qh qm : Nat → Nat} {Q KQ : Nat → Nat → Nat} : ((earsL l D ad0 z ids E s qt qd qn qr qh Q KQ) ++ modelB (gOf l D ad0 z ids E) qm)[45]? = some (Q 2 3, dq_ar (gOf l D ad0 z ids E) 5 (fun _ => 0)) := rfl
theorem ak_50 {l : Launch} {D : va_G} {ad0 : Nat → Nat} {z : Nat} {ids : ClassId × ClassId × ClassId} {E : Nat} {s qt qd qn qr qh qm : Nat → Nat} {Q KQ : Nat → Nat → Nat} : ((earsL l D ad0 z ids E s qt qd qn qr qh Q KQ) ++ modelB (gOf l D ad0 z ids E) qm)[46]? = some (Q 3 0, .inr (4, [.ref (qt 0), .ref (Q 3 1), .ref (Q 3 2), .ref (Q 3 3), .int 0, .int 0])) := rfl
theorem ak_51 {l : Launch} {D : va_G} {ad0 : Nat → Nat} {z : Nat} {ids : ClassId × ClassId × ClassId} {E : Nat} {s qt qd qn qr qh qm : Nat → Nat} {Q KQ : Nat → Nat → Nat} : ((earsL l D ad0 z ids E s qt qd qn qr qh Q KQ) ++ modelB (gOf l D ad0 z ids E) qm)[47]? = some (Q 3 1, dq_ar (gOf l D ad0 z ids E) 5 (fun _ => 0)) := rfl
theorem ak_52 {l : Launch} {D : va_G} {ad0 : Nat → Nat} {z : Nat} {ids : ClassId × ClassId × ClassId} {E : Nat} {s qt qd qn qr qh qm : Nat → Nat} {Q KQ : Nat → Nat → Nat} : ((earsL l D ad0 z ids E s qt qd qn qr qh Q KQ) ++ modelB (gOf l D ad0 z ids E) qm)[48]? = some (Q 3 2, dq_ar (gOf l D ad0 z ids E) 5 (fun _ => 0)) := rfl
theorem ak_53 {l : Launch} {D : va_G} {ad0 : Nat → Nat} {z : Nat} {ids : ClassId × ClassId × ClassId} {E : Nat} {s qt qd qn qr qh qm : Nat → Nat} {Q KQ : Nat → Nat → Nat} : ((earsL l D ad0 z ids E s qt qd qn qr qh Q KQ) ++ modelB (gOf l D ad0 z ids E) qm)[49]? = some (Q 3 3, dq_ar (gOf l D ad0 z ids E) 5 (fun _ => 0)) := rfl
theorem ak_54 {l : Launch} {D : va_G} {ad0 : Nat → Nat} {z : Nat} {ids : ClassId × ClassId × ClassId} {E : Nat} {s qt qd qn qr qh qm : Nat → Nat} {Q KQ : Nat → Nat → Nat} : ((earsL l D ad0 z ids E s qt qd qn qr qh Q KQ) ++ modelB (gOf l D ad0 z ids E) qm)[50]? = some (Q 4 0, .inr (4, [.ref (qt 0), .ref (Q 4 1), .ref (Q 4 2), .ref (Q 4 3), .int 0, .int 0])) := rfl
theorem ak_55 {l : Launch} {D : va_G} {ad0 : Nat → Nat} {z : Nat} {ids : ClassId × ClassId × ClassId} {E : Nat} {s qt qd qn qr qh qm : Nat → Nat} {Q KQ : Nat → Nat → Nat} : ((earsL l D ad0 z ids E s qt qd qn qr qh Q KQ) ++ modelB (gOf l D ad0 z ids E) qm)[51]? = some (Q 4 1, dq_ar (gOf l D ad0 z ids E) 5 (fun _ => 0)) := rfl
theorem ak_56 {l : Launch} {D : va_G} {ad0 : Nat → Nat} {z : Nat} {ids : ClassId × ClassId × ClassId} {E : Nat} {s qt qd qn qr qh qm : Nat → Nat} {Q KQ : Nat → Nat → Nat} : ((earsL l D ad0 z ids E s qt qd qn qr qh Q KQ) ++ modelB (gOf l D ad0 z ids E) qm)[52]? = some (Q 4 2, dq_ar (gOf l D ad0 z ids E) 5 (fun _ => 0)) := rfl
theorem ak_57 {l : Launch} {D : va_G} {ad0 : Nat → Nat} {z : Nat} {ids : ClassId × ClassId × ClassId} {E : Nat} {s qt qd qn qr qh qm : Nat → Nat} {Q KQ : Nat → Nat → Nat} : ((earsL l D ad0 z ids E s qt qd qn qr qh Q KQ) ++ modelB (gOf l D ad0 z ids E) qm)[53]? = some (Q 4 3, dq_ar (gOf l D ad0 z ids E) 5 (fun _ => 0)) := rfl
theorem ak_58 {l : Launch} {D : va_G} {ad0 : Nat → Nat} {z : Nat} {ids : ClassId × ClassId × ClassId} {E : Nat} {s qt qd qn qr qh qm : Nat → Nat} {Q KQ : Nat → Nat → Nat} : ((earsL l D ad0 z ids E s qt qd qn qr qh Q KQ) ++ modelB (gOf l D ad0 z ids E) qm)[54]? = some (Q 5 0, .inr (4, [.ref (qt 0), .ref (Q 5 1), .ref (Q 5 2), .ref (Q 5 3), .int 0, .int 0])) := rfl
theorem ak_59 {l : Launch} {D : va_G} {ad0 : Nat → Nat} {z : Nat} {ids : ClassId × ClassId × ClassId} {E : Nat} {s qt qd qn qr qh qm : Nat → Nat} {Q KQ : Nat → Nat → Nat} : ((earsL l D ad0 z ids E s qt qd qn qr qh Q KQ) ++ modelB (gOf l D ad0 z ids E) qm)[55]? = some (Q 5 1, dq_ar (gOf l D ad0 z ids E) 5 (fun _ => 0)) := rfl
theorem ak_60 {l : Launch} {D : va_G} {ad0 : Nat → Nat} {z : Nat} {ids : ClassId × ClassId × ClassId} {E : Nat} {s qt qd qn qr qh qm : Nat → Nat} {Q KQ : Nat → Nat → Nat} : ((earsL l D ad0 z ids E s qt qd qn qr qh Q KQ) ++ modelB (gOf l D ad0 z ids E) qm)[56]? = some (Q 5 2, dq_ar (gOf l D ad0 z ids E) 5 (fun _ => 0)) := rfl
theorem ak_61 {l : Launch} {D : va_G} {ad0 : Nat → Nat} {z : Nat} {ids : ClassId × ClassId × ClassId} {E : Nat} {s qt qd qn qr qh qm : Nat → Nat} {Q KQ : Nat → Nat → Nat} : ((earsL l D ad0 z ids E s qt qd qn qr qh Q KQ) ++ modelB (gOf l D ad0 z ids E) qm)[57]? = some (Q 5 3, dq_ar (gOf l D ad0 z ids E) 5 (fun _ => 0)) := rfl
theorem ak_62 {l : Launch} {D : va_G} {ad0 : Nat → Nat} {z : Nat} {ids : ClassId × ClassId × ClassId} {E : Nat} {s qt qd qn qr qh qm : Nat → Nat} {Q KQ : Nat → Nat → Nat} : ((earsL l D ad0 z ids E s qt qd qn qr qh Q KQ) ++ modelB (gOf l D ad0 z ids E) qm)[58]? = some (Q 6 0, .inr (4, [.ref (qt 0), .ref (Q 6 1), .ref (Q 6 2), .ref (Q 6 3), .int 0, .int 0])) := rfl
theorem ak_63 {l : Launch} {D : va_G} {ad0 : Nat → Nat} {z : Nat} {ids : ClassId × ClassId × ClassId} {E : Nat} {s qt qd qn qr qh qm : Nat → Nat} {Q KQ : Nat → Nat → Nat} : ((earsL l D ad0 z ids E s qt qd qn qr qh Q KQ) ++ modelB (gOf l D ad0 z ids E) qm)[59]? = some (Q 6 1, dq_ar (gOf l D ad0 z ids E) 5 (fun _ => 0)) := rfl
theorem ak_64 {l : Launch} {D : va_G} {ad0 : Nat → Nat} {z : Nat} {ids : ClassId × ClassId × ClassId} {E : Nat} {s qt qd qn qr qh qm : Nat → Nat} {Q KQ : Nat → Nat → Nat} : ((earsL l D ad0 z ids E s qt qd qn qr qh Q KQ) ++ modelB (gOf l D ad0 z ids E) qm)[60]? = some (Q 6 2, dq_ar (gOf l D ad0 z ids E) 5 (fun _ => 0)) := rfl
theorem ak_65 {l : Launch} {D : va_G} {ad0 : Nat → Nat} {z : Nat} {ids : ClassId × ClassId × ClassId} {E : Nat} {s qt qd qn qr qh qm : Nat → Nat} {Q KQ : Nat → Nat → Nat} : ((earsL l D ad0 z ids E s qt qd qn qr qh Q KQ) ++ modelB (gOf l D ad0 z ids E) qm)[61]? = some (Q 6 3, dq_ar (gOf l D ad0 z ids E) 5 (fun _ => 0)) := rfl
theorem ak_66 {l : Launch} {D : va_G} {ad0 : Nat → Nat} {z : Nat} {ids : ClassId × ClassId × ClassId} {E : Nat} {s qt qd qn qr qh qm : Nat → Nat} {Q KQ : Nat → Nat → Nat} : ((earsL l D ad0 z ids E s qt qd qn qr qh Q KQ) ++ modelB (gOf l D ad0 z ids E) qm)[62]? = some (Q 7 0, .inr (4, [.ref (qt 0), .ref (Q 7 1), .ref (Q 7 2), .ref (Q 7 3), .int 0, .int 0])) := rfl
theorem ak_67 {l : Launch} {D : va_G} {ad0 : Nat → Nat} {z : Nat} {ids : ClassId × ClassId × ClassId} {E : Nat} {s qt qd qn qr qh qm : Nat → Nat} {Q KQ : Nat → Nat → Nat} : ((earsL l D ad0 z ids E s qt qd qn qr qh Q KQ) ++ modelB (gOf l D ad0 z ids E) qm)[63]? = some (Q 7 1, dq_ar (gOf l D ad0 z ids E) 5 (fun _ => 0)) := rfl
theorem ak_68 {l : Launch} {D : va_G} {ad0 : Nat → Nat} {z : Nat} {ids : ClassId × ClassId × ClassId} {E : Nat} {s qt qd qn qr qh qm : Nat → Nat} {Q KQ : Nat → Nat → Nat} : ((earsL l D ad0 z ids E s qt qd qn qr qh Q KQ) ++ modelB (gOf l D ad0 z ids E) qm)[64]? = some (Q 7 2, dq_ar (gOf l D ad0 z ids E) 5 (fun _ => 0)) := rfl
theorem ak_69 {l : Launch} {D : va_G} {ad0 : Nat → Nat} {z : Nat} {ids : ClassId × ClassId × ClassId} {E : Nat} {s qt qd qn qr qh qm : Nat → Nat} {Q KQ : Nat → Nat → Nat} : ((earsL l D ad0 z ids E s qt qd qn qr qh Q KQ) ++ modelB (gOf l D ad0 z ids E) qm)[65]? = some (Q 7 3, dq_ar (gOf l D ad0 z ids E) 5 (fun _ => 0)) := rfl
theorem ak_70 {l : Launch} {D : va_G} {ad0 : Nat → Nat} {z : Nat} {ids : ClassId × ClassId × ClassId} {E : Nat} {s qt qd qn qr qh qm : Nat → Nat} {Q KQ : Nat → Nat → Nat} : ((earsL l D ad0 z ids E s qt qd qn qr qh Q KQ) ++ modelB (gOf l D ad0 z ids E) qm)[66]? = some (Q 8 0, .inr (4, [.ref (qt 0), .ref (Q 8 1), .ref (Q 8 2), .ref (Q 8 3), .int 0, .int 0])) := rfl
theorem ak_71 {l : Launch} {D : va_G} {ad0 : Nat → Nat} {z : Nat} {ids : ClassId × ClassId × ClassId} {E : Nat} {s qt qd qn qr qh qm : Nat → Nat} {Q KQ : Nat → Nat → Nat} : ((earsL l D ad0 z ids E s qt qd qn qr qh Q KQ) ++ modelB (gOf l D ad0 z ids E) qm)[67]? = some (Q 8 1, dq_ar (gOf l D ad0 z ids E) 5 (fun _ => 0)) := rfl
theorem ak_72 {l : Launch} {D : va_G} {ad0 : Nat → Nat} {z : Nat} {ids : ClassId × ClassId × ClassId} {E : Nat} {s qt qd qn qr qh qm : Nat → Nat} {Q KQ : Nat → Nat → Nat} : ((earsL l D ad0 z ids E s qt qd qn qr qh Q KQ) ++ modelB (gOf l D ad0 z ids E) qm)[68]? = some (Q 8 2, dq_ar (gOf l D ad0 z ids E) 5 (fun _ => 0)) := rfl
theorem ak_73 {l : Launch} {D : va_G} {ad0 : Nat → Nat} {z : Nat} {ids : ClassId × ClassId × ClassId} {E : Nat} {s qt qd qn qr qh qm : Nat → Nat} {Q KQ : Nat → Nat → Nat} : ((earsL l D ad0 z ids E s qt qd qn qr qh Q KQ) ++ modelB (gOf l D ad0 z ids E) qm)[69]? = some (Q 8 3, dq_ar (gOf l D ad0 z ids E) 5 (fun _ => 0)) := rfl
theorem ak_74 {l : Launch} {D : va_G} {ad0 : Nat → Nat} {z : Nat} {ids : ClassId × ClassId × ClassId} {E : Nat} {s qt qd qn qr qh qm : Nat → Nat} {Q KQ : Nat → Nat → Nat} : ((earsL l D ad0 z ids E s qt qd qn qr qh Q KQ) ++ modelB (gOf l D ad0 z ids E) qm)[70]? = some (Q 9 0, .inr (4, [.ref (qt 0), .ref (Q 9 1), .ref (Q 9 2), .ref (Q 9 3), .int 0, .int 0])) := rfl
theorem ak_75 {l : Launch} {D : va_G} {ad0 : Nat → Nat} {z : Nat} {ids : ClassId × ClassId × ClassId} {E : Nat} {s qt qd qn qr qh qm : Nat → Nat} {Q KQ : Nat → Nat → Nat} : ((earsL l D ad0 z ids E s qt qd qn qr qh Q KQ) ++ modelB (gOf l D ad0 z ids E) qm)[71]? = some (Q 9 1, dq_ar (gOf l D ad0 z ids E) 5 (fun _ => 0)) := rfl
theorem ak_76 {l : Launch} {D : va_G} {ad0 : Nat → Nat} {z : Nat} {ids : ClassId × ClassId × ClassId} {E : Nat} {s qt qd qn qr qh qm : Nat → Nat} {Q KQ : Nat → Nat → Nat} : ((earsL l D ad0 z ids E s qt qd qn qr qh Q KQ) ++ modelB (gOf l D ad0 z ids E) qm)[72]? = some (Q 9 2, dq_ar (gOf l D ad0 z ids E) 5 (fun _ => 0)) := rfl
theorem ak_77 {l : Launch} {D : va_G} {ad0 : Nat → Nat} {z : Nat} {ids : ClassId × ClassId × ClassId} {E : Nat} {s qt qd qn qr qh qm : Nat → Nat} {Q KQ : Nat → Nat → Nat} : ((earsL l D ad0 z ids E s qt qd qn qr qh Q KQ) ++ modelB (gOf l D ad0 z ids E) qm)[73]? = some (Q 9 3, dq_ar (gOf l D ad0 z ids E) 5 (fun _ => 0)) := rfl
theorem ak_78 {l : Launch} {D : va_G} {ad0 : Nat → Nat} {z : Nat} {ids : ClassId × ClassId × ClassId} {E : Nat} {s qt qd qn qr qh qm : Nat → Nat} {Q KQ : Nat → Nat → Nat} : ((earsL l D ad0 z ids E s qt qd qn qr qh Q KQ) ++ modelB (gOf l D ad0 z ids E) qm)[74]? = some (Q 10 0, .inr (4, [.ref (qt 0), .ref (Q 10 1), .ref (Q 10 2), .ref (Q 10 3), .int 0, .int 0])) := rfl
theorem ak_79 {l : Launch} {D : va_G} {ad0 : Nat → Nat} {z : Nat} {ids : ClassId × ClassId × ClassId} {E : Nat} {s qt qd qn qr qh qm : Nat → Nat} {Q KQ : Nat → Nat → Nat} : ((earsL l D ad0 z ids E s qt qd qn qr qh Q KQ) ++ modelB (gOf l D ad0 z ids E) qm)[75]? = some (Q 10 1, dq_ar (gOf l D ad0 z ids E) 5 (fun _ => 0)) := rfl
theorem ak_80 {l : Launch} {D : va_G} {ad0 : Nat → Nat} {z : Nat} {ids : ClassId × ClassId × ClassId} {E : Nat} {s qt qd qn qr qh qm : Nat → Nat} {Q KQ : Nat → Nat → Nat} : ((earsL l D ad0 z ids E s qt qd qn qr qh Q KQ) ++ modelB (gOf l D ad0 z ids E) qm)[76]? = some (Q 10 2, dq_ar (gOf l D ad0 z ids E) 5 (fun _ => 0)) := rfl
theorem ak_81 {l : Launch} {D : va_G} {ad0 : Nat → Nat} {z : Nat} {ids : ClassId × ClassId × ClassId} {E : Nat} {s qt qd qn qr qh qm : Nat → Nat} {Q KQ : Nat → Nat → Nat} : ((earsL l D ad0 z ids E s qt qd qn qr qh Q KQ) ++ modelB (gOf l D ad0 z ids E) qm)[77]? = some (Q 10 3, dq_ar (gOf l D ad0 z ids E) 5 (fun _ => 0)) := rfl
theorem ak_82 {l : Launch} {D : va_G} {ad0 : Nat → Nat} {z : Nat} {ids : ClassId × ClassId × ClassId} {E : Nat} {s qt qd qn qr qh qm : Nat → Nat} {Q KQ : Nat → Nat → Nat} : ((earsL l D ad0 z ids E s qt qd qn qr qh Q KQ) ++ modelB (gOf l D ad0 z ids E) qm)[78]? = some (Q 11 0, .inr (4, [.ref (qt 0), .ref (Q 11 1), .ref (Q 11 2), .ref (Q 11 3), .int 0, .int 0])) := rfl
theorem ak_83 {l : Launch} {D : va_G} {ad0 : Nat → Nat} {z : Nat} {ids : ClassId × ClassId × ClassId} {E : Nat} {s qt qd qn qr qh qm : Nat → Nat} {Q KQ : Nat → Nat → Nat} : ((earsL l D ad0 z ids E s qt qd qn qr qh Q KQ) ++ modelB (gOf l D ad0 z ids E) qm)[79]? = some (Q 11 1, dq_ar (gOf l D ad0 z ids E) 5 (fun _ => 0)) := rfl
theorem ak_84 {l : Launch} {D : va_G} {ad0 : Nat → Nat} {z : Nat} {ids : ClassId × ClassId × ClassId} {E : Nat} {s qt qd qn qr qh qm : Nat → Nat} {Q KQ : Nat → Nat → Nat} : ((earsL l D ad0 z ids E s qt qd qn qr qh Q KQ) ++ modelB (gOf l D ad0 z ids E) qm)[80]? = some (Q 11 2, dq_ar (gOf l D ad0 z ids E) 5 (fun _ => 0)) := rfl
theorem ak_85 {l : Launch} {D : va_G} {ad0 : Nat → Nat} {z : Nat} {ids : ClassId × ClassId × ClassId} {E : Nat} {s qt qd qn qr qh qm : Nat → Nat} {Q KQ : Nat → Nat → Nat} : ((earsL l D ad0 z ids E s qt qd qn qr qh Q KQ) ++ modelB (gOf l D ad0 z ids E) qm)[81]? = some (Q 11 3, dq_ar (gOf l D ad0 z ids E) 5 (fun _ => 0)) := rfl
theorem ak_86 {l : Launch} {D : va_G} {ad0 : Nat → Nat} {z : Nat} {ids : ClassId × ClassId × ClassId} {E : Nat} {s qt qd qn qr qh qm : Nat → Nat} {Q KQ : Nat → Nat → Nat} : ((earsL l D ad0 z ids E s qt qd qn qr qh Q KQ) ++ modelB (gOf l D ad0 z ids E) qm)[82]? = some (Q 12 0, .inr (4, [.ref (qt 0), .ref (Q 12 1), .ref (Q 12 2), .ref (Q 12 3), .int 0, .int 0])) := rfl
theorem ak_87 {l : Launch} {D : va_G} {ad0 : Nat → Nat} {z : Nat} {ids : ClassId × ClassId × ClassId} {E : Nat} {s qt qd qn qr qh qm : Nat → Nat} {Q KQ : Nat → Nat → Nat} : ((earsL l D ad0 z ids E s qt qd qn qr qh Q KQ) ++ modelB (gOf l D ad0 z ids E) qm)[83]? = some (Q 12 1, dq_ar (gOf l D ad0 z ids E) 5 (fun _ => 0)) := rfl
theorem ak_88 {l : Launch} {D : va_G} {ad0 : Nat → Nat} {z : Nat} {ids : ClassId × ClassId × ClassId} {E : Nat} {s qt qd qn qr qh qm : Nat → Nat} {Q KQ : Nat → Nat → Nat} : ((earsL l D ad0 z ids E s qt qd qn qr qh Q KQ) ++ modelB (gOf l D ad0 z ids E) qm)[84]? = some (Q 12 2, dq_ar (gOf l D ad0 z ids E) 5 (fun _ => 0)) := rfl
theorem ak_89 {l : Launch} {D : va_G} {ad0 : Nat → Nat} {z : Nat} {ids : ClassId × ClassId × ClassId} {E : Nat} {s qt qd qn qr qh qm : Nat → Nat} {Q KQ : Nat → Nat → Nat} : ((earsL l D ad0 z ids E s qt qd qn qr qh Q KQ) ++ modelB (gOf l D ad0 z ids E) qm)[85]? = some (Q 12 3, dq_ar (gOf l D ad0 z ids E) 5 (fun _ => 0)) := rfl
theorem ak_90 {l : Launch} {D : va_G} {ad0 : Nat → Nat} {z : Nat} {ids : ClassId × ClassId × ClassId} {E : Nat} {s qt qd qn qr qh qm : Nat → Nat} {Q KQ : Nat → Nat → Nat} : ((earsL l D ad0 z ids E s qt qd qn qr qh Q KQ) ++ modelB (gOf l D ad0 z ids E) qm)[86]? = some (Q 13 0, .inr (4, [.ref (qt 0), .ref (Q 13 1), .ref (Q 13 2), .ref (Q 13 3), .int 0, .int 0])) := rfl
theorem ak_91 {l : Launch} {D : va_G} {ad0 : Nat → Nat} {z : Nat} {ids : ClassId × ClassId × ClassId} {E : Nat} {s qt qd qn qr qh qm : Nat → Nat} {Q KQ : Nat → Nat → Nat} : ((earsL l D ad0 z ids E s qt qd qn qr qh Q KQ) ++ modelB (gOf l D ad0 z ids E) qm)[87]? = some (Q 13 1, dq_ar (gOf l D ad0 z ids E) 5 (fun _ => 0)) := rfl
theorem ak_92 {l : Launch} {D : va_G} {ad0 : Nat → Nat} {z : Nat} {ids : ClassId × ClassId × ClassId} {E : Nat} {s qt qd qn qr qh qm : Nat → Nat} {Q KQ : Nat → Nat → Nat} : ((earsL l D ad0 z ids E s qt qd qn qr qh Q KQ) ++ modelB (gOf l D ad0 z ids E) qm)[88]? = some (Q 13 2, dq_ar (gOf l D ad0 z ids E) 5 (fun _ => 0)) := rfl
theorem ak_93 {l : Launch} {D : va_G} {ad0 : Nat → Nat} {z : Nat} {ids : ClassId × ClassId × ClassId} {E : Nat} {s qt qd qn qr qh qm : Nat → Nat} {Q KQ : Nat → Nat → Nat} : ((earsL l D ad0 z ids E s qt qd qn qr qh Q KQ) ++ modelB (gOf l D ad0 z ids E) qm)[89]? = some (Q 13 3, dq_ar (gOf l D ad0 z ids E) 5 (fun _ => 0)) := rfl
theorem ak_94 {l : Launch} {D : va_G} {ad0 : Nat → Nat} {z : Nat} {ids : ClassId × ClassId × ClassId} {E : Nat} {s qt qd qn qr qh qm : Nat → Nat} {Q KQ : Nat → Nat → Nat} : ((earsL l D ad0 z ids E s qt qd qn qr qh Q KQ) ++ modelB (gOf l D ad0 z ids E) qm)[94]? = some (KQ 0 0, .inr (4, [.ref (qt 0), .ref (KQ 0 1), .ref (KQ 0 2), .ref (KQ 0 3), .int 0, .int 0])) := rfl
theorem ak_95 {l : Launch} {D : va_G} {ad0 : Nat → Nat} {z : Nat} {ids : ClassId × ClassId × ClassId} {E : Nat} {s qt qd qn qr qh qm : Nat → Nat} {Q KQ : Nat → Nat → Nat} : ((earsL l D ad0 z ids E s qt qd qn qr qh Q KQ) ++ modelB (gOf l D ad0 z ids E) qm)[95]? = some (KQ 0 1, dq_ar (gOf l D ad0 z ids E) 5 (fun _ => 0)) := rfl
theorem ak_96 {l : Launch} {D : va_G} {ad0 : Nat → Nat} {z : Nat} {ids : ClassId × ClassId × ClassId} {E : Nat} {s qt qd qn qr qh qm : Nat → Nat} {Q KQ : Nat → Nat → Nat} : ((earsL l D ad0 z ids E s qt qd qn qr qh Q KQ) ++ modelB (gOf l D ad0 z ids E) qm)[96]? = some (KQ 0 2, dq_ar (gOf l D ad0 z ids E) 5 (fun _ => 0)) := rfl
theorem ak_97 {l : Launch} {D : va_G} {ad0 : Nat → Nat} {z : Nat} {ids : ClassId × ClassId × ClassId} {E : Nat} {s qt qd qn qr qh qm : Nat → Nat} {Q KQ : Nat → Nat → Nat} : ((earsL l D ad0 z ids E s qt qd qn qr qh Q KQ) ++ modelB (gOf l D ad0 z ids E) qm)[97]? = some (KQ 0 3, dq_ar (gOf l D ad0 z ids E) 5 (fun _ => 0)) := rfl
theorem ak_98 {l : Launch} {D : va_G} {ad0 : Nat → Nat} {z : Nat} {ids : ClassId × ClassId × ClassId} {E : Nat} {s qt qd qn qr qh qm : Nat → Nat} {Q KQ : Nat → Nat → Nat} : ((earsL l D ad0 z ids E s qt qd qn qr qh Q KQ) ++ modelB (gOf l D ad0 z ids E) qm)[98]? = some (KQ 1 0, .inr (4, [.ref (qt 0), .ref (KQ 1 1), .ref (KQ 1 2), .ref (KQ 1 3), .int 0, .int 0])) := rfl
theorem ak_99 {l : Launch} {D : va_G} {ad0 : Nat → Nat} {z : Nat} {ids : ClassId × ClassId × ClassId} {E : Nat} {s qt qd qn qr qh qm : Nat → Nat} {Q KQ : Nat → Nat → Nat} : ((earsL l D ad0 z ids E s qt qd qn qr qh Q KQ) ++ modelB (gOf l D ad0 z ids E) qm)[99]? = some (KQ 1 1, dq_ar (gOf l D ad0 z ids E) 5 (fun _ => 0)) := rfl
theorem ak_100 {l : Launch} {D : va_G} {ad0 : Nat → Nat} {z : Nat} {ids : ClassId × ClassId × ClassId} {E : Nat} {s qt qd qn qr qh qm : Nat → Nat} {Q KQ : Nat → Nat → Nat} : ((earsL l D ad0 z ids E s qt qd qn qr qh Q KQ) ++ modelB (gOf l D ad0 z ids E) qm)[100]? = some (KQ 1 2, dq_ar (gOf l D ad0 z ids E) 5 (fun _ => 0)) := rfl
theorem ak_101 {l : Launch} {D : va_G} {ad0 : Nat → Nat} {z : Nat} {ids : ClassId × ClassId × ClassId} {E : Nat} {s qt qd qn qr qh qm : Nat → Nat} {Q KQ : Nat → Nat → Nat} : ((earsL l D ad0 z ids E s qt qd qn qr qh Q KQ) ++ modelB (gOf l D ad0 z ids E) qm)[101]? = some (KQ 1 3, dq_ar (gOf l D ad0 z ids E) 5 (fun _ => 0)) := rfl
theorem ak_102 {l : Launch} {D : va_G} {ad0 : Nat → Nat} {z : Nat} {ids : ClassId × ClassId × ClassId} {E : Nat} {s qt qd qn qr qh qm : Nat → Nat} {Q KQ : Nat → Nat → Nat} : ((earsL l D ad0 z ids E s qt qd qn qr qh Q KQ) ++ modelB (gOf l D ad0 z ids E) qm)[102]? = some (qm 0, .inr (6, [.int 0, .int 0, .int 0, .ref (qm 1), .ref (qm 2), .ref (qm 3), .ref (qm 4), .ref (qm 5), .ref (qm 6), .ref (qm 7), .ref (qm 8), .int 0, .int 0, .int 0, .ref (qm 9), .int 0, .int 0, .int 0, .int 0, .int 0, .ref (qm 10), .int 0, .ref (qm 11), .ref (qm 12), .ref (qm 13), .long 0, .ref (qm 14), .ref (qm 15)])) := rfl
theorem ak_103 {l : Launch} {D : va_G} {ad0 : Nat → Nat} {z : Nat} {ids : ClassId × ClassId × ClassId} {E : Nat} {s qt qd qn qr qh qm : Nat → Nat} {Q KQ : Nat → Nat → Nat} : ((earsL l D ad0 z ids E s qt qd qn qr qh Q KQ) ++ modelB (gOf l D ad0 z ids E) qm)[103]? = some (qm 1, dq_ar (gOf l D ad0 z ids E) 5 (fun _ => 0)) := rfl
theorem ak_104 {l : Launch} {D : va_G} {ad0 : Nat → Nat} {z : Nat} {ids : ClassId × ClassId × ClassId} {E : Nat} {s qt qd qn qr qh qm : Nat → Nat} {Q KQ : Nat → Nat → Nat} : ((earsL l D ad0 z ids E s qt qd qn qr qh Q KQ) ++ modelB (gOf l D ad0 z ids E) qm)[104]? = some (qm 2, dq_ar (gOf l D ad0 z ids E) 5 (fun _ => 0)) := rfl
theorem ak_105 {l : Launch} {D : va_G} {ad0 : Nat → Nat} {z : Nat} {ids : ClassId × ClassId × ClassId} {E : Nat} {s qt qd qn qr qh qm : Nat → Nat} {Q KQ : Nat → Nat → Nat} : ((earsL l D ad0 z ids E s qt qd qn qr qh Q KQ) ++ modelB (gOf l D ad0 z ids E) qm)[105]? = some (qm 3, dq_ar (gOf l D ad0 z ids E) 24 (fun _ => 0)) := rfl
theorem ak_106 {l : Launch} {D : va_G} {ad0 : Nat → Nat} {z : Nat} {ids : ClassId × ClassId × ClassId} {E : Nat} {s qt qd qn qr qh qm : Nat → Nat} {Q KQ : Nat → Nat → Nat} : ((earsL l D ad0 z ids E s qt qd qn qr qh Q KQ) ++ modelB (gOf l D ad0 z ids E) qm)[106]? = some (qm 4, dq_ar (gOf l D ad0 z ids E) 4 (fun _ => 0)) := rfl
theorem ak_107 {l : Launch} {D : va_G} {ad0 : Nat → Nat} {z : Nat} {ids : ClassId × ClassId × ClassId} {E : Nat} {s qt qd qn qr qh qm : Nat → Nat} {Q KQ : Nat → Nat → Nat} : ((earsL l D ad0 z ids E s qt qd qn qr qh Q KQ) ++ modelB (gOf l D ad0 z ids E) qm)[107]? = some (qm 5, dq_ar (gOf l D ad0 z ids E) 34 (fun _ => 0)) := rfl
theorem ak_108 {l : Launch} {D : va_G} {ad0 : Nat → Nat} {z : Nat} {ids : ClassId × ClassId × ClassId} {E : Nat} {s qt qd qn qr qh qm : Nat → Nat} {Q KQ : Nat → Nat → Nat} : ((earsL l D ad0 z ids E s qt qd qn qr qh Q KQ) ++ modelB (gOf l D ad0 z ids E) qm)[108]? = some (qm 6, dq_ar (gOf l D ad0 z ids E) 10 (fun _ => 0)) := rfl
theorem ak_109 {l : Launch} {D : va_G} {ad0 : Nat → Nat} {z : Nat} {ids : ClassId × ClassId × ClassId} {E : Nat} {s qt qd qn qr qh qm : Nat → Nat} {Q KQ : Nat → Nat → Nat} : ((earsL l D ad0 z ids E s qt qd qn qr qh Q KQ) ++ modelB (gOf l D ad0 z ids E) qm)[109]? = some (qm 7, dq_ar (gOf l D ad0 z ids E) 24 (fun _ => 0)) := rfl
theorem ak_110 {l : Launch} {D : va_G} {ad0 : Nat → Nat} {z : Nat} {ids : ClassId × ClassId × ClassId} {E : Nat} {s qt qd qn qr qh qm : Nat → Nat} {Q KQ : Nat → Nat → Nat} : ((earsL l D ad0 z ids E s qt qd qn qr qh Q KQ) ++ modelB (gOf l D ad0 z ids E) qm)[110]? = some (qm 8, dq_ar (gOf l D ad0 z ids E) 4 (fun _ => 0)) := rfl
theorem ak_111 {l : Launch} {D : va_G} {ad0 : Nat → Nat} {z : Nat} {ids : ClassId × ClassId × ClassId} {E : Nat} {s qt qd qn qr qh qm : Nat → Nat} {Q KQ : Nat → Nat → Nat} : ((earsL l D ad0 z ids E s qt qd qn qr qh Q KQ) ++ modelB (gOf l D ad0 z ids E) qm)[111]? = some (qm 9, dq_ar (gOf l D ad0 z ids E) 64 (fun _ => 0)) := rfl
theorem ak_112 {l : Launch} {D : va_G} {ad0 : Nat → Nat} {z : Nat} {ids : ClassId × ClassId × ClassId} {E : Nat} {s qt qd qn qr qh qm : Nat → Nat} {Q KQ : Nat → Nat → Nat} : ((earsL l D ad0 z ids E s qt qd qn qr qh Q KQ) ++ modelB (gOf l D ad0 z ids E) qm)[112]? = some (qm 10, dq_ar (gOf l D ad0 z ids E) 238 (fun _ => 0)) := rfl
theorem ak_113 {l : Launch} {D : va_G} {ad0 : Nat → Nat} {z : Nat} {ids : ClassId × ClassId × ClassId} {E : Nat} {s qt qd qn qr qh qm : Nat → Nat} {Q KQ : Nat → Nat → Nat} : ((earsL l D ad0 z ids E s qt qd qn qr qh Q KQ) ++ modelB (gOf l D ad0 z ids E) qm)[113]? = some (qm 11, dq_ar (gOf l D ad0 z ids E) 6 (fun _ => 0)) := rfl
theorem ak_114 {l : Launch} {D : va_G} {ad0 : Nat → Nat} {z : Nat} {ids : ClassId × ClassId × ClassId} {E : Nat} {s qt qd qn qr qh qm : Nat → Nat} {Q KQ : Nat → Nat → Nat} : ((earsL l D ad0 z ids E s qt qd qn qr qh Q KQ) ++ modelB (gOf l D ad0 z ids E) qm)[114]? = some (qm 12, dq_ar (gOf l D ad0 z ids E) 6 (fun _ => 0)) := rfl
theorem ak_115 {l : Launch} {D : va_G} {ad0 : Nat → Nat} {z : Nat} {ids : ClassId × ClassId × ClassId} {E : Nat} {s qt qd qn qr qh qm : Nat → Nat} {Q KQ : Nat → Nat → Nat} : ((earsL l D ad0 z ids E s qt qd qn qr qh Q KQ) ++ modelB (gOf l D ad0 z ids E) qm)[115]? = some (qm 13, dq_ar (gOf l D ad0 z ids E) 6 (fun _ => 0)) := rfl
theorem ak_116 {l : Launch} {D : va_G} {ad0 : Nat → Nat} {z : Nat} {ids : ClassId × ClassId × ClassId} {E : Nat} {s qt qd qn qr qh qm : Nat → Nat} {Q KQ : Nat → Nat → Nat} : ((earsL l D ad0 z ids E s qt qd qn qr qh Q KQ) ++ modelB (gOf l D ad0 z ids E) qm)[116]? = some (qm 14, dq_br (gOf l D ad0 z ids E) 2 (fun _ => 0)) := rfl
theorem ak_117 {l : Launch} {D : va_G} {ad0 : Nat → Nat} {z : Nat} {ids : ClassId × ClassId × ClassId} {E : Nat} {s qt qd qn qr qh qm : Nat → Nat} {Q KQ : Nat → Nat → Nat} : ((earsL l D ad0 z ids E s qt qd qn qr qh Q KQ) ++ modelB (gOf l D ad0 z ids E) qm)[117]? = some (qm 15, dq_ar (gOf l D ad0 z ids E) 34 (fun _ => 0)) := rfl

theorem ap_0 {l : Launch} {D : va_G} {ad0 : Nat → Nat} {z : Nat} {ids : ClassId × ClassId × ClassId} {E : Nat} {s qt qd qn qr qh qm : Nat → Nat} {Q KQ : Nat → Nat → Nat} : ∀ i, 0 ≤ i → i < 10 → ∃ x, ((earsL l D ad0 z ids E s qt qd qn qr qh Q KQ) ++ modelB (gOf l D ad0 z ids E) qm)[posF i]? = some ((adF s qt qd qn qr qh qm Q KQ) i, x) := fun i h1 h2 => by
  rcases (show i = 0 ∨ i = 1 ∨ i = 2 ∨ i = 3 ∨ i = 4 ∨ i = 5 ∨ i = 6 ∨ i = 7 ∨ i = 8 ∨ i = 9 by omega) with rfl | rfl | rfl | rfl | rfl | rfl | rfl | rfl | rfl | rfl
  · exact ⟨_, ak_0⟩
  · exact ⟨_, ak_1⟩
  · exact ⟨_, ak_2⟩
  · exact ⟨_, ak_3⟩
  · exact ⟨_, ak_4⟩
  · exact ⟨_, ak_5⟩
  · exact ⟨_, ak_6⟩
  · exact ⟨_, ak_7⟩
  · exact ⟨_, ak_8⟩
  · exact ⟨_, ak_9⟩
theorem aq_0 {l : Launch} {D : va_G} {ad0 : Nat → Nat} {z : Nat} {ids : ClassId × ClassId × ClassId} {E : Nat} {s qt qd qn qr qh qm : Nat → Nat} {Q KQ : Nat → Nat → Nat} : ∀ i, 0 ≤ i → i < 10 → i ≠ 2 → i ≠ 11 → ((earsL l D ad0 z ids E s qt qd qn qr qh Q KQ) ++ modelB (gOf l D ad0 z ids E) qm)[posF i]? = some ((adF s qt qd qn qr qh qm Q KQ) i, dq_cell (gOf l D (adF s qt qd qn qr qh qm Q KQ) z ids E) i (fun _ => 0) 0) := fun i h1 h2 => by
  rcases (show i = 0 ∨ i = 1 ∨ i = 2 ∨ i = 3 ∨ i = 4 ∨ i = 5 ∨ i = 6 ∨ i = 7 ∨ i = 8 ∨ i = 9 by omega) with rfl | rfl | rfl | rfl | rfl | rfl | rfl | rfl | rfl | rfl
  · exact fun _ _ => ak_0
  · exact fun _ _ => ak_1
  · exact fun h _ => absurd rfl h
  · exact fun _ _ => ak_3
  · exact fun _ _ => ak_4
  · exact fun _ _ => ak_5
  · exact fun _ _ => ak_6
  · exact fun _ _ => ak_7
  · exact fun _ _ => ak_8
  · exact fun _ _ => ak_9
theorem ap_1 {l : Launch} {D : va_G} {ad0 : Nat → Nat} {z : Nat} {ids : ClassId × ClassId × ClassId} {E : Nat} {s qt qd qn qr qh qm : Nat → Nat} {Q KQ : Nat → Nat → Nat} : ∀ i, 10 ≤ i → i < 20 → ∃ x, ((earsL l D ad0 z ids E s qt qd qn qr qh Q KQ) ++ modelB (gOf l D ad0 z ids E) qm)[posF i]? = some ((adF s qt qd qn qr qh qm Q KQ) i, x) := fun i h1 h2 => by
  rcases (show i = 10 ∨ i = 11 ∨ i = 12 ∨ i = 13 ∨ i = 14 ∨ i = 15 ∨ i = 16 ∨ i = 17 ∨ i = 18 ∨ i = 19 by omega) with rfl | rfl | rfl | rfl | rfl | rfl | rfl | rfl | rfl | rfl
  · exact ⟨_, ak_10⟩
  · exact ⟨_, ak_11⟩
  · exact ⟨_, ak_12⟩
  · exact ⟨_, ak_13⟩
  · exact ⟨_, ak_14⟩
  · exact ⟨_, ak_15⟩
  · exact ⟨_, ak_16⟩
  · exact ⟨_, ak_17⟩
  · exact ⟨_, ak_18⟩
  · exact ⟨_, ak_19⟩
theorem aq_1 {l : Launch} {D : va_G} {ad0 : Nat → Nat} {z : Nat} {ids : ClassId × ClassId × ClassId} {E : Nat} {s qt qd qn qr qh qm : Nat → Nat} {Q KQ : Nat → Nat → Nat} : ∀ i, 10 ≤ i → i < 20 → i ≠ 2 → i ≠ 11 → ((earsL l D ad0 z ids E s qt qd qn qr qh Q KQ) ++ modelB (gOf l D ad0 z ids E) qm)[posF i]? = some ((adF s qt qd qn qr qh qm Q KQ) i, dq_cell (gOf l D (adF s qt qd qn qr qh qm Q KQ) z ids E) i (fun _ => 0) 0) := fun i h1 h2 => by
  rcases (show i = 10 ∨ i = 11 ∨ i = 12 ∨ i = 13 ∨ i = 14 ∨ i = 15 ∨ i = 16 ∨ i = 17 ∨ i = 18 ∨ i = 19 by omega) with rfl | rfl | rfl | rfl | rfl | rfl | rfl | rfl | rfl | rfl
  · exact fun _ _ => ak_10
  · exact fun _ h => absurd rfl h
  · exact fun _ _ => ak_12
  · exact fun _ _ => ak_13
  · exact fun _ _ => ak_14
  · exact fun _ _ => ak_15
  · exact fun _ _ => ak_16
  · exact fun _ _ => ak_17
  · exact fun _ _ => ak_18
  · exact fun _ _ => ak_19
theorem ap_2 {l : Launch} {D : va_G} {ad0 : Nat → Nat} {z : Nat} {ids : ClassId × ClassId × ClassId} {E : Nat} {s qt qd qn qr qh qm : Nat → Nat} {Q KQ : Nat → Nat → Nat} : ∀ i, 20 ≤ i → i < 30 → ∃ x, ((earsL l D ad0 z ids E s qt qd qn qr qh Q KQ) ++ modelB (gOf l D ad0 z ids E) qm)[posF i]? = some ((adF s qt qd qn qr qh qm Q KQ) i, x) := fun i h1 h2 => by
  rcases (show i = 20 ∨ i = 21 ∨ i = 22 ∨ i = 23 ∨ i = 24 ∨ i = 25 ∨ i = 26 ∨ i = 27 ∨ i = 28 ∨ i = 29 by omega) with rfl | rfl | rfl | rfl | rfl | rfl | rfl | rfl | rfl | rfl
  · exact ⟨_, ak_20⟩
  · exact ⟨_, ak_21⟩
  · exact ⟨_, ak_22⟩
  · exact ⟨_, ak_23⟩
  · exact ⟨_, ak_24⟩
  · exact ⟨_, ak_25⟩
  · exact ⟨_, ak_26⟩
  · exact ⟨_, ak_27⟩
  · exact ⟨_, ak_28⟩
  · exact ⟨_, ak_29⟩
theorem aq_2 {l : Launch} {D : va_G} {ad0 : Nat → Nat} {z : Nat} {ids : ClassId × ClassId × ClassId} {E : Nat} {s qt qd qn qr qh qm : Nat → Nat} {Q KQ : Nat → Nat → Nat} : ∀ i, 20 ≤ i → i < 30 → i ≠ 2 → i ≠ 11 → ((earsL l D ad0 z ids E s qt qd qn qr qh Q KQ) ++ modelB (gOf l D ad0 z ids E) qm)[posF i]? = some ((adF s qt qd qn qr qh qm Q KQ) i, dq_cell (gOf l D (adF s qt qd qn qr qh qm Q KQ) z ids E) i (fun _ => 0) 0) := fun i h1 h2 => by
  rcases (show i = 20 ∨ i = 21 ∨ i = 22 ∨ i = 23 ∨ i = 24 ∨ i = 25 ∨ i = 26 ∨ i = 27 ∨ i = 28 ∨ i = 29 by omega) with rfl | rfl | rfl | rfl | rfl | rfl | rfl | rfl | rfl | rfl
  · exact fun _ _ => ak_20
  · exact fun _ _ => ak_21
  · exact fun _ _ => ak_22
  · exact fun _ _ => ak_23
  · exact fun _ _ => ak_24
  · exact fun _ _ => ak_25
  · exact fun _ _ => ak_26
  · exact fun _ _ => ak_27
  · exact fun _ _ => ak_28
  · exact fun _ _ => ak_29
theorem ap_3 {l : Launch} {D : va_G} {ad0 : Nat → Nat} {z : Nat} {ids : ClassId × ClassId × ClassId} {E : Nat} {s qt qd qn qr qh qm : Nat → Nat} {Q KQ : Nat → Nat → Nat} : ∀ i, 30 ≤ i → i < 40 → ∃ x, ((earsL l D ad0 z ids E s qt qd qn qr qh Q KQ) ++ modelB (gOf l D ad0 z ids E) qm)[posF i]? = some ((adF s qt qd qn qr qh qm Q KQ) i, x) := fun i h1 h2 => by
  rcases (show i = 30 ∨ i = 31 ∨ i = 32 ∨ i = 33 ∨ i = 34 ∨ i = 35 ∨ i = 36 ∨ i = 37 ∨ i = 38 ∨ i = 39 by omega) with rfl | rfl | rfl | rfl | rfl | rfl | rfl | rfl | rfl | rfl
  · exact ⟨_, ak_30⟩
  · exact ⟨_, ak_31⟩
  · exact ⟨_, ak_32⟩
  · exact ⟨_, ak_33⟩
  · exact ⟨_, ak_34⟩
  · exact ⟨_, ak_35⟩
  · exact ⟨_, ak_36⟩
  · exact ⟨_, ak_37⟩
  · exact ⟨_, ak_38⟩
  · exact ⟨_, ak_39⟩
theorem aq_3 {l : Launch} {D : va_G} {ad0 : Nat → Nat} {z : Nat} {ids : ClassId × ClassId × ClassId} {E : Nat} {s qt qd qn qr qh qm : Nat → Nat} {Q KQ : Nat → Nat → Nat} : ∀ i, 30 ≤ i → i < 40 → i ≠ 2 → i ≠ 11 → ((earsL l D ad0 z ids E s qt qd qn qr qh Q KQ) ++ modelB (gOf l D ad0 z ids E) qm)[posF i]? = some ((adF s qt qd qn qr qh qm Q KQ) i, dq_cell (gOf l D (adF s qt qd qn qr qh qm Q KQ) z ids E) i (fun _ => 0) 0) := fun i h1 h2 => by
  rcases (show i = 30 ∨ i = 31 ∨ i = 32 ∨ i = 33 ∨ i = 34 ∨ i = 35 ∨ i = 36 ∨ i = 37 ∨ i = 38 ∨ i = 39 by omega) with rfl | rfl | rfl | rfl | rfl | rfl | rfl | rfl | rfl | rfl
  · exact fun _ _ => ak_30
  · exact fun _ _ => ak_31
  · exact fun _ _ => ak_32
  · exact fun _ _ => ak_33
  · exact fun _ _ => ak_34
  · exact fun _ _ => ak_35
  · exact fun _ _ => ak_36
  · exact fun _ _ => ak_37
  · exact fun _ _ => ak_38
  · exact fun _ _ => ak_39
theorem ap_4 {l : Launch} {D : va_G} {ad0 : Nat → Nat} {z : Nat} {ids : ClassId × ClassId × ClassId} {E : Nat} {s qt qd qn qr qh qm : Nat → Nat} {Q KQ : Nat → Nat → Nat} : ∀ i, 40 ≤ i → i < 50 → ∃ x, ((earsL l D ad0 z ids E s qt qd qn qr qh Q KQ) ++ modelB (gOf l D ad0 z ids E) qm)[posF i]? = some ((adF s qt qd qn qr qh qm Q KQ) i, x) := fun i h1 h2 => by
  rcases (show i = 40 ∨ i = 41 ∨ i = 42 ∨ i = 43 ∨ i = 44 ∨ i = 45 ∨ i = 46 ∨ i = 47 ∨ i = 48 ∨ i = 49 by omega) with rfl | rfl | rfl | rfl | rfl | rfl | rfl | rfl | rfl | rfl
  · exact ⟨_, ak_40⟩
  · exact ⟨_, ak_41⟩
  · exact ⟨_, ak_42⟩
  · exact ⟨_, ak_43⟩
  · exact ⟨_, ak_44⟩
  · exact ⟨_, ak_45⟩
  · exact ⟨_, ak_46⟩
  · exact ⟨_, ak_47⟩
  · exact ⟨_, ak_48⟩
  · exact ⟨_, ak_49⟩
theorem aq_4 {l : Launch} {D : va_G} {ad0 : Nat → Nat} {z : Nat} {ids : ClassId × ClassId × ClassId} {E : Nat} {s qt qd qn qr qh qm : Nat → Nat} {Q KQ : Nat → Nat → Nat} : ∀ i, 40 ≤ i → i < 50 → i ≠ 2 → i ≠ 11 → ((earsL l D ad0 z ids E s qt qd qn qr qh Q KQ) ++ modelB (gOf l D ad0 z ids E) qm)[posF i]? = some ((adF s qt qd qn qr qh qm Q KQ) i, dq_cell (gOf l D (adF s qt qd qn qr qh qm Q KQ) z ids E) i (fun _ => 0) 0) := fun i h1 h2 => by
  rcases (show i = 40 ∨ i = 41 ∨ i = 42 ∨ i = 43 ∨ i = 44 ∨ i = 45 ∨ i = 46 ∨ i = 47 ∨ i = 48 ∨ i = 49 by omega) with rfl | rfl | rfl | rfl | rfl | rfl | rfl | rfl | rfl | rfl
  · exact fun _ _ => ak_40
  · exact fun _ _ => ak_41
  · exact fun _ _ => ak_42
  · exact fun _ _ => ak_43
  · exact fun _ _ => ak_44
  · exact fun _ _ => ak_45
  · exact fun _ _ => ak_46
  · exact fun _ _ => ak_47
  · exact fun _ _ => ak_48
  · exact fun _ _ => ak_49
theorem ap_5 {l : Launch} {D : va_G} {ad0 : Nat → Nat} {z : Nat} {ids : ClassId × ClassId × ClassId} {E : Nat} {s qt qd qn qr qh qm : Nat → Nat} {Q KQ : Nat → Nat → Nat} : ∀ i, 50 ≤ i → i < 60 → ∃ x, ((earsL l D ad0 z ids E s qt qd qn qr qh Q KQ) ++ modelB (gOf l D ad0 z ids E) qm)[posF i]? = some ((adF s qt qd qn qr qh qm Q KQ) i, x) := fun i h1 h2 => by
  rcases (show i = 50 ∨ i = 51 ∨ i = 52 ∨ i = 53 ∨ i = 54 ∨ i = 55 ∨ i = 56 ∨ i = 57 ∨ i = 58 ∨ i = 59 by omega) with rfl | rfl | rfl | rfl | rfl | rfl | rfl | rfl | rfl | rfl
  · exact ⟨_, ak_50⟩
  · exact ⟨_, ak_51⟩
  · exact ⟨_, ak_52⟩
  · exact ⟨_, ak_53⟩
  · exact ⟨_, ak_54⟩
  · exact ⟨_, ak_55⟩
  · exact ⟨_, ak_56⟩
  · exact ⟨_, ak_57⟩
  · exact ⟨_, ak_58⟩
  · exact ⟨_, ak_59⟩
theorem aq_5 {l : Launch} {D : va_G} {ad0 : Nat → Nat} {z : Nat} {ids : ClassId × ClassId × ClassId} {E : Nat} {s qt qd qn qr qh qm : Nat → Nat} {Q KQ : Nat → Nat → Nat} : ∀ i, 50 ≤ i → i < 60 → i ≠ 2 → i ≠ 11 → ((earsL l D ad0 z ids E s qt qd qn qr qh Q KQ) ++ modelB (gOf l D ad0 z ids E) qm)[posF i]? = some ((adF s qt qd qn qr qh qm Q KQ) i, dq_cell (gOf l D (adF s qt qd qn qr qh qm Q KQ) z ids E) i (fun _ => 0) 0) := fun i h1 h2 => by
  rcases (show i = 50 ∨ i = 51 ∨ i = 52 ∨ i = 53 ∨ i = 54 ∨ i = 55 ∨ i = 56 ∨ i = 57 ∨ i = 58 ∨ i = 59 by omega) with rfl | rfl | rfl | rfl | rfl | rfl | rfl | rfl | rfl | rfl
  · exact fun _ _ => ak_50
  · exact fun _ _ => ak_51
  · exact fun _ _ => ak_52
  · exact fun _ _ => ak_53
  · exact fun _ _ => ak_54
  · exact fun _ _ => ak_55
  · exact fun _ _ => ak_56
  · exact fun _ _ => ak_57
  · exact fun _ _ => ak_58
  · exact fun _ _ => ak_59
theorem ap_6 {l : Launch} {D : va_G} {ad0 : Nat → Nat} {z : Nat} {ids : ClassId × ClassId × ClassId} {E : Nat} {s qt qd qn qr qh qm : Nat → Nat} {Q KQ : Nat → Nat → Nat} : ∀ i, 60 ≤ i → i < 70 → ∃ x, ((earsL l D ad0 z ids E s qt qd qn qr qh Q KQ) ++ modelB (gOf l D ad0 z ids E) qm)[posF i]? = some ((adF s qt qd qn qr qh qm Q KQ) i, x) := fun i h1 h2 => by
  rcases (show i = 60 ∨ i = 61 ∨ i = 62 ∨ i = 63 ∨ i = 64 ∨ i = 65 ∨ i = 66 ∨ i = 67 ∨ i = 68 ∨ i = 69 by omega) with rfl | rfl | rfl | rfl | rfl | rfl | rfl | rfl | rfl | rfl
  · exact ⟨_, ak_60⟩
  · exact ⟨_, ak_61⟩
  · exact ⟨_, ak_62⟩
  · exact ⟨_, ak_63⟩
  · exact ⟨_, ak_64⟩
  · exact ⟨_, ak_65⟩
  · exact ⟨_, ak_66⟩
  · exact ⟨_, ak_67⟩
  · exact ⟨_, ak_68⟩
  · exact ⟨_, ak_69⟩
theorem aq_6 {l : Launch} {D : va_G} {ad0 : Nat → Nat} {z : Nat} {ids : ClassId × ClassId × ClassId} {E : Nat} {s qt qd qn qr qh qm : Nat → Nat} {Q KQ : Nat → Nat → Nat} : ∀ i, 60 ≤ i → i < 70 → i ≠ 2 → i ≠ 11 → ((earsL l D ad0 z ids E s qt qd qn qr qh Q KQ) ++ modelB (gOf l D ad0 z ids E) qm)[posF i]? = some ((adF s qt qd qn qr qh qm Q KQ) i, dq_cell (gOf l D (adF s qt qd qn qr qh qm Q KQ) z ids E) i (fun _ => 0) 0) := fun i h1 h2 => by
  rcases (show i = 60 ∨ i = 61 ∨ i = 62 ∨ i = 63 ∨ i = 64 ∨ i = 65 ∨ i = 66 ∨ i = 67 ∨ i = 68 ∨ i = 69 by omega) with rfl | rfl | rfl | rfl | rfl | rfl | rfl | rfl | rfl | rfl
  · exact fun _ _ => ak_60
  · exact fun _ _ => ak_61
  · exact fun _ _ => ak_62
  · exact fun _ _ => ak_63
  · exact fun _ _ => ak_64
  · exact fun _ _ => ak_65
  · exact fun _ _ => ak_66
  · exact fun _ _ => ak_67
  · exact fun _ _ => ak_68
  · exact fun _ _ => ak_69
theorem ap_7 {l : Launch} {D : va_G} {ad0 : Nat → Nat} {z : Nat} {ids : ClassId × ClassId × ClassId} {E : Nat} {s qt qd qn qr qh qm : Nat → Nat} {Q KQ : Nat → Nat → Nat} : ∀ i, 70 ≤ i → i < 80 → ∃ x, ((earsL l D ad0 z ids E s qt qd qn qr qh Q KQ) ++ modelB (gOf l D ad0 z ids E) qm)[posF i]? = some ((adF s qt qd qn qr qh qm Q KQ) i, x) := fun i h1 h2 => by
  rcases (show i = 70 ∨ i = 71 ∨ i = 72 ∨ i = 73 ∨ i = 74 ∨ i = 75 ∨ i = 76 ∨ i = 77 ∨ i = 78 ∨ i = 79 by omega) with rfl | rfl | rfl | rfl | rfl | rfl | rfl | rfl | rfl | rfl
  · exact ⟨_, ak_70⟩
  · exact ⟨_, ak_71⟩
  · exact ⟨_, ak_72⟩
  · exact ⟨_, ak_73⟩
  · exact ⟨_, ak_74⟩
  · exact ⟨_, ak_75⟩
  · exact ⟨_, ak_76⟩
  · exact ⟨_, ak_77⟩
  · exact ⟨_, ak_78⟩
  · exact ⟨_, ak_79⟩
theorem aq_7 {l : Launch} {D : va_G} {ad0 : Nat → Nat} {z : Nat} {ids : ClassId × ClassId × ClassId} {E : Nat} {s qt qd qn qr qh qm : Nat → Nat} {Q KQ : Nat → Nat → Nat} : ∀ i, 70 ≤ i → i < 80 → i ≠ 2 → i ≠ 11 → ((earsL l D ad0 z ids E s qt qd qn qr qh Q KQ) ++ modelB (gOf l D ad0 z ids E) qm)[posF i]? = some ((adF s qt qd qn qr qh qm Q KQ) i, dq_cell (gOf l D (adF s qt qd qn qr qh qm Q KQ) z ids E) i (fun _ => 0) 0) := fun i h1 h2 => by
  rcases (show i = 70 ∨ i = 71 ∨ i = 72 ∨ i = 73 ∨ i = 74 ∨ i = 75 ∨ i = 76 ∨ i = 77 ∨ i = 78 ∨ i = 79 by omega) with rfl | rfl | rfl | rfl | rfl | rfl | rfl | rfl | rfl | rfl
  · exact fun _ _ => ak_70
  · exact fun _ _ => ak_71
  · exact fun _ _ => ak_72
  · exact fun _ _ => ak_73
  · exact fun _ _ => ak_74
  · exact fun _ _ => ak_75
  · exact fun _ _ => ak_76
  · exact fun _ _ => ak_77
  · exact fun _ _ => ak_78
  · exact fun _ _ => ak_79
theorem ap_8 {l : Launch} {D : va_G} {ad0 : Nat → Nat} {z : Nat} {ids : ClassId × ClassId × ClassId} {E : Nat} {s qt qd qn qr qh qm : Nat → Nat} {Q KQ : Nat → Nat → Nat} : ∀ i, 80 ≤ i → i < 90 → ∃ x, ((earsL l D ad0 z ids E s qt qd qn qr qh Q KQ) ++ modelB (gOf l D ad0 z ids E) qm)[posF i]? = some ((adF s qt qd qn qr qh qm Q KQ) i, x) := fun i h1 h2 => by
  rcases (show i = 80 ∨ i = 81 ∨ i = 82 ∨ i = 83 ∨ i = 84 ∨ i = 85 ∨ i = 86 ∨ i = 87 ∨ i = 88 ∨ i = 89 by omega) with rfl | rfl | rfl | rfl | rfl | rfl | rfl | rfl | rfl | rfl
  · exact ⟨_, ak_80⟩
  · exact ⟨_, ak_81⟩
  · exact ⟨_, ak_82⟩
  · exact ⟨_, ak_83⟩
  · exact ⟨_, ak_84⟩
  · exact ⟨_, ak_85⟩
  · exact ⟨_, ak_86⟩
  · exact ⟨_, ak_87⟩
  · exact ⟨_, ak_88⟩
  · exact ⟨_, ak_89⟩
theorem aq_8 {l : Launch} {D : va_G} {ad0 : Nat → Nat} {z : Nat} {ids : ClassId × ClassId × ClassId} {E : Nat} {s qt qd qn qr qh qm : Nat → Nat} {Q KQ : Nat → Nat → Nat} : ∀ i, 80 ≤ i → i < 90 → i ≠ 2 → i ≠ 11 → ((earsL l D ad0 z ids E s qt qd qn qr qh Q KQ) ++ modelB (gOf l D ad0 z ids E) qm)[posF i]? = some ((adF s qt qd qn qr qh qm Q KQ) i, dq_cell (gOf l D (adF s qt qd qn qr qh qm Q KQ) z ids E) i (fun _ => 0) 0) := fun i h1 h2 => by
  rcases (show i = 80 ∨ i = 81 ∨ i = 82 ∨ i = 83 ∨ i = 84 ∨ i = 85 ∨ i = 86 ∨ i = 87 ∨ i = 88 ∨ i = 89 by omega) with rfl | rfl | rfl | rfl | rfl | rfl | rfl | rfl | rfl | rfl
  · exact fun _ _ => ak_80
  · exact fun _ _ => ak_81
  · exact fun _ _ => ak_82
  · exact fun _ _ => ak_83
  · exact fun _ _ => ak_84
  · exact fun _ _ => ak_85
  · exact fun _ _ => ak_86
  · exact fun _ _ => ak_87
  · exact fun _ _ => ak_88
  · exact fun _ _ => ak_89
theorem ap_9 {l : Launch} {D : va_G} {ad0 : Nat → Nat} {z : Nat} {ids : ClassId × ClassId × ClassId} {E : Nat} {s qt qd qn qr qh qm : Nat → Nat} {Q KQ : Nat → Nat → Nat} : ∀ i, 90 ≤ i → i < 100 → ∃ x, ((earsL l D ad0 z ids E s qt qd qn qr qh Q KQ) ++ modelB (gOf l D ad0 z ids E) qm)[posF i]? = some ((adF s qt qd qn qr qh qm Q KQ) i, x) := fun i h1 h2 => by
  rcases (show i = 90 ∨ i = 91 ∨ i = 92 ∨ i = 93 ∨ i = 94 ∨ i = 95 ∨ i = 96 ∨ i = 97 ∨ i = 98 ∨ i = 99 by omega) with rfl | rfl | rfl | rfl | rfl | rfl | rfl | rfl | rfl | rfl
  · exact ⟨_, ak_90⟩
  · exact ⟨_, ak_91⟩
  · exact ⟨_, ak_92⟩
  · exact ⟨_, ak_93⟩
  · exact ⟨_, ak_94⟩
  · exact ⟨_, ak_95⟩
  · exact ⟨_, ak_96⟩
  · exact ⟨_, ak_97⟩
  · exact ⟨_, ak_98⟩
  · exact ⟨_, ak_99⟩
theorem aq_9 {l : Launch} {D : va_G} {ad0 : Nat → Nat} {z : Nat} {ids : ClassId × ClassId × ClassId} {E : Nat} {s qt qd qn qr qh qm : Nat → Nat} {Q KQ : Nat → Nat → Nat} : ∀ i, 90 ≤ i → i < 100 → i ≠ 2 → i ≠ 11 → ((earsL l D ad0 z ids E s qt qd qn qr qh Q KQ) ++ modelB (gOf l D ad0 z ids E) qm)[posF i]? = some ((adF s qt qd qn qr qh qm Q KQ) i, dq_cell (gOf l D (adF s qt qd qn qr qh qm Q KQ) z ids E) i (fun _ => 0) 0) := fun i h1 h2 => by
  rcases (show i = 90 ∨ i = 91 ∨ i = 92 ∨ i = 93 ∨ i = 94 ∨ i = 95 ∨ i = 96 ∨ i = 97 ∨ i = 98 ∨ i = 99 by omega) with rfl | rfl | rfl | rfl | rfl | rfl | rfl | rfl | rfl | rfl
  · exact fun _ _ => ak_90
  · exact fun _ _ => ak_91
  · exact fun _ _ => ak_92
  · exact fun _ _ => ak_93
  · exact fun _ _ => ak_94
  · exact fun _ _ => ak_95
  · exact fun _ _ => ak_96
  · exact fun _ _ => ak_97
  · exact fun _ _ => ak_98
  · exact fun _ _ => ak_99
theorem ap_10 {l : Launch} {D : va_G} {ad0 : Nat → Nat} {z : Nat} {ids : ClassId × ClassId × ClassId} {E : Nat} {s qt qd qn qr qh qm : Nat → Nat} {Q KQ : Nat → Nat → Nat} : ∀ i, 100 ≤ i → i < 110 → ∃ x, ((earsL l D ad0 z ids E s qt qd qn qr qh Q KQ) ++ modelB (gOf l D ad0 z ids E) qm)[posF i]? = some ((adF s qt qd qn qr qh qm Q KQ) i, x) := fun i h1 h2 => by
  rcases (show i = 100 ∨ i = 101 ∨ i = 102 ∨ i = 103 ∨ i = 104 ∨ i = 105 ∨ i = 106 ∨ i = 107 ∨ i = 108 ∨ i = 109 by omega) with rfl | rfl | rfl | rfl | rfl | rfl | rfl | rfl | rfl | rfl
  · exact ⟨_, ak_100⟩
  · exact ⟨_, ak_101⟩
  · exact ⟨_, ak_102⟩
  · exact ⟨_, ak_103⟩
  · exact ⟨_, ak_104⟩
  · exact ⟨_, ak_105⟩
  · exact ⟨_, ak_106⟩
  · exact ⟨_, ak_107⟩
  · exact ⟨_, ak_108⟩
  · exact ⟨_, ak_109⟩
theorem aq_10 {l : Launch} {D : va_G} {ad0 : Nat → Nat} {z : Nat} {ids : ClassId × ClassId × ClassId} {E : Nat} {s qt qd qn qr qh qm : Nat → Nat} {Q KQ : Nat → Nat → Nat} : ∀ i, 100 ≤ i → i < 110 → i ≠ 2 → i ≠ 11 → ((earsL l D ad0 z ids E s qt qd qn qr qh Q KQ) ++ modelB (gOf l D ad0 z ids E) qm)[posF i]? = some ((adF s qt qd qn qr qh qm Q KQ) i, dq_cell (gOf l D (adF s qt qd qn qr qh qm Q KQ) z ids E) i (fun _ => 0) 0) := fun i h1 h2 => by
  rcases (show i = 100 ∨ i = 101 ∨ i = 102 ∨ i = 103 ∨ i = 104 ∨ i = 105 ∨ i = 106 ∨ i = 107 ∨ i = 108 ∨ i = 109 by omega) with rfl | rfl | rfl | rfl | rfl | rfl | rfl | rfl | rfl | rfl
  · exact fun _ _ => ak_100
  · exact fun _ _ => ak_101
  · exact fun _ _ => ak_102
  · exact fun _ _ => ak_103
  · exact fun _ _ => ak_104
  · exact fun _ _ => ak_105
  · exact fun _ _ => ak_106
  · exact fun _ _ => ak_107
  · exact fun _ _ => ak_108
  · exact fun _ _ => ak_109
theorem ap_11 {l : Launch} {D : va_G} {ad0 : Nat → Nat} {z : Nat} {ids : ClassId × ClassId × ClassId} {E : Nat} {s qt qd qn qr qh qm : Nat → Nat} {Q KQ : Nat → Nat → Nat} : ∀ i, 110 ≤ i → i < 118 → ∃ x, ((earsL l D ad0 z ids E s qt qd qn qr qh Q KQ) ++ modelB (gOf l D ad0 z ids E) qm)[posF i]? = some ((adF s qt qd qn qr qh qm Q KQ) i, x) := fun i h1 h2 => by
  rcases (show i = 110 ∨ i = 111 ∨ i = 112 ∨ i = 113 ∨ i = 114 ∨ i = 115 ∨ i = 116 ∨ i = 117 by omega) with rfl | rfl | rfl | rfl | rfl | rfl | rfl | rfl
  · exact ⟨_, ak_110⟩
  · exact ⟨_, ak_111⟩
  · exact ⟨_, ak_112⟩
  · exact ⟨_, ak_113⟩
  · exact ⟨_, ak_114⟩
  · exact ⟨_, ak_115⟩
  · exact ⟨_, ak_116⟩
  · exact ⟨_, ak_117⟩
theorem aq_11 {l : Launch} {D : va_G} {ad0 : Nat → Nat} {z : Nat} {ids : ClassId × ClassId × ClassId} {E : Nat} {s qt qd qn qr qh qm : Nat → Nat} {Q KQ : Nat → Nat → Nat} : ∀ i, 110 ≤ i → i < 118 → i ≠ 2 → i ≠ 11 → ((earsL l D ad0 z ids E s qt qd qn qr qh Q KQ) ++ modelB (gOf l D ad0 z ids E) qm)[posF i]? = some ((adF s qt qd qn qr qh qm Q KQ) i, dq_cell (gOf l D (adF s qt qd qn qr qh qm Q KQ) z ids E) i (fun _ => 0) 0) := fun i h1 h2 => by
  rcases (show i = 110 ∨ i = 111 ∨ i = 112 ∨ i = 113 ∨ i = 114 ∨ i = 115 ∨ i = 116 ∨ i = 117 by omega) with rfl | rfl | rfl | rfl | rfl | rfl | rfl | rfl
  · exact fun _ _ => ak_110
  · exact fun _ _ => ak_111
  · exact fun _ _ => ak_112
  · exact fun _ _ => ak_113
  · exact fun _ _ => ak_114
  · exact fun _ _ => ak_115
  · exact fun _ _ => ak_116
  · exact fun _ _ => ak_117
theorem as_key {l : Launch} {D : va_G} {ad0 : Nat → Nat} {z : Nat} {ids : ClassId × ClassId × ClassId} {E : Nat} {s qt qd qn qr qh qm : Nat → Nat} {Q KQ : Nat → Nat → Nat} : ∀ i, i < 118 → ∃ x, ((earsL l D ad0 z ids E s qt qd qn qr qh Q KQ) ++ modelB (gOf l D ad0 z ids E) qm)[posF i]? = some ((adF s qt qd qn qr qh qm Q KQ) i, x) := fun i hi => by
  by_cases h0 : i < 10
  · exact ap_0 i (by omega) h0
  by_cases h1 : i < 20
  · exact ap_1 i (by omega) h1
  by_cases h2 : i < 30
  · exact ap_2 i (by omega) h2
  by_cases h3 : i < 40
  · exact ap_3 i (by omega) h3
  by_cases h4 : i < 50
  · exact ap_4 i (by omega) h4
  by_cases h5 : i < 60
  · exact ap_5 i (by omega) h5
  by_cases h6 : i < 70
  · exact ap_6 i (by omega) h6
  by_cases h7 : i < 80
  · exact ap_7 i (by omega) h7
  by_cases h8 : i < 90
  · exact ap_8 i (by omega) h8
  by_cases h9 : i < 100
  · exact ap_9 i (by omega) h9
  by_cases h10 : i < 110
  · exact ap_10 i (by omega) h10
  exact ap_11 i (by omega) (by omega)
theorem as_key2 {l : Launch} {D : va_G} {ad0 : Nat → Nat} {z : Nat} {ids : ClassId × ClassId × ClassId} {E : Nat} {s qt qd qn qr qh qm : Nat → Nat} {Q KQ : Nat → Nat → Nat} : ∀ i, i < 118 → i ≠ 2 → i ≠ 11 → ((earsL l D ad0 z ids E s qt qd qn qr qh Q KQ) ++ modelB (gOf l D ad0 z ids E) qm)[posF i]? = some ((adF s qt qd qn qr qh qm Q KQ) i, dq_cell (gOf l D (adF s qt qd qn qr qh qm Q KQ) z ids E) i (fun _ => 0) 0) := fun i hi => by
  by_cases h0 : i < 10
  · exact aq_0 i (by omega) h0
  by_cases h1 : i < 20
  · exact aq_1 i (by omega) h1
  by_cases h2 : i < 30
  · exact aq_2 i (by omega) h2
  by_cases h3 : i < 40
  · exact aq_3 i (by omega) h3
  by_cases h4 : i < 50
  · exact aq_4 i (by omega) h4
  by_cases h5 : i < 60
  · exact aq_5 i (by omega) h5
  by_cases h6 : i < 70
  · exact aq_6 i (by omega) h6
  by_cases h7 : i < 80
  · exact aq_7 i (by omega) h7
  by_cases h8 : i < 90
  · exact aq_8 i (by omega) h8
  by_cases h9 : i < 100
  · exact aq_9 i (by omega) h9
  by_cases h10 : i < 110
  · exact aq_10 i (by omega) h10
  exact aq_11 i (by omega) (by omega)
theorem sr_eq {cA : ClassId} {N : Nat} {f f' : Nat → Option Nat} (hf : ∀ j, j < N → f j = f' j) : vp_cell cA (N, .inr (.inr (.inr (.inr f)))) = vp_cell cA (N, .inr (.inr (.inr (.inr f')))) := by
  rw [vp_cell_q, vp_cell_q]
  unfold arrV
  congr 1
  apply congrArg
  funext j
  show va_rf (f j.val) = va_rf (f' j.val)
  rw [hf j.val j.isLt]
theorem as_P {l : Launch} {D : va_G} {ad0 : Nat → Nat} {z : Nat} {ids : ClassId × ClassId × ClassId} {E : Nat} {s qt qd qn qr qh qm : Nat → Nat} {Q KQ : Nat → Nat → Nat} {H : Heap} (hP0 : va_P D vwCl (earsB (gOf l D ad0 z ids E) s qt qd qn qr qh Q KQ ++ modelB (gOf l D ad0 z ids E) qm) H) : va_P D vwCl (dq_ws (gOf l D (adF s qt qd qn qr qh qm Q KQ) z ids E) M_0 L_0) H := by
  have hP : va_P D vwCl ((earsL l D ad0 z ids E s qt qd qn qr qh Q KQ) ++ modelB (gOf l D ad0 z ids E) qm) H := by rw [← ears_flat (qm := qm)]; exact hP0
  intro k q hk
  have h1 : k < 118 := by
    have h2 := (List.getElem?_eq_some_iff.mp hk).1
    simpa [dq_ws] using h2
  simp only [dq_ws, List.getElem?_map, List.getElem?_range h1, Option.map_some] at hk
  cases hk
  by_cases e2 : k = 2
  · subst e2
    have h := hP 2 (s 2, dq_sr (gOf l D ad0 z ids E) 2 (fun k => some (KQ k 0))) rfl
    show H[s 2]? = some (vp_cell _ (2, .inr (.inr (.inr (.inr (fun k => some ((adF s qt qd qn qr qh qm Q KQ) (94 + 4 * k))))))))
    rw [← sr_eq (f := fun k => some (KQ k 0)) (fun j hj => by rcases (show j = 0 ∨ j = 1 by omega) with rfl | rfl <;> rfl)]
    exact h
  · by_cases e11 : k = 11
    · subst e11
      have h := hP 33 (s 11, dq_sr (gOf l D ad0 z ids E) 14 (fun k => some (Q k 0))) rfl
      show H[s 11]? = some (vp_cell _ (14, .inr (.inr (.inr (.inr (fun k => some ((adF s qt qd qn qr qh qm Q KQ) (38 + 4 * k))))))))
      rw [← sr_eq (f := fun k => some (Q k 0)) (fun j hj => by rcases (show j = 0 ∨ j = 1 ∨ j = 2 ∨ j = 3 ∨ j = 4 ∨ j = 5 ∨ j = 6 ∨ j = 7 ∨ j = 8 ∨ j = 9 ∨ j = 10 ∨ j = 11 ∨ j = 12 ∨ j = 13 by omega) with rfl | rfl | rfl | rfl | rfl | rfl | rfl | rfl | rfl | rfl | rfl | rfl | rfl | rfl <;> rfl)]
      exact h
    · exact hP _ _ (as_key2 k h1 e2 e11)
theorem as_D {l : Launch} {D : va_G} {ad0 : Nat → Nat} {z : Nat} {ids : ClassId × ClassId × ClassId} {E : Nat} {s qt qd qn qr qh qm : Nat → Nat} {Q KQ : Nat → Nat → Nat} (hD0 : va_D (dq_AA (gOf l D ad0 z ids E)) (earsB (gOf l D ad0 z ids E) s qt qd qn qr qh Q KQ ++ modelB (gOf l D ad0 z ids E) qm)) : dq_dis (gOf l D (adF s qt qd qn qr qh qm Q KQ) z ids E) := by
  have hD : va_D (dq_AA (gOf l D ad0 z ids E)) ((earsL l D ad0 z ids E s qt qd qn qr qh Q KQ) ++ modelB (gOf l D ad0 z ids E) qm) := by rw [← ears_flat (qm := qm)]; exact hD0
  refine ⟨fun i j hi hj h => ?_, fun i hi => ?_⟩
  · obtain ⟨x, hx⟩ := as_key (l := l) (D := D) (ad0 := ad0) (z := z) (ids := ids) (E := E) (s := s) (qt := qt) (qd := qd) (qn := qn) (qr := qr) (qh := qh) (qm := qm) (Q := Q) (KQ := KQ) i hi
    obtain ⟨y, hy⟩ := as_key (l := l) (D := D) (ad0 := ad0) (z := z) (ids := ids) (E := E) (s := s) (qt := qt) (qd := qd) (qn := qn) (qr := qr) (qh := qh) (qm := qm) (Q := Q) (KQ := KQ) j hj
    exact pos_inj i hi j hj (hD.1 _ _ _ _ hx hy h)
  · obtain ⟨x, hx⟩ := as_key (l := l) (D := D) (ad0 := ad0) (z := z) (ids := ids) (E := E) (s := s) (qt := qt) (qd := qd) (qn := qn) (qr := qr) (qh := qh) (qm := qm) (Q := Q) (KQ := KQ) i hi
    exact hD.2 _ _ hx
