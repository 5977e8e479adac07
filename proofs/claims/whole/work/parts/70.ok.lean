/-! what a call leaves is a state that can be -/
theorem StOK.up {b : Nat} {S : ST} (ok : StOK b S) (hb : b + 1 < 2 ^ 20) : StOK (b + 1) S := ⟨ok.1, ok.2.1, ok.2.2.1, ok.2.2.2.1.mono (Nat.le_succ _), fun c hc => (ok.2.2.2.2.1 c hc).mono (Nat.le_succ _), fun j c hc => (ok.2.2.2.2.2.1 j c hc).mono (Nat.le_succ _), ok.2.2.2.2.2.2.1, hb⟩
theorem StOK.act {b : Nat} {S : ST} {c : SC} (ok : StOK b S) (hb : b + 1 < 2 ^ 20) (oc : ScOK (ln_n (st_l S)) (b + 1) c) : StOK (b + 1) (setA S c) := by
  have u := ok.up hb
  refine ⟨u.1, u.2.1, u.2.2.1, oc, fun c' hc => ?_, u.2.2.2.2.2.1, u.2.2.2.2.2.2.1, hb⟩
  have h1 : c' ∈ st_c S :: st_a S := List.mem_of_mem_take hc
  rcases List.mem_cons.mp h1 with rfl | h2
  · exact u.2.2.2.1
  · exact u.2.2.2.2.1 c' h2
theorem pscan_ok (t : Nat → Nat) : ∀ (k i : Nat) (p : PS), PsOK p → PsOK (pscan t k i p).2
  | 0, i, p, h => h
  | k + 1, i, p, h => by
    rw [pscan]
    split
    · exact h
    · next q hq => exact pscan_ok t k (i + 1) q (pstep_ok h hq)
theorem sc0_ok {n b : Nat} (hn : n ≤ 5) : ScOK n b sc_0 := ⟨fun j hj => hj, fun i j _ _ h => h, fun _ => (by decide : 0 < 64), fun _ => (by decide : (-3 : Int) ≤ 0 ∧ (0 : Int) ≤ 3), (by decide : 0 ≤ 9), Nat.zero_le _⟩
theorem so_fault {b : Nat} {S : ST} (ok : StOK b S) (hb : b + 1 < 2 ^ 20) : StOK (b + 1) (sp_fault S).2 := by
  exact ok.up hb
theorem so_house {b : Nat} {S : ST} (ok : StOK b S) (hb : b + 1 < 2 ^ 20) (x : Int32) (y : Int32) : StOK (b + 1) (sp_house S x y).2 := by
  exact ok.up hb
theorem so_saying {b : Nat} {S : ST} (ok : StOK b S) (hb : b + 1 < 2 ^ 20) (x : Int32) (y : Int32) : StOK (b + 1) (sp_saying S x y).2 := by
  exact ok.up hb
theorem so_later {b : Nat} {S : ST} (ok : StOK b S) (hb : b + 1 < 2 ^ 20) (x : Int32) (y : Int32) : StOK (b + 1) (sp_later S x y).2 := by
  exact ok.up hb
theorem so_first {b : Nat} {S : ST} (ok : StOK b S) (hb : b + 1 < 2 ^ 20) (x : Int32) (y : Int32) : StOK (b + 1) (sp_first S x y).2 := by
  exact ok.up hb
theorem so_keeps {b : Nat} {S : ST} (ok : StOK b S) (hb : b + 1 < 2 ^ 20) (x : Int32) (y : Int32) (m : Int32) (q : Int32) : StOK (b + 1) (sp_keeps S x y m q).2 := by
  exact ok.up hb
theorem so_tells {b : Nat} {S : ST} (ok : StOK b S) (hb : b + 1 < 2 ^ 20) (x : Int32) (y : Int32) : StOK (b + 1) (sp_tells S x y).2 := by
  exact ok.up hb
theorem so_judge {b : Nat} {S : ST} (ok : StOK b S) (hb : b + 1 < 2 ^ 20) (x : Int32) (z : Int64) : StOK (b + 1) (sp_judge S x z).2 := by
  exact ok.up hb
theorem so_ears {b : Nat} {S : ST} (ok : StOK b S) (hb : b + 1 < 2 ^ 20) (x : Int32) : StOK (b + 1) (sp_ears S x).2 := by
  exact ok.up hb
theorem so_share {b : Nat} {S : ST} (ok : StOK b S) (hb : b + 1 < 2 ^ 20) (x : Int32) (y : Int32) : StOK (b + 1) (sp_share S x y).2 := by
  exact ok.up hb
theorem so_rests {b : Nat} {S : ST} (ok : StOK b S) (hb : b + 1 < 2 ^ 20) (x : Int32) (y : Int32) (m : Int32) : StOK (b + 1) (sp_rests S x y m).2 := by
  exact ok.up hb
theorem so_dries {b : Nat} {S : ST} (ok : StOK b S) (hb : b + 1 < 2 ^ 20) (x : Int32) (y : Int32) (m : Int32) (q : Int32) (u : Int32) : StOK (b + 1) (sp_dries S x y m q u).2 := by
  exact ok.up hb
theorem so_count {b : Nat} {S : ST} (ok : StOK b S) (hb : b + 1 < 2 ^ 20) (x : Int32) : StOK (b + 1) (sp_count S x).2 := by
  exact ok.up hb
theorem so_write {b : Nat} {S : ST} (ok : StOK b S) (hb : b + 1 < 2 ^ 20) (x : Int32) : StOK (b + 1) (sp_write S x).2 := by
  have u := ok.up hb
  unfold sp_write
  split
  · exact u
  split
  · exact u
  · next h1 h2 =>
    refine ⟨by show st_n S + 1 ≤ 64; omega, fun j hj => ?_, u.2.2⟩
    show va_up (st_t S) (st_n S) (kx x) j ≤ 255
    have hj2 : j < st_n S + 1 := hj
    unfold va_up
    split
    · rcases pk_ix x (n := 256) (by decide) with q | q | ⟨k, hk, rfl⟩
      · exact absurd (Or.inl q) h1
      · exact absurd (Or.inr (Int32.lt_of_lt_of_le (by decide) q)) h1
      · rw [kx_nI (by omega)]; omega
    · exact ok.2.1 j (by omega)
theorem so_wipe {b : Nat} {S : ST} (ok : StOK b S) (hb : b + 1 < 2 ^ 20) : StOK (b + 1) (sp_wipe S).2 := by
  have u := ok.up hb
  exact ⟨Nat.zero_le _, fun j hj => absurd hj (Nat.not_lt_zero j), u.2.2⟩
theorem so_lane {b : Nat} {S : ST} (ok : StOK b S) (hb : b + 1 < 2 ^ 20) : StOK (b + 1) (sp_lane S).2 := by
  have u := ok.up hb
  unfold sp_lane
  split
  · have hp := (pscan_ok (st_t S) (st_n S) 0 ps_0 ps0_ok).1
    exact ⟨u.1, u.2.1, hp, sc0_ok hp.1, fun c hc => absurd hc List.not_mem_nil, fun j c hc => (by cases hc), u.2.2.2.2.2.2⟩
  · exact u
theorem so_hour {b : Nat} {S : ST} (ok : StOK b S) (hb : b + 1 < 2 ^ 20) : StOK (b + 1) (sp_hour S).2 := by
  exact ok.act hb (nextC_ok ok.2.2.1 ok.2.2.2.1)
theorem so_lower {b : Nat} {S : ST} (ok : StOK b S) (hb : b + 1 < 2 ^ 20) (x : Int32) : StOK (b + 1) (sp_lower S x).2 := by
  unfold sp_lower
  split
  · split
    · next h => exact ok.act hb ((lowC_ok ok.2.2.2.1 h).mono (Nat.le_succ _))
    · exact ok.up hb
  · exact ok.up hb
theorem so_raise {b : Nat} {S : ST} (ok : StOK b S) (hb : b + 1 < 2 ^ 20) (x : Int32) : StOK (b + 1) (sp_raise S x).2 := by
  unfold sp_raise
  split
  · split
    · next h => exact ok.act hb ((raiC_ok ok.2.2.2.1 h).mono (Nat.le_succ _))
    · exact ok.up hb
  · exact ok.up hb
theorem so_change {b : Nat} {S : ST} (ok : StOK b S) (hb : b + 1 < 2 ^ 20) (x : Int32) (y : Int32) : StOK (b + 1) (sp_change S x y).2 := by
  unfold sp_change
  split
  · next h =>
    split
    · exact ok.up hb
    · next hne =>
      have a1 := ok.2.2.1.1
      obtain ⟨k, hk, rfl⟩ := hB_some (by omega) h.1
      obtain ⟨j, hj, rfl⟩ := hB_some (by omega) h.2
      refine ok.act hb ((chgC_ok ok.2.2.2.1 ?_).mono (Nat.le_succ _))
      unfold canC
      rw [kx_nI (by omega), kx_nI (by omega), decide_eq_true hk, decide_eq_true hj, decide_eq_false (fun z => hne (by rw [z]))]
      rfl
  · exact ok.up hb
theorem so_plate {b : Nat} {S : ST} (ok : StOK b S) (hb : b + 1 < 2 ^ 20) (x : Int32) : StOK (b + 1) (sp_plate S x).2 := by
  unfold sp_plate
  split
  · split
    · exact ok.act hb ((plaC_ok ok.2.2.2.1).mono (Nat.le_succ _))
    · exact ok.up hb
  · exact ok.up hb
theorem so_undo {b : Nat} {S : ST} (ok : StOK b S) (hb : b + 1 < 2 ^ 20) : StOK (b + 1) (sp_undo S).2 := by
  have u := ok.up hb
  unfold sp_undo
  split
  · exact u
  · next c l h =>
    have hm : ∀ c', c' ∈ c :: l → ScOK (ln_n (st_l S)) (b + 1) c' := fun c' hc => u.2.2.2.2.1 c' (by rw [h]; exact hc)
    exact ⟨u.1, u.2.1, u.2.2.1, hm c List.mem_cons_self, fun c' hc => hm c' (List.mem_cons_of_mem _ hc), u.2.2.2.2.2⟩
theorem so_hear {b : Nat} {S : ST} (ok : StOK b S) (hb : b + 1 < 2 ^ 20) (x : Int32) (y : Int32) (m : Int32) : StOK (b + 1) (sp_hear S x y m).2 := by
  have u := ok.up hb
  unfold sp_hear
  split
  · next h =>
    split
    · next h6 =>
      obtain ⟨k, hk, rfl⟩ := hB_some (by omega) h.1
      obtain ⟨j, hj, rfl⟩ := hB_some (by omega) h.2.1
      refine ⟨u.1, u.2.1, u.2.2.1, u.2.2.2.1, u.2.2.2.2.1, u.2.2.2.2.2.1, ⟨by show hd_n (st_h S) + 1 ≤ 6; omega, fun i hi => ?_⟩, hb⟩
      have hi2 : i < hd_n (st_h S) + 1 := hi
      show va_up (hd_l (st_h S)) (hd_n (st_h S)) (kx (nI k)) i ≤ 9 ∧ va_up (hd_r (st_h S)) (hd_n (st_h S)) (kx (nI j)) i ≤ 9
      rw [kx_nI (by omega), kx_nI (by omega)]
      by_cases e : i = hd_n (st_h S)
      · subst e; rw [va_up_self, va_up_self]; omega
      · rw [va_up_ne _ _ e, va_up_ne _ _ e]; exact ok.2.2.2.2.2.2.1.2 i (by omega)
    · exact u
  · exact u
theorem so_unhear {b : Nat} {S : ST} (ok : StOK b S) (hb : b + 1 < 2 ^ 20) : StOK (b + 1) (sp_unhear S).2 := by
  have u := ok.up hb
  exact ⟨u.1, u.2.1, u.2.2.1, u.2.2.2.1, u.2.2.2.2.1, u.2.2.2.2.2.1, ⟨Nat.zero_le _, fun j hj => absurd hj (Nat.not_lt_zero j)⟩, hb⟩
theorem so_seed {b : Nat} {S : ST} (ok : StOK b S) (hb : b + 1 < 2 ^ 20) (z : Int64) : StOK (b + 1) (sp_seed S z).2 := by
  exact ok.up hb
theorem so_years {b : Nat} {S : ST} (ok : StOK b S) (hb : b + 1 < 2 ^ 20) (x : Int32) : StOK (b + 1) (sp_years S x).2 := by
  unfold sp_years
  split
  · exact ok.up hb
  · exact ok.up hb
theorem so_keep {b : Nat} {S : ST} (ok : StOK b S) (hb : b + 1 < 2 ^ 20) (x : Int32) : StOK (b + 1) (sp_keep S x).2 := by
  have u := ok.up hb
  unfold sp_keep
  split
  · refine ⟨u.1, u.2.1, u.2.2.1, u.2.2.2.1, u.2.2.2.2.1, fun j c hc => ?_, u.2.2.2.2.2.2⟩
    have hc2 : va_up (st_k S) (kx x) (some (st_c S)) j = some c := hc
    unfold va_up at hc2
    split at hc2
    · cases hc2; exact u.2.2.2.1
    · exact u.2.2.2.2.2.1 j c hc2
  · exact u
theorem so_again {b : Nat} {S : ST} (ok : StOK b S) (hb : b + 1 < 2 ^ 20) (x : Int32) : StOK (b + 1) (sp_again S x).2 := by
  have u := ok.up hb
  unfold sp_again
  split
  · split
    · exact u
    · next c hc => exact ⟨u.1, u.2.1, u.2.2.1, u.2.2.2.2.2.1 _ c hc, fun c' hc' => absurd hc' List.not_mem_nil, u.2.2.2.2.2⟩
  · exact u
/-! the start -/
def S_0 : ST := ((0, fun _ => 0), ln_e, (fun _ => 0, fun _ => 0, fun _ => 0, 0, 0), [], fun _ => none, (0, fun _ => 0, fun _ => 0, fun _ => false), 0)
def M_0 : MM := fun _ _ => 0
def L_0 : LL := fun _ => 0
theorem s0_ok : StOK 0 S_0 := ⟨Nat.zero_le _, fun j hj => absurd hj (Nat.not_lt_zero j), ps0_ok.1, ⟨fun j hj => absurd hj (Nat.not_lt_zero j), fun i j hi => absurd hi (Nat.not_lt_zero i), fun _ => (by decide : 0 < 64), fun _ => (by decide : (-3 : Int) ≤ 0 ∧ (0 : Int) ≤ 3), (by decide : 0 ≤ 9), Nat.zero_le _⟩, fun c hc => absurd hc List.not_mem_nil, fun j c hc => (by cases hc), ⟨Nat.zero_le _, fun j hj => absurd hj (Nat.not_lt_zero j)⟩, by decide⟩
theorem nolt {P : Nat → Prop} : ∀ j, j < 0 → P j := fun j hj => absurd hj (Nat.not_lt_zero j)
theorem s0_C : RC M_0 L_0 S_0 := ⟨rfl, nolt, ⟨rfl, rfl, rfl, nolt, nolt, nolt, nolt, nolt, nolt⟩, ⟨fun _ _ => rfl, fun _ _ => rfl, fun _ _ => rfl, rfl, rfl⟩, ⟨0, by decide, rfl, rfl, Nat.zero_le _, fun i c hc => by simp [S_0, st_a] at hc⟩, fun j hj => ⟨rfl, fun c hc => by cases hc⟩, ⟨rfl, nolt, nolt, nolt⟩, rfl⟩
theorem s0_R : RR M_0 L_0 S_0 := ⟨⟨rfl, rfl, rfl, nolt, nolt, nolt⟩, ⟨fun _ _ => rfl, ⟨fun _ => 0, fun _ _ => ⟨rfl, Nat.zero_lt_succ 63⟩, nolt⟩, fun _ _ => rfl, rfl, rfl⟩, rfl, nolt, ⟨0, by decide, rfl, rfl, Nat.zero_le _, fun i c hc => by simp [S_0, st_a] at hc⟩, fun j hj => ⟨rfl, fun c hc => by cases hc⟩, ⟨rfl, nolt, nolt, nolt⟩, rfl⟩
/-! the other side's cells stay -/
theorem RR.off {M M' : MM} {L L' : LL} {S : ST} (h : RR M L S) (ho : OnlyB 0 101 M M') (hL : L' 102 = L 102) : RR M' L' S := by
  have e : ∀ i, 101 < i → M' i = M i := fun i hi => ho i (by omega)
  obtain ⟨h1, h2, h3, h4, h5, h6, h7, h8⟩ := h
  exact ⟨h1.keep (fun k _ => by rw [e 102 (by omega)]) (fun i a _ => e i (by omega)), by rw [e 107 (by omega)]; exact h2, by rw [e 102 (by omega)]; exact h3, by rw [e 111 (by omega)]; exact h4, h5.keep (by rw [e 102 (by omega)]) (by rw [e 102 (by omega)]) (e 112 (by omega)), h6.keep (e 116 (by omega)) (e 117 (by omega)), h7.keep (by rw [e 102 (by omega)]) (fun i a _ => e i (by omega)), hL.trans h8⟩
theorem RC.off {M M' : MM} {L L' : LL} {S : ST} (h : RC M L S) (ho : OnlyB 102 117 M M') (hL : L' 0 = L 0) : RC M' L' S := by
  have e : ∀ i, i < 102 → M' i = M i := fun i hi => ho i (by omega)
  obtain ⟨h1, h2, h3, h4, h5, h6, h7, h8⟩ := h
  exact ⟨by rw [e 0 (by omega)]; exact h1, by rw [e 1 (by omega)]; exact h2, h3.keep (fun i _ b => e i (by omega)), h4.keep (fun i _ b => e i (by omega)), h5.keep (e 10 (by omega)) (fun i _ b => e i (by omega)), h6.keep (e 3 (by omega)) (fun i _ b => e i (by omega)), h7.keep (fun i _ b => e i (by omega)), hL.trans h8⟩
