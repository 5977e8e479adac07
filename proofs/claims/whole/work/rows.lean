section
-- ===== PART A: goes FIRST, ahead of the names: the tables' words, and 'selects' of the private methods out of them =====
/-- a private method of a class that the tables say can be made, by its rows of tables_1 -/
def lw_okq (q : MethodName × Nat) : Prop := (q.1.cls ≠ "java/lang/invoke/MethodHandle" ∧ q.1.cls ≠ "java/lang/invoke/VarHandle") ∧ Cond.instantiable q.1.cls q.2 ∈ tables_1 ∧ Cond.privateMethod q.1 ∈ tables_1 ∧ Cond.instanceMethod q.1 ∈ tables_1
theorem lw_p0 : lw_okq (⟨"DripEars$Reader", "accepts", "(I)Z"⟩, 5) := ⟨⟨by decide +kernel, by decide +kernel⟩, List.mem_of_getElem? (i := 74) (by decide +kernel), List.mem_of_getElem? (i := 233) (by decide +kernel), List.mem_of_getElem? (i := 234) (by decide +kernel)⟩
theorem lw_p1 : lw_okq (⟨"DripEars$Reader", "opensPart", "(I)Z"⟩, 5) := ⟨⟨by decide +kernel, by decide +kernel⟩, List.mem_of_getElem? (i := 74) (by decide +kernel), List.mem_of_getElem? (i := 237) (by decide +kernel), List.mem_of_getElem? (i := 238) (by decide +kernel)⟩
theorem lw_p2 : lw_okq (⟨"DripEars$Reader", "figureLimit", "()I"⟩, 5) := ⟨⟨by decide +kernel, by decide +kernel⟩, List.mem_of_getElem? (i := 74) (by decide +kernel), List.mem_of_getElem? (i := 241) (by decide +kernel), List.mem_of_getElem? (i := 242) (by decide +kernel)⟩
theorem lw_p3 : lw_okq (⟨"DripEars$Reader", "closePartIfWhole", "()V"⟩, 5) := ⟨⟨by decide +kernel, by decide +kernel⟩, List.mem_of_getElem? (i := 74) (by decide +kernel), List.mem_of_getElem? (i := 245) (by decide +kernel), List.mem_of_getElem? (i := 246) (by decide +kernel)⟩
theorem lw_p4 : lw_okq (⟨"DripEars$Scene", "housesThatHearBy", "(I)I"⟩, 6) := ⟨⟨by decide +kernel, by decide +kernel⟩, List.mem_of_getElem? (i := 98) (by decide +kernel), List.mem_of_getElem? (i := 300) (by decide +kernel), List.mem_of_getElem? (i := 301) (by decide +kernel)⟩
theorem lw_p5 : lw_okq (⟨"DripEars$Scene", "tellAt", "(II)I"⟩, 6) := ⟨⟨by decide +kernel, by decide +kernel⟩, List.mem_of_getElem? (i := 98) (by decide +kernel), List.mem_of_getElem? (i := 347) (by decide +kernel), List.mem_of_getElem? (i := 348) (by decide +kernel)⟩
theorem lw_p6 : lw_okq (⟨"DripEars", "fillFewestLowerings", "(III)Z"⟩, 15) := ⟨⟨by decide +kernel, by decide +kernel⟩, List.mem_of_getElem? (i := 12) (by decide +kernel), List.mem_of_getElem? (i := 451) (by decide +kernel), List.mem_of_getElem? (i := 452) (by decide +kernel)⟩
theorem lw_p7 : lw_okq (⟨"DripEars", "isKeptFrom", "(III)Z"⟩, 15) := ⟨⟨by decide +kernel, by decide +kernel⟩, List.mem_of_getElem? (i := 12) (by decide +kernel), List.mem_of_getElem? (i := 456) (by decide +kernel), List.mem_of_getElem? (i := 457) (by decide +kernel)⟩
theorem lw_p8 : lw_okq (⟨"DripEars", "sumOfLowerings", "()I"⟩, 15) := ⟨⟨by decide +kernel, by decide +kernel⟩, List.mem_of_getElem? (i := 12) (by decide +kernel), List.mem_of_getElem? (i := 460) (by decide +kernel), List.mem_of_getElem? (i := 461) (by decide +kernel)⟩
theorem lw_p9 : lw_okq (⟨"DripEars", "figuresOfLowerings", "()I"⟩, 15) := ⟨⟨by decide +kernel, by decide +kernel⟩, List.mem_of_getElem? (i := 12) (by decide +kernel), List.mem_of_getElem? (i := 464) (by decide +kernel), List.mem_of_getElem? (i := 465) (by decide +kernel)⟩
theorem lw_p10 : lw_okq (⟨"DripEars", "fillDoings", "(IJ)Z"⟩, 15) := ⟨⟨by decide +kernel, by decide +kernel⟩, List.mem_of_getElem? (i := 12) (by decide +kernel), List.mem_of_getElem? (i := 479) (by decide +kernel), List.mem_of_getElem? (i := 480) (by decide +kernel)⟩
theorem lw_p11 : lw_okq (⟨"DripEars", "comesAbout", "(III)Z"⟩, 15) := ⟨⟨by decide +kernel, by decide +kernel⟩, List.mem_of_getElem? (i := 12) (by decide +kernel), List.mem_of_getElem? (i := 484) (by decide +kernel), List.mem_of_getElem? (i := 485) (by decide +kernel)⟩
theorem lw_p12 : lw_okq (⟨"DripEars", "fillChoices", "(II)V"⟩, 15) := ⟨⟨by decide +kernel, by decide +kernel⟩, List.mem_of_getElem? (i := 12) (by decide +kernel), List.mem_of_getElem? (i := 530) (by decide +kernel), List.mem_of_getElem? (i := 531) (by decide +kernel)⟩
theorem lw_p13 : lw_okq (⟨"DripEars", "knowsBehind", "(IIII)Z"⟩, 15) := ⟨⟨by decide +kernel, by decide +kernel⟩, List.mem_of_getElem? (i := 12) (by decide +kernel), List.mem_of_getElem? (i := 541) (by decide +kernel), List.mem_of_getElem? (i := 542) (by decide +kernel)⟩
theorem lw_p14 : lw_okq (⟨"DripEars", "doByLot", "(I)V"⟩, 15) := ⟨⟨by decide +kernel, by decide +kernel⟩, List.mem_of_getElem? (i := 12) (by decide +kernel), List.mem_of_getElem? (i := 561) (by decide +kernel), List.mem_of_getElem? (i := 562) (by decide +kernel)⟩
theorem lw_p15 : lw_okq (⟨"DripEarsModel", "readText", "()I"⟩, 28) := ⟨⟨by decide +kernel, by decide +kernel⟩, List.mem_of_getElem? (i := 582) (by decide +kernel), List.mem_of_getElem? (i := 689) (by decide +kernel), List.mem_of_getElem? (i := 690) (by decide +kernel)⟩
def lw_privs_1 : List (MethodName × Nat) := [(⟨"DripEars$Reader", "accepts", "(I)Z"⟩, 5), (⟨"DripEars$Reader", "opensPart", "(I)Z"⟩, 5), (⟨"DripEars$Reader", "figureLimit", "()I"⟩, 5), (⟨"DripEars$Reader", "closePartIfWhole", "()V"⟩, 5), (⟨"DripEars$Scene", "housesThatHearBy", "(I)I"⟩, 6), (⟨"DripEars$Scene", "tellAt", "(II)I"⟩, 6), (⟨"DripEars", "fillFewestLowerings", "(III)Z"⟩, 15), (⟨"DripEars", "isKeptFrom", "(III)Z"⟩, 15), (⟨"DripEars", "sumOfLowerings", "()I"⟩, 15), (⟨"DripEars", "figuresOfLowerings", "()I"⟩, 15), (⟨"DripEars", "fillDoings", "(IJ)Z"⟩, 15), (⟨"DripEars", "comesAbout", "(III)Z"⟩, 15), (⟨"DripEars", "fillChoices", "(II)V"⟩, 15), (⟨"DripEars", "knowsBehind", "(IIII)Z"⟩, 15), (⟨"DripEars", "doByLot", "(I)V"⟩, 15), (⟨"DripEarsModel", "readText", "()I"⟩, 28)]
theorem lw_r1 : ∀ q ∈ lw_privs_1, lw_okq q := List.forall_mem_cons.mpr ⟨lw_p0, List.forall_mem_cons.mpr ⟨lw_p1, List.forall_mem_cons.mpr ⟨lw_p2, List.forall_mem_cons.mpr ⟨lw_p3, List.forall_mem_cons.mpr ⟨lw_p4, List.forall_mem_cons.mpr ⟨lw_p5, List.forall_mem_cons.mpr ⟨lw_p6, List.forall_mem_cons.mpr ⟨lw_p7, List.forall_mem_cons.mpr ⟨lw_p8, List.forall_mem_cons.mpr ⟨lw_p9, List.forall_mem_cons.mpr ⟨lw_p10, List.forall_mem_cons.mpr ⟨lw_p11, List.forall_mem_cons.mpr ⟨lw_p12, List.forall_mem_cons.mpr ⟨lw_p13, List.forall_mem_cons.mpr ⟨lw_p14, List.forall_mem_cons.mpr ⟨lw_p15, fun _ h => absurd h List.not_mem_nil⟩⟩⟩⟩⟩⟩⟩⟩⟩⟩⟩⟩⟩⟩⟩⟩
theorem lw_p16 : lw_okq (⟨"DripEarsModel", "readPart", "(I)V"⟩, 28) := ⟨⟨by decide +kernel, by decide +kernel⟩, List.mem_of_getElem? (i := 582) (by decide +kernel), List.mem_of_getElem? (i := 693) (by decide +kernel), List.mem_of_getElem? (i := 694) (by decide +kernel)⟩
theorem lw_p17 : lw_okq (⟨"DripEarsModel", "figureUpTo", "(I)I"⟩, 28) := ⟨⟨by decide +kernel, by decide +kernel⟩, List.mem_of_getElem? (i := 582) (by decide +kernel), List.mem_of_getElem? (i := 697) (by decide +kernel), List.mem_of_getElem? (i := 698) (by decide +kernel)⟩
theorem lw_p18 : lw_okq (⟨"DripEarsModel", "isHouse", "(I)Z"⟩, 28) := ⟨⟨by decide +kernel, by decide +kernel⟩, List.mem_of_getElem? (i := 582) (by decide +kernel), List.mem_of_getElem? (i := 709) (by decide +kernel), List.mem_of_getElem? (i := 710) (by decide +kernel)⟩
theorem lw_p19 : lw_okq (⟨"DripEarsModel", "knowsAt", "(II)I"⟩, 28) := ⟨⟨by decide +kernel, by decide +kernel⟩, List.mem_of_getElem? (i := 582) (by decide +kernel), List.mem_of_getElem? (i := 713) (by decide +kernel), List.mem_of_getElem? (i := 714) (by decide +kernel)⟩
theorem lw_p20 : lw_okq (⟨"DripEarsModel", "sayingOn", "(I)I"⟩, 28) := ⟨⟨by decide +kernel, by decide +kernel⟩, List.mem_of_getElem? (i := 582) (by decide +kernel), List.mem_of_getElem? (i := 717) (by decide +kernel), List.mem_of_getElem? (i := 718) (by decide +kernel)⟩
theorem lw_p21 : lw_okq (⟨"DripEarsModel", "rainOn", "(I)I"⟩, 28) := ⟨⟨by decide +kernel, by decide +kernel⟩, List.mem_of_getElem? (i := 582) (by decide +kernel), List.mem_of_getElem? (i := 721) (by decide +kernel), List.mem_of_getElem? (i := 722) (by decide +kernel)⟩
theorem lw_p22 : lw_okq (⟨"DripEarsModel", "hears", "(IIII)Z"⟩, 28) := ⟨⟨by decide +kernel, by decide +kernel⟩, List.mem_of_getElem? (i := 582) (by decide +kernel), List.mem_of_getElem? (i := 725) (by decide +kernel), List.mem_of_getElem? (i := 726) (by decide +kernel)⟩
theorem lw_p23 : lw_okq (⟨"DripEarsModel", "isStrayed", "(I)Z"⟩, 28) := ⟨⟨by decide +kernel, by decide +kernel⟩, List.mem_of_getElem? (i := 582) (by decide +kernel), List.mem_of_getElem? (i := 729) (by decide +kernel), List.mem_of_getElem? (i := 730) (by decide +kernel)⟩
theorem lw_p24 : lw_okq (⟨"DripEarsModel", "keepAct", "()V"⟩, 28) := ⟨⟨by decide +kernel, by decide +kernel⟩, List.mem_of_getElem? (i := 582) (by decide +kernel), List.mem_of_getElem? (i := 745) (by decide +kernel), List.mem_of_getElem? (i := 746) (by decide +kernel)⟩
theorem lw_p25 : lw_okq (⟨"DripEarsModel", "hourBy", "(II)I"⟩, 28) := ⟨⟨by decide +kernel, by decide +kernel⟩, List.mem_of_getElem? (i := 582) (by decide +kernel), List.mem_of_getElem? (i := 749) (by decide +kernel), List.mem_of_getElem? (i := 750) (by decide +kernel)⟩
theorem lw_p26 : lw_okq (⟨"DripEarsModel", "knownOn", "(I)I"⟩, 28) := ⟨⟨by decide +kernel, by decide +kernel⟩, List.mem_of_getElem? (i := 582) (by decide +kernel), List.mem_of_getElem? (i := 756) (by decide +kernel), List.mem_of_getElem? (i := 757) (by decide +kernel)⟩
theorem lw_p27 : lw_okq (⟨"DripEarsModel", "changeOn", "(III)V"⟩, 28) := ⟨⟨by decide +kernel, by decide +kernel⟩, List.mem_of_getElem? (i := 582) (by decide +kernel), List.mem_of_getElem? (i := 775) (by decide +kernel), List.mem_of_getElem? (i := 776) (by decide +kernel)⟩
theorem lw_p28 : lw_okq (⟨"DripEarsModel", "plateOn", "(II)V"⟩, 28) := ⟨⟨by decide +kernel, by decide +kernel⟩, List.mem_of_getElem? (i := 582) (by decide +kernel), List.mem_of_getElem? (i := 783) (by decide +kernel), List.mem_of_getElem? (i := 784) (by decide +kernel)⟩
theorem lw_p29 : lw_okq (⟨"DripEarsModel", "layTrial", "()V"⟩, 28) := ⟨⟨by decide +kernel, by decide +kernel⟩, List.mem_of_getElem? (i := 582) (by decide +kernel), List.mem_of_getElem? (i := 796) (by decide +kernel), List.mem_of_getElem? (i := 797) (by decide +kernel)⟩
theorem lw_p30 : lw_okq (⟨"DripEarsModel", "goOn", "(I)V"⟩, 28) := ⟨⟨by decide +kernel, by decide +kernel⟩, List.mem_of_getElem? (i := 582) (by decide +kernel), List.mem_of_getElem? (i := 800) (by decide +kernel), List.mem_of_getElem? (i := 801) (by decide +kernel)⟩
theorem lw_p31 : lw_okq (⟨"DripEarsModel", "loweredBy", "(IIII)I"⟩, 28) := ⟨⟨by decide +kernel, by decide +kernel⟩, List.mem_of_getElem? (i := 582) (by decide +kernel), List.mem_of_getElem? (i := 817) (by decide +kernel), List.mem_of_getElem? (i := 818) (by decide +kernel)⟩
def lw_privs_2 : List (MethodName × Nat) := [(⟨"DripEarsModel", "readPart", "(I)V"⟩, 28), (⟨"DripEarsModel", "figureUpTo", "(I)I"⟩, 28), (⟨"DripEarsModel", "isHouse", "(I)Z"⟩, 28), (⟨"DripEarsModel", "knowsAt", "(II)I"⟩, 28), (⟨"DripEarsModel", "sayingOn", "(I)I"⟩, 28), (⟨"DripEarsModel", "rainOn", "(I)I"⟩, 28), (⟨"DripEarsModel", "hears", "(IIII)Z"⟩, 28), (⟨"DripEarsModel", "isStrayed", "(I)Z"⟩, 28), (⟨"DripEarsModel", "keepAct", "()V"⟩, 28), (⟨"DripEarsModel", "hourBy", "(II)I"⟩, 28), (⟨"DripEarsModel", "knownOn", "(I)I"⟩, 28), (⟨"DripEarsModel", "changeOn", "(III)V"⟩, 28), (⟨"DripEarsModel", "plateOn", "(II)V"⟩, 28), (⟨"DripEarsModel", "layTrial", "()V"⟩, 28), (⟨"DripEarsModel", "goOn", "(I)V"⟩, 28), (⟨"DripEarsModel", "loweredBy", "(IIII)I"⟩, 28)]
theorem lw_r2 : ∀ q ∈ lw_privs_2, lw_okq q := List.forall_mem_cons.mpr ⟨lw_p16, List.forall_mem_cons.mpr ⟨lw_p17, List.forall_mem_cons.mpr ⟨lw_p18, List.forall_mem_cons.mpr ⟨lw_p19, List.forall_mem_cons.mpr ⟨lw_p20, List.forall_mem_cons.mpr ⟨lw_p21, List.forall_mem_cons.mpr ⟨lw_p22, List.forall_mem_cons.mpr ⟨lw_p23, List.forall_mem_cons.mpr ⟨lw_p24, List.forall_mem_cons.mpr ⟨lw_p25, List.forall_mem_cons.mpr ⟨lw_p26, List.forall_mem_cons.mpr ⟨lw_p27, List.forall_mem_cons.mpr ⟨lw_p28, List.forall_mem_cons.mpr ⟨lw_p29, List.forall_mem_cons.mpr ⟨lw_p30, List.forall_mem_cons.mpr ⟨lw_p31, fun _ h => absurd h List.not_mem_nil⟩⟩⟩⟩⟩⟩⟩⟩⟩⟩⟩⟩⟩⟩⟩⟩
theorem lw_p32 : lw_okq (⟨"DripEarsModel", "figuresOf", "(I)I"⟩, 28) := ⟨⟨by decide +kernel, by decide +kernel⟩, List.mem_of_getElem? (i := 582) (by decide +kernel), List.mem_of_getElem? (i := 821) (by decide +kernel), List.mem_of_getElem? (i := 822) (by decide +kernel)⟩
theorem lw_p33 : lw_okq (⟨"DripEarsModel", "knownBy", "(I)I"⟩, 28) := ⟨⟨by decide +kernel, by decide +kernel⟩, List.mem_of_getElem? (i := 582) (by decide +kernel), List.mem_of_getElem? (i := 830) (by decide +kernel), List.mem_of_getElem? (i := 831) (by decide +kernel)⟩
theorem lw_p34 : lw_okq (⟨"DripEarsModel", "tryThing", "(III)Z"⟩, 28) := ⟨⟨by decide +kernel, by decide +kernel⟩, List.mem_of_getElem? (i := 582) (by decide +kernel), List.mem_of_getElem? (i := 843) (by decide +kernel), List.mem_of_getElem? (i := 844) (by decide +kernel)⟩
theorem lw_p35 : lw_okq (⟨"DripEarsModel", "isRest", "(IIII)Z"⟩, 28) := ⟨⟨by decide +kernel, by decide +kernel⟩, List.mem_of_getElem? (i := 582) (by decide +kernel), List.mem_of_getElem? (i := 874) (by decide +kernel), List.mem_of_getElem? (i := 875) (by decide +kernel)⟩
theorem lw_p36 : lw_okq (⟨"DripEarsModel", "gain", "(IIII)I"⟩, 28) := ⟨⟨by decide +kernel, by decide +kernel⟩, List.mem_of_getElem? (i := 582) (by decide +kernel), List.mem_of_getElem? (i := 878) (by decide +kernel), List.mem_of_getElem? (i := 879) (by decide +kernel)⟩
theorem lw_p37 : lw_okq (⟨"DripEarsModel", "knownTogether", "()I"⟩, 28) := ⟨⟨by decide +kernel, by decide +kernel⟩, List.mem_of_getElem? (i := 582) (by decide +kernel), List.mem_of_getElem? (i := 899) (by decide +kernel), List.mem_of_getElem? (i := 900) (by decide +kernel)⟩
theorem lw_p38 : lw_okq (⟨"DripEarsModel", "hearingHouses", "()I"⟩, 28) := ⟨⟨by decide +kernel, by decide +kernel⟩, List.mem_of_getElem? (i := 582) (by decide +kernel), List.mem_of_getElem? (i := 915) (by decide +kernel), List.mem_of_getElem? (i := 916) (by decide +kernel)⟩
def lw_privs_3 : List (MethodName × Nat) := [(⟨"DripEarsModel", "figuresOf", "(I)I"⟩, 28), (⟨"DripEarsModel", "knownBy", "(I)I"⟩, 28), (⟨"DripEarsModel", "tryThing", "(III)Z"⟩, 28), (⟨"DripEarsModel", "isRest", "(IIII)Z"⟩, 28), (⟨"DripEarsModel", "gain", "(IIII)I"⟩, 28), (⟨"DripEarsModel", "knownTogether", "()I"⟩, 28), (⟨"DripEarsModel", "hearingHouses", "()I"⟩, 28)]
theorem lw_r3 : ∀ q ∈ lw_privs_3, lw_okq q := List.forall_mem_cons.mpr ⟨lw_p32, List.forall_mem_cons.mpr ⟨lw_p33, List.forall_mem_cons.mpr ⟨lw_p34, List.forall_mem_cons.mpr ⟨lw_p35, List.forall_mem_cons.mpr ⟨lw_p36, List.forall_mem_cons.mpr ⟨lw_p37, List.forall_mem_cons.mpr ⟨lw_p38, fun _ h => absurd h List.not_mem_nil⟩⟩⟩⟩⟩⟩⟩
def lw_privs : List (MethodName × Nat) := lw_privs_1 ++ (lw_privs_2 ++ (lw_privs_3))
def lw_tbl : List Cond := k2_sels lw_privs ++ tables_1
theorem lw_privs_ok : ∀ q ∈ lw_privs, lw_okq q := by
  show ∀ q ∈ lw_privs_1 ++ (lw_privs_2 ++ (lw_privs_3)), lw_okq q
  exact List.forall_mem_append.mpr ⟨lw_r1, List.forall_mem_append.mpr ⟨lw_r2, lw_r3⟩⟩
-- ===== end of PART A; then your names; then what follows =====
end
section
/-! ===== BEGIN words of one list among another's, by their places ===== -/
theorem goodIn_r {big : List Cond} (ws : List Cond) (ps : List Nat) (hp : ws = ps.filterMap (fun i => big[i]?)) (h : ws.all goodWord = true) : GoodIn big ws := by
  intro w hw
  have h1 := List.all_eq_true.mp h w hw
  rw [hp] at hw
  obtain ⟨i, -, hi⟩ := List.mem_filterMap.mp hw
  have hm : w ∈ big := by first | exact List.mem_of_getElem? hi | exact List.getElem?_mem hi
  exact ⟨hm, good_of_word h1⟩
theorem goodIn_app {big a b : List Cond} (ha : GoodIn big a) (hb : GoodIn big b) : GoodIn big (a ++ b) := fun w h => (List.mem_append.mp h).elim (ha w) (hb w)
theorem goodIn_ca {big a b : List Cond} {c : Cond} (ha : GoodIn big (c :: a)) (hb : GoodIn big b) : GoodIn big (c :: (a ++ b)) := fun w h => (List.mem_cons.mp h).elim (fun e => ha w (List.mem_cons.mpr (Or.inl e))) (fun h => (List.mem_append.mp h).elim (fun h => ha w (List.mem_cons.mpr (Or.inr h))) (hb w))
theorem goodIn_sub {big ws : List Cond} (hm : ∀ w ∈ ws, w ∈ big) (h : ws.all goodWord = true) : GoodIn big ws := fun w hw => ⟨hm w hw, good_of_word (List.all_eq_true.mp h w hw)⟩
/-! ===== END ===== -/

/-! ===== BEGIN printed: names, fields, word lists, decode rows ===== -/
def RX0 : String := "DripEars$Acts"
def TX0 : u_T := fun k => match k with
  | 0 => ("DripEars$Acts", "ahead", "[LDripEars$Scene;", true)
  | 1 => ("DripEars$Acts", "oldest", "I", false)
  | _ => ("DripEars$Acts", "size", "I", false)
def tyX0 : Nat → FieldType := fun k => match k with
  | 0 => .array (.object "DripEars$Scene")
  | 1 => .int
  | _ => .int
abbrev wsX00 : List Cond := u_ws RX0 TX0 3
theorem nmX0 : ∀ a, a < 3 → ∀ b, b < 3 → a ≠ b → (TX0 a).2.1 ≠ (TX0 b).2.1 := by decide +kernel
theorem tyX0_ok : ∀ k, k < 3 → parseFieldDescriptor (TX0 k).2.2.1 = some (tyX0 k) := by decide +kernel
abbrev cX0_init : ByteArray := prog_2_method_1_code
def yX0_init : MethodName := ⟨RX0, "<init>", "(LDripEars$Lane;)V"⟩
abbrev cX0_forget : ByteArray := prog_2_method_2_code
def yX0_forget : MethodName := ⟨RX0, "forget", "()V"⟩
abbrev cX0_note : ByteArray := prog_2_method_3_code
def yX0_note : MethodName := ⟨RX0, "note", "(LDripEars$Scene;)V"⟩
abbrev cX0_takeBack : ByteArray := prog_2_method_4_code
def yX0_takeBack : MethodName := ⟨RX0, "takeBack", "(LDripEars$Scene;)V"⟩
def RX1 : String := "DripEars$Heard"
def TX1 : u_T := fun k => match k with
  | 0 => ("DripEars$Heard", "loud", "[I", true)
  | 1 => ("DripEars$Heard", "rain", "[I", true)
  | 2 => ("DripEars$Heard", "was", "[Z", true)
  | _ => ("DripEars$Heard", "size", "I", false)
def tyX1 : Nat → FieldType := fun k => match k with
  | 0 => .array .int
  | 1 => .array .int
  | 2 => .array .boolean
  | _ => .int
abbrev wsX10 : List Cond := u_ws RX1 TX1 4
theorem nmX1 : ∀ a, a < 4 → ∀ b, b < 4 → a ≠ b → (TX1 a).2.1 ≠ (TX1 b).2.1 := by decide +kernel
theorem tyX1_ok : ∀ k, k < 4 → parseFieldDescriptor (TX1 k).2.2.1 = some (tyX1 k) := by decide +kernel
abbrev cX1_init : ByteArray := prog_3_method_1_code
def yX1_init : MethodName := ⟨RX1, "<init>", "()V"⟩
abbrev cX1_add : ByteArray := prog_3_method_2_code
def yX1_add : MethodName := ⟨RX1, "add", "(IIZ)V"⟩
abbrev cX1_fits : ByteArray := prog_3_method_3_code
def yX1_fits : MethodName := ⟨RX1, "fits", "(II)Z"⟩
def RX2 : String := "DripEars$Lane"
def TX2 : u_T := fun k => match k with
  | 0 => ("DripEars$Lane", "houses", "I", false)
  | 1 => ("DripEars$Lane", "sayings", "I", false)
  | 2 => ("DripEars$Lane", "rains", "I", false)
  | 3 => ("DripEars$Lane", "wall", "[I", true)
  | 4 => ("DripEars$Lane", "kind", "[I", true)
  | 5 => ("DripEars$Lane", "place", "[I", true)
  | 6 => ("DripEars$Lane", "thing", "[I", true)
  | 7 => ("DripEars$Lane", "loud", "[I", true)
  | _ => ("DripEars$Lane", "rain", "[I", true)
def tyX2 : Nat → FieldType := fun k => match k with
  | 0 => .int
  | 1 => .int
  | 2 => .int
  | 3 => .array .int
  | 4 => .array .int
  | 5 => .array .int
  | 6 => .array .int
  | 7 => .array .int
  | _ => .array .int
abbrev wsX20 : List Cond := u_ws RX2 TX2 9
theorem nmX2 : ∀ a, a < 9 → ∀ b, b < 9 → a ≠ b → (TX2 a).2.1 ≠ (TX2 b).2.1 := by decide +kernel
theorem tyX2_ok : ∀ k, k < 9 → parseFieldDescriptor (TX2 k).2.2.1 = some (tyX2 k) := by decide +kernel
abbrev cX2_init : ByteArray := prog_4_method_1_code
def yX2_init : MethodName := ⟨RX2, "<init>", "()V"⟩
abbrev cX2_clear : ByteArray := prog_4_method_2_code
def yX2_clear : MethodName := ⟨RX2, "clear", "()V"⟩
abbrev cX2_take : ByteArray := prog_4_method_3_code
def yX2_take : MethodName := ⟨RX2, "take", "(LDripEars$Lane;)V"⟩
abbrev cX2_hasHouse : ByteArray := prog_4_method_4_code
def yX2_hasHouse : MethodName := ⟨RX2, "hasHouse", "(I)Z"⟩
abbrev cX2_hasNext : ByteArray := prog_4_method_5_code
def yX2_hasNext : MethodName := ⟨RX2, "hasNext", "(I)Z"⟩
abbrev cX2_allHouses : ByteArray := prog_4_method_6_code
def yX2_allHouses : MethodName := ⟨RX2, "allHouses", "()I"⟩
abbrev cX2_hasSaying : ByteArray := prog_4_method_7_code
def yX2_hasSaying : MethodName := ⟨RX2, "hasSaying", "(I)Z"⟩
abbrev cX2_sayingAt : ByteArray := prog_4_method_8_code
def yX2_sayingAt : MethodName := ⟨RX2, "sayingAt", "(I)I"⟩
abbrev cX2_rainAt : ByteArray := prog_4_method_9_code
def yX2_rainAt : MethodName := ⟨RX2, "rainAt", "(I)I"⟩
abbrev cX2_addHouse : ByteArray := prog_4_method_10_code
def yX2_addHouse : MethodName := ⟨RX2, "addHouse", "(II)V"⟩
abbrev cX2_addSaying : ByteArray := prog_4_method_11_code
def yX2_addSaying : MethodName := ⟨RX2, "addSaying", "(III)V"⟩
abbrev cX2_addRain : ByteArray := prog_4_method_12_code
def yX2_addRain : MethodName := ⟨RX2, "addRain", "(I)V"⟩
def RX3 : String := "DripEars$Reader"
def TX3 : u_T := fun k => match k with
  | 0 => ("DripEars$Reader", "draft", "LDripEars$Lane;", true)
  | 1 => ("DripEars$Reader", "figures", "[I", true)
  | 2 => ("DripEars$Reader", "begun", "Z", false)
  | 3 => ("DripEars$Reader", "part", "I", false)
  | _ => ("DripEars$Reader", "figuresRead", "I", false)
def tyX3 : Nat → FieldType := fun k => match k with
  | 0 => .object "DripEars$Lane"
  | 1 => .array .int
  | 2 => .boolean
  | 3 => .int
  | _ => .int
abbrev wsX30 : List Cond := u_ws RX3 TX3 5
theorem nmX3 : ∀ a, a < 5 → ∀ b, b < 5 → a ≠ b → (TX3 a).2.1 ≠ (TX3 b).2.1 := by decide +kernel
theorem tyX3_ok : ∀ k, k < 5 → parseFieldDescriptor (TX3 k).2.2.1 = some (tyX3 k) := by decide +kernel
abbrev cX3_init : ByteArray := prog_5_method_1_code
def yX3_init : MethodName := ⟨RX3, "<init>", "()V"⟩
abbrev cX3_firstFault : ByteArray := prog_5_method_2_code
def yX3_firstFault : MethodName := ⟨RX3, "firstFault", "([II)I"⟩
abbrev cX3_accepts : ByteArray := prog_5_method_3_code
def yX3_accepts : MethodName := ⟨RX3, "accepts", "(I)Z"⟩
abbrev cX3_opensPart : ByteArray := prog_5_method_4_code
def yX3_opensPart : MethodName := ⟨RX3, "opensPart", "(I)Z"⟩
abbrev cX3_figureLimit : ByteArray := prog_5_method_5_code
def yX3_figureLimit : MethodName := ⟨RX3, "figureLimit", "()I"⟩
abbrev cX3_closePartIfWhole : ByteArray := prog_5_method_6_code
def yX3_closePartIfWhole : MethodName := ⟨RX3, "closePartIfWhole", "()V"⟩
def RX4 : String := "DripEars$Scene"
def TX4 : u_T := fun k => match k with
  | 0 => ("DripEars$Scene", "lane", "LDripEars$Lane;", true)
  | 1 => ("DripEars$Scene", "hearer", "[I", true)
  | 2 => ("DripEars$Scene", "knows", "[I", true)
  | 3 => ("DripEars$Scene", "voice", "[I", true)
  | 4 => ("DripEars$Scene", "dry", "I", false)
  | _ => ("DripEars$Scene", "hour", "I", false)
def tyX4 : Nat → FieldType := fun k => match k with
  | 0 => .object "DripEars$Lane"
  | 1 => .array .int
  | 2 => .array .int
  | 3 => .array .int
  | 4 => .int
  | _ => .int
abbrev wsX40 : List Cond := u_ws RX4 TX4 6
theorem nmX4 : ∀ a, a < 6 → ∀ b, b < 6 → a ≠ b → (TX4 a).2.1 ≠ (TX4 b).2.1 := by decide +kernel
theorem tyX4_ok : ∀ k, k < 6 → parseFieldDescriptor (TX4 k).2.2.1 = some (tyX4 k) := by decide +kernel
abbrev cX4_init : ByteArray := prog_6_method_1_code
def yX4_init : MethodName := ⟨RX4, "<init>", "(LDripEars$Lane;)V"⟩
abbrev cX4_begin : ByteArray := prog_6_method_2_code
def yX4_begin : MethodName := ⟨RX4, "begin", "()V"⟩
abbrev cX4_take : ByteArray := prog_6_method_3_code
def yX4_take : MethodName := ⟨RX4, "take", "(LDripEars$Scene;)V"⟩
abbrev cX4_kindAt : ByteArray := prog_6_method_4_code
def yX4_kindAt : MethodName := ⟨RX4, "kindAt", "(I)I"⟩
abbrev cX4_knowsThing : ByteArray := prog_6_method_5_code
def yX4_knowsThing : MethodName := ⟨RX4, "knowsThing", "(II)Z"⟩
abbrev cX4_knownBy : ByteArray := prog_6_method_6_code
def yX4_knownBy : MethodName := ⟨RX4, "knownBy", "(I)I"⟩
abbrev cX4_knowersOf : ByteArray := prog_6_method_7_code
def yX4_knowersOf : MethodName := ⟨RX4, "knowersOf", "(I)I"⟩
abbrev cX4_allKnown : ByteArray := prog_6_method_8_code
def yX4_allKnown : MethodName := ⟨RX4, "allKnown", "()I"⟩
abbrev cX4_areStrayed : ByteArray := prog_6_method_9_code
def yX4_areStrayed : MethodName := ⟨RX4, "areStrayed", "()Z"⟩
abbrev cX4_housesThatHear : ByteArray := prog_6_method_10_code
def yX4_housesThatHear : MethodName := ⟨RX4, "housesThatHear", "()I"⟩
abbrev cX4_housesThatHearBy : ByteArray := prog_6_method_11_code
def yX4_housesThatHearBy : MethodName := ⟨RX4, "housesThatHearBy", "(I)I"⟩
abbrev cX4_passHours : ByteArray := prog_6_method_12_code
def yX4_passHours : MethodName := ⟨RX4, "passHours", "(I)V"⟩
abbrev cX4_passHour : ByteArray := prog_6_method_13_code
def yX4_passHour : MethodName := ⟨RX4, "passHour", "()I"⟩
abbrev cX4_passHourBy : ByteArray := prog_6_method_14_code
def yX4_passHourBy : MethodName := ⟨RX4, "passHourBy", "(I)I"⟩
abbrev cX4_tellAt : ByteArray := prog_6_method_15_code
def yX4_tellAt : MethodName := ⟨RX4, "tellAt", "(II)I"⟩
abbrev cX4_canBeLowered : ByteArray := prog_6_method_16_code
def yX4_canBeLowered : MethodName := ⟨RX4, "canBeLowered", "(I)Z"⟩
abbrev cX4_canBeRaised : ByteArray := prog_6_method_17_code
def yX4_canBeRaised : MethodName := ⟨RX4, "canBeRaised", "(I)Z"⟩
abbrev cX4_tryLowered : ByteArray := prog_6_method_18_code
def yX4_tryLowered : MethodName := ⟨RX4, "tryLowered", "(I)Z"⟩
abbrev cX4_tryRaised : ByteArray := prog_6_method_19_code
def yX4_tryRaised : MethodName := ⟨RX4, "tryRaised", "(I)Z"⟩
abbrev cX4_tryChanged : ByteArray := prog_6_method_20_code
def yX4_tryChanged : MethodName := ⟨RX4, "tryChanged", "(II)Z"⟩
abbrev cX4_tryPlate : ByteArray := prog_6_method_21_code
def yX4_tryPlate : MethodName := ⟨RX4, "tryPlate", "(I)Z"⟩
def RX5 : String := "DripEars"
def TX5 : u_T := fun k => match k with
  | 0 => ("DripEars", "text", "[I", true)
  | 1 => ("DripEars", "letters", "I", false)
  | 2 => ("DripEars", "told", "LDripEars$Lane;", true)
  | 3 => ("DripEars", "reader", "LDripEars$Reader;", true)
  | 4 => ("DripEars", "now", "LDripEars$Scene;", true)
  | 5 => ("DripEars", "trial", "LDripEars$Scene;", true)
  | 6 => ("DripEars", "acts", "LDripEars$Acts;", true)
  | 7 => ("DripEars", "heardSayings", "LDripEars$Heard;", true)
  | 8 => ("DripEars", "kept", "[LDripEars$Scene;", true)
  | 9 => ("DripEars", "isKept", "[Z", true)
  | 10 => ("DripEars", "seedNow", "J", false)
  | 11 => ("DripEars", "doings", "[I", true)
  | 12 => ("DripEars", "lowerings", "[I", true)
  | 13 => ("DripEars", "oneHas", "[I", true)
  | _ => ("DripEars", "otherHas", "[I", true)
def tyX5 : Nat → FieldType := fun k => match k with
  | 0 => .array .int
  | 1 => .int
  | 2 => .object "DripEars$Lane"
  | 3 => .object "DripEars$Reader"
  | 4 => .object "DripEars$Scene"
  | 5 => .object "DripEars$Scene"
  | 6 => .object "DripEars$Acts"
  | 7 => .object "DripEars$Heard"
  | 8 => .array (.object "DripEars$Scene")
  | 9 => .array .boolean
  | 10 => .long
  | 11 => .array .int
  | 12 => .array .int
  | 13 => .array .int
  | _ => .array .int
abbrev wsX50 : List Cond := u_ws RX5 TX5 15
theorem nmX5 : ∀ a, a < 15 → ∀ b, b < 15 → a ≠ b → (TX5 a).2.1 ≠ (TX5 b).2.1 := by decide +kernel
theorem tyX5_ok : ∀ k, k < 15 → parseFieldDescriptor (TX5 k).2.2.1 = some (tyX5 k) := by decide +kernel
abbrev cX5_init : ByteArray := prog_1_method_1_code
def yX5_init : MethodName := ⟨RX5, "<init>", "()V"⟩
abbrev cX5_write : ByteArray := prog_1_method_2_code
def yX5_write : MethodName := ⟨RX5, "write", "(I)I"⟩
abbrev cX5_wipe : ByteArray := prog_1_method_3_code
def yX5_wipe : MethodName := ⟨RX5, "wipe", "()I"⟩
abbrev cX5_fault : ByteArray := prog_1_method_4_code
def yX5_fault : MethodName := ⟨RX5, "fault", "()I"⟩
abbrev cX5_lane : ByteArray := prog_1_method_5_code
def yX5_lane : MethodName := ⟨RX5, "lane", "()I"⟩
abbrev cX5_house : ByteArray := prog_1_method_6_code
def yX5_house : MethodName := ⟨RX5, "house", "(II)I"⟩
abbrev cX5_saying : ByteArray := prog_1_method_7_code
def yX5_saying : MethodName := ⟨RX5, "saying", "(II)I"⟩
abbrev cX5_hour : ByteArray := prog_1_method_8_code
def yX5_hour : MethodName := ⟨RX5, "hour", "()I"⟩
abbrev cX5_lower : ByteArray := prog_1_method_9_code
def yX5_lower : MethodName := ⟨RX5, "lower", "(I)I"⟩
abbrev cX5_raise : ByteArray := prog_1_method_10_code
def yX5_raise : MethodName := ⟨RX5, "raise", "(I)I"⟩
abbrev cX5_change : ByteArray := prog_1_method_11_code
def yX5_change : MethodName := ⟨RX5, "change", "(II)I"⟩
abbrev cX5_plate : ByteArray := prog_1_method_12_code
def yX5_plate : MethodName := ⟨RX5, "plate", "(I)I"⟩
abbrev cX5_undo : ByteArray := prog_1_method_13_code
def yX5_undo : MethodName := ⟨RX5, "undo", "()I"⟩
abbrev cX5_later : ByteArray := prog_1_method_14_code
def yX5_later : MethodName := ⟨RX5, "later", "(II)I"⟩
abbrev cX5_first : ByteArray := prog_1_method_15_code
def yX5_first : MethodName := ⟨RX5, "first", "(II)I"⟩
abbrev cX5_keeps : ByteArray := prog_1_method_16_code
def yX5_keeps : MethodName := ⟨RX5, "keeps", "(IIII)I"⟩
abbrev cX5_tells : ByteArray := prog_1_method_17_code
def yX5_tells : MethodName := ⟨RX5, "tells", "(II)I"⟩
abbrev cX5_judge : ByteArray := prog_1_method_18_code
def yX5_judge : MethodName := ⟨RX5, "judge", "(IJ)I"⟩
abbrev cX5_hear : ByteArray := prog_1_method_19_code
def yX5_hear : MethodName := ⟨RX5, "hear", "(III)I"⟩
abbrev cX5_unhear : ByteArray := prog_1_method_20_code
def yX5_unhear : MethodName := ⟨RX5, "unhear", "()I"⟩
abbrev cX5_ears : ByteArray := prog_1_method_21_code
def yX5_ears : MethodName := ⟨RX5, "ears", "(I)I"⟩
abbrev cX5_share : ByteArray := prog_1_method_22_code
def yX5_share : MethodName := ⟨RX5, "share", "(IZ)I"⟩
abbrev cX5_rests : ByteArray := prog_1_method_23_code
def yX5_rests : MethodName := ⟨RX5, "rests", "(III)I"⟩
abbrev cX5_dries : ByteArray := prog_1_method_24_code
def yX5_dries : MethodName := ⟨RX5, "dries", "(IIIIZ)I"⟩
abbrev cX5_seed : ByteArray := prog_1_method_25_code
def yX5_seed : MethodName := ⟨RX5, "seed", "(J)J"⟩
abbrev cX5_years : ByteArray := prog_1_method_26_code
def yX5_years : MethodName := ⟨RX5, "years", "(I)I"⟩
abbrev cX5_keep : ByteArray := prog_1_method_27_code
def yX5_keep : MethodName := ⟨RX5, "keep", "(I)I"⟩
abbrev cX5_again : ByteArray := prog_1_method_28_code
def yX5_again : MethodName := ⟨RX5, "again", "(I)I"⟩
abbrev cX5_count : ByteArray := prog_1_method_29_code
def yX5_count : MethodName := ⟨RX5, "count", "(I)I"⟩
abbrev cX5_isThing : ByteArray := prog_1_method_30_code
def yX5_isThing : MethodName := ⟨RX5, "isThing", "(I)Z"⟩
abbrev cX5_isFigure : ByteArray := prog_1_method_31_code
def yX5_isFigure : MethodName := ⟨RX5, "isFigure", "(I)Z"⟩
abbrev cX5_isZeroOrOne : ByteArray := prog_1_method_32_code
def yX5_isZeroOrOne : MethodName := ⟨RX5, "isZeroOrOne", "(I)Z"⟩
abbrev cX5_fraction : ByteArray := prog_1_method_33_code
def yX5_fraction : MethodName := ⟨RX5, "fraction", "(IIZ)I"⟩
abbrev cX5_greatestDivisor : ByteArray := prog_1_method_34_code
def yX5_greatestDivisor : MethodName := ⟨RX5, "greatestDivisor", "(II)I"⟩
abbrev cX5_tenToThe : ByteArray := prog_1_method_35_code
def yX5_tenToThe : MethodName := ⟨RX5, "tenToThe", "(I)I"⟩
abbrev cX5_sumOfLowerings : ByteArray := prog_1_method_36_code
def yX5_sumOfLowerings : MethodName := ⟨RX5, "sumOfLowerings", "()I"⟩
abbrev cX5_figuresOfLowerings : ByteArray := prog_1_method_37_code
def yX5_figuresOfLowerings : MethodName := ⟨RX5, "figuresOfLowerings", "()I"⟩
abbrev cX5_fillFewestLowerings : ByteArray := prog_1_method_38_code
def yX5_fillFewestLowerings : MethodName := ⟨RX5, "fillFewestLowerings", "(III)Z"⟩
abbrev cX5_isKeptFrom : ByteArray := prog_1_method_39_code
def yX5_isKeptFrom : MethodName := ⟨RX5, "isKeptFrom", "(III)Z"⟩
abbrev cX5_fillDoings : ByteArray := prog_1_method_40_code
def yX5_fillDoings : MethodName := ⟨RX5, "fillDoings", "(IJ)Z"⟩
abbrev cX5_comesAbout : ByteArray := prog_1_method_41_code
def yX5_comesAbout : MethodName := ⟨RX5, "comesAbout", "(III)Z"⟩
abbrev cX5_fillChoices : ByteArray := prog_1_method_42_code
def yX5_fillChoices : MethodName := ⟨RX5, "fillChoices", "(II)V"⟩
abbrev cX5_weightOf : ByteArray := prog_1_method_43_code
def yX5_weightOf : MethodName := ⟨RX5, "weightOf", "(III)I"⟩
abbrev cX5_knowsBehind : ByteArray := prog_1_method_44_code
def yX5_knowsBehind : MethodName := ⟨RX5, "knowsBehind", "(IIII)Z"⟩
abbrev cX5_doByLot : ByteArray := prog_1_method_45_code
def yX5_doByLot : MethodName := ⟨RX5, "doByLot", "(I)V"⟩
def RX6 : String := "DripEarsModel"
def TX6 : u_T := fun k => match k with
  | 0 => ("DripEarsModel", "houses", "I", false)
  | 1 => ("DripEarsModel", "sayings", "I", false)
  | 2 => ("DripEarsModel", "rains", "I", false)
  | 3 => ("DripEarsModel", "kind", "[I", true)
  | 4 => ("DripEarsModel", "wall", "[I", true)
  | 5 => ("DripEarsModel", "saying", "[I", true)
  | 6 => ("DripEarsModel", "rain", "[I", true)
  | 7 => ("DripEarsModel", "now", "[I", true)
  | 8 => ("DripEarsModel", "readHouse", "[I", true)
  | 9 => ("DripEarsModel", "readSaying", "[I", true)
  | 10 => ("DripEarsModel", "readRain", "[I", true)
  | 11 => ("DripEarsModel", "readHouses", "I", false)
  | 12 => ("DripEarsModel", "readSayings", "I", false)
  | 13 => ("DripEarsModel", "readRains", "I", false)
  | 14 => ("DripEarsModel", "text", "[I", true)
  | 15 => ("DripEarsModel", "length", "I", false)
  | 16 => ("DripEarsModel", "at", "I", false)
  | 17 => ("DripEarsModel", "faultAt", "I", false)
  | 18 => ("DripEarsModel", "acts", "I", false)
  | 19 => ("DripEarsModel", "next", "I", false)
  | 20 => ("DripEarsModel", "row", "[I", true)
  | 21 => ("DripEarsModel", "heard", "I", false)
  | 22 => ("DripEarsModel", "heardLoud", "[I", true)
  | 23 => ("DripEarsModel", "heardRain", "[I", true)
  | 24 => ("DripEarsModel", "heardIs", "[I", true)
  | 25 => ("DripEarsModel", "seed", "J", false)
  | 26 => ("DripEarsModel", "isKept", "[Z", true)
  | _ => ("DripEarsModel", "kept", "[I", true)
def tyX6 : Nat → FieldType := fun k => match k with
  | 0 => .int
  | 1 => .int
  | 2 => .int
  | 3 => .array .int
  | 4 => .array .int
  | 5 => .array .int
  | 6 => .array .int
  | 7 => .array .int
  | 8 => .array .int
  | 9 => .array .int
  | 10 => .array .int
  | 11 => .int
  | 12 => .int
  | 13 => .int
  | 14 => .array .int
  | 15 => .int
  | 16 => .int
  | 17 => .int
  | 18 => .int
  | 19 => .int
  | 20 => .array .int
  | 21 => .int
  | 22 => .array .int
  | 23 => .array .int
  | 24 => .array .int
  | 25 => .long
  | 26 => .array .boolean
  | _ => .array .int
abbrev wsX60 : List Cond := u_ws RX6 TX6 28
theorem nmX6 : ∀ a, a < 28 → ∀ b, b < 28 → a ≠ b → (TX6 a).2.1 ≠ (TX6 b).2.1 := by decide +kernel
theorem tyX6_ok : ∀ k, k < 28 → parseFieldDescriptor (TX6 k).2.2.1 = some (tyX6 k) := by decide +kernel
abbrev cX6_init : ByteArray := prog_8_method_1_code
def yX6_init : MethodName := ⟨RX6, "<init>", "()V"⟩
abbrev cX6_in : ByteArray := prog_8_method_3_code
def yX6_in : MethodName := ⟨RX6, "in", "(JJJ)Z"⟩
abbrev cX6_has : ByteArray := prog_8_method_4_code
def yX6_has : MethodName := ⟨RX6, "has", "(II)Z"⟩
abbrev cX6_ones : ByteArray := prog_8_method_5_code
def yX6_ones : MethodName := ⟨RX6, "ones", "(I)I"⟩
abbrev cX6_write : ByteArray := prog_8_method_6_code
def yX6_write : MethodName := ⟨RX6, "write", "(I)I"⟩
abbrev cX6_wipe : ByteArray := prog_8_method_7_code
def yX6_wipe : MethodName := ⟨RX6, "wipe", "()I"⟩
abbrev cX6_figureUpTo : ByteArray := prog_8_method_8_code
def yX6_figureUpTo : MethodName := ⟨RX6, "figureUpTo", "(I)I"⟩
abbrev cX6_readText : ByteArray := prog_8_method_9_code
def yX6_readText : MethodName := ⟨RX6, "readText", "()I"⟩
abbrev cX6_readPart : ByteArray := prog_8_method_10_code
def yX6_readPart : MethodName := ⟨RX6, "readPart", "(I)V"⟩
abbrev cX6_fault : ByteArray := prog_8_method_11_code
def yX6_fault : MethodName := ⟨RX6, "fault", "()I"⟩
abbrev cX6_lane : ByteArray := prog_8_method_12_code
def yX6_lane : MethodName := ⟨RX6, "lane", "()I"⟩
abbrev cX6_isHouse : ByteArray := prog_8_method_13_code
def yX6_isHouse : MethodName := ⟨RX6, "isHouse", "(I)Z"⟩
abbrev cX6_isThing : ByteArray := prog_8_method_14_code
def yX6_isThing : MethodName := ⟨RX6, "isThing", "(I)Z"⟩
abbrev cX6_rainOn : ByteArray := prog_8_method_15_code
def yX6_rainOn : MethodName := ⟨RX6, "rainOn", "(I)I"⟩
abbrev cX6_sayingOn : ByteArray := prog_8_method_16_code
def yX6_sayingOn : MethodName := ⟨RX6, "sayingOn", "(I)I"⟩
abbrev cX6_earOf : ByteArray := prog_8_method_17_code
def yX6_earOf : MethodName := ⟨RX6, "earOf", "(I)I"⟩
abbrev cX6_isStrayed : ByteArray := prog_8_method_18_code
def yX6_isStrayed : MethodName := ⟨RX6, "isStrayed", "(I)Z"⟩
abbrev cX6_hears : ByteArray := prog_8_method_19_code
def yX6_hears : MethodName := ⟨RX6, "hears", "(IIII)Z"⟩
abbrev cX6_hourBy : ByteArray := prog_8_method_20_code
def yX6_hourBy : MethodName := ⟨RX6, "hourBy", "(II)I"⟩
abbrev cX6_knownOn : ByteArray := prog_8_method_21_code
def yX6_knownOn : MethodName := ⟨RX6, "knownOn", "(I)I"⟩
abbrev cX6_knowsAt : ByteArray := prog_8_method_22_code
def yX6_knowsAt : MethodName := ⟨RX6, "knowsAt", "(II)I"⟩
abbrev cX6_house : ByteArray := prog_8_method_23_code
def yX6_house : MethodName := ⟨RX6, "house", "(II)I"⟩
abbrev cX6_saying : ByteArray := prog_8_method_24_code
def yX6_saying : MethodName := ⟨RX6, "saying", "(II)I"⟩
abbrev cX6_keepAct : ByteArray := prog_8_method_25_code
def yX6_keepAct : MethodName := ⟨RX6, "keepAct", "()V"⟩
abbrev cX6_hour : ByteArray := prog_8_method_26_code
def yX6_hour : MethodName := ⟨RX6, "hour", "()I"⟩
abbrev cX6_lower : ByteArray := prog_8_method_27_code
def yX6_lower : MethodName := ⟨RX6, "lower", "(I)I"⟩
abbrev cX6_raise : ByteArray := prog_8_method_28_code
def yX6_raise : MethodName := ⟨RX6, "raise", "(I)I"⟩
abbrev cX6_changeOn : ByteArray := prog_8_method_29_code
def yX6_changeOn : MethodName := ⟨RX6, "changeOn", "(III)V"⟩
abbrev cX6_change : ByteArray := prog_8_method_30_code
def yX6_change : MethodName := ⟨RX6, "change", "(II)I"⟩
abbrev cX6_plateOn : ByteArray := prog_8_method_31_code
def yX6_plateOn : MethodName := ⟨RX6, "plateOn", "(II)V"⟩
abbrev cX6_plate : ByteArray := prog_8_method_32_code
def yX6_plate : MethodName := ⟨RX6, "plate", "(I)I"⟩
abbrev cX6_undo : ByteArray := prog_8_method_33_code
def yX6_undo : MethodName := ⟨RX6, "undo", "()I"⟩
abbrev cX6_layTrial : ByteArray := prog_8_method_34_code
def yX6_layTrial : MethodName := ⟨RX6, "layTrial", "()V"⟩
abbrev cX6_goOn : ByteArray := prog_8_method_35_code
def yX6_goOn : MethodName := ⟨RX6, "goOn", "(I)V"⟩
abbrev cX6_later : ByteArray := prog_8_method_36_code
def yX6_later : MethodName := ⟨RX6, "later", "(II)I"⟩
abbrev cX6_first : ByteArray := prog_8_method_37_code
def yX6_first : MethodName := ⟨RX6, "first", "(II)I"⟩
abbrev cX6_loweredBy : ByteArray := prog_8_method_38_code
def yX6_loweredBy : MethodName := ⟨RX6, "loweredBy", "(IIII)I"⟩
abbrev cX6_figuresOf : ByteArray := prog_8_method_39_code
def yX6_figuresOf : MethodName := ⟨RX6, "figuresOf", "(I)I"⟩
abbrev cX6_keeps : ByteArray := prog_8_method_40_code
def yX6_keeps : MethodName := ⟨RX6, "keeps", "(IIII)I"⟩
abbrev cX6_knownBy : ByteArray := prog_8_method_41_code
def yX6_knownBy : MethodName := ⟨RX6, "knownBy", "(I)I"⟩
abbrev cX6_tells : ByteArray := prog_8_method_42_code
def yX6_tells : MethodName := ⟨RX6, "tells", "(II)I"⟩
abbrev cX6_tryThing : ByteArray := prog_8_method_43_code
def yX6_tryThing : MethodName := ⟨RX6, "tryThing", "(III)Z"⟩
abbrev cX6_thousandTo : ByteArray := prog_8_method_44_code
def yX6_thousandTo : MethodName := ⟨RX6, "thousandTo", "(I)J"⟩
abbrev cX6_judge : ByteArray := prog_8_method_45_code
def yX6_judge : MethodName := ⟨RX6, "judge", "(IJ)I"⟩
abbrev cX6_hear : ByteArray := prog_8_method_46_code
def yX6_hear : MethodName := ⟨RX6, "hear", "(III)I"⟩
abbrev cX6_unhear : ByteArray := prog_8_method_47_code
def yX6_unhear : MethodName := ⟨RX6, "unhear", "()I"⟩
abbrev cX6_ears : ByteArray := prog_8_method_48_code
def yX6_ears : MethodName := ⟨RX6, "ears", "(I)I"⟩
abbrev cX6_factorial : ByteArray := prog_8_method_49_code
def yX6_factorial : MethodName := ⟨RX6, "factorial", "(I)I"⟩
abbrev cX6_common : ByteArray := prog_8_method_50_code
def yX6_common : MethodName := ⟨RX6, "common", "(II)I"⟩
abbrev cX6_share : ByteArray := prog_8_method_51_code
def yX6_share : MethodName := ⟨RX6, "share", "(IZ)I"⟩
abbrev cX6_gain : ByteArray := prog_8_method_52_code
def yX6_gain : MethodName := ⟨RX6, "gain", "(IIII)I"⟩
abbrev cX6_isRest : ByteArray := prog_8_method_53_code
def yX6_isRest : MethodName := ⟨RX6, "isRest", "(IIII)Z"⟩
abbrev cX6_rests : ByteArray := prog_8_method_54_code
def yX6_rests : MethodName := ⟨RX6, "rests", "(III)I"⟩
abbrev cX6_dries : ByteArray := prog_8_method_55_code
def yX6_dries : MethodName := ⟨RX6, "dries", "(IIIIZ)I"⟩
abbrev cX6_seed : ByteArray := prog_8_method_56_code
def yX6_seed : MethodName := ⟨RX6, "seed", "(J)J"⟩
abbrev cX6_knownTogether : ByteArray := prog_8_method_57_code
def yX6_knownTogether : MethodName := ⟨RX6, "knownTogether", "()I"⟩
abbrev cX6_years : ByteArray := prog_8_method_58_code
def yX6_years : MethodName := ⟨RX6, "years", "(I)I"⟩
abbrev cX6_keep : ByteArray := prog_8_method_59_code
def yX6_keep : MethodName := ⟨RX6, "keep", "(I)I"⟩
abbrev cX6_again : ByteArray := prog_8_method_60_code
def yX6_again : MethodName := ⟨RX6, "again", "(I)I"⟩
abbrev cX6_hearingHouses : ByteArray := prog_8_method_61_code
def yX6_hearingHouses : MethodName := ⟨RX6, "hearingHouses", "()I"⟩
abbrev cX6_count : ByteArray := prog_8_method_62_code
def yX6_count : MethodName := ⟨RX6, "count", "(I)I"⟩
def RJ6 : String := "java/lang/Integer"
def TJ6 : u_T := fun k => match k with
  | _ => ("", "", "", false)
def tyJ6 : Nat → FieldType := fun k => match k with
  | _ => .int
abbrev wsJ60 : List Cond := u_ws RJ6 TJ6 0
theorem nmJ6 : ∀ a, a < 0 → ∀ b, b < 0 → a ≠ b → (TJ6 a).2.1 ≠ (TJ6 b).2.1 := by decide +kernel
theorem tyJ6_ok : ∀ k, k < 0 → parseFieldDescriptor (TJ6 k).2.2.1 = some (tyJ6 k) := by decide +kernel
abbrev cJ6_bitCount_0f7a4 : ByteArray := prog_9_method_49_code
def yJ6_bitCount_0f7a4 : MethodName := ⟨RJ6, "bitCount", "(I)I"⟩
def RJ9 : String := "java/lang/Math"
def TJ9 : u_T := fun k => match k with
  | _ => ("", "", "", false)
def tyJ9 : Nat → FieldType := fun k => match k with
  | _ => .int
abbrev wsJ90 : List Cond := u_ws RJ9 TJ9 0
theorem nmJ9 : ∀ a, a < 0 → ∀ b, b < 0 → a ≠ b → (TJ9 a).2.1 ≠ (TJ9 b).2.1 := by decide +kernel
theorem tyJ9_ok : ∀ k, k < 0 → parseFieldDescriptor (TJ9 k).2.2.1 = some (tyJ9 k) := by decide +kernel
abbrev cJ9_abs_0f7a4 : ByteArray := prog_10_method_59_code
def yJ9_abs_0f7a4 : MethodName := ⟨RJ9, "abs", "(I)I"⟩
abbrev cJ9_min_7cf53 : ByteArray := prog_10_method_69_code
def yJ9_min_7cf53 : MethodName := ⟨RJ9, "min", "(II)I"⟩
def RJ10 : String := "java/lang/System"
def TJ10 : u_T := fun k => match k with
  | _ => ("", "", "", false)
def tyJ10 : Nat → FieldType := fun k => match k with
  | _ => .int
abbrev wsJ100 : List Cond := u_ws RJ10 TJ10 0
theorem nmJ10 : ∀ a, a < 0 → ∀ b, b < 0 → a ≠ b → (TJ10 a).2.1 ≠ (TJ10 b).2.1 := by decide +kernel
theorem tyJ10_ok : ∀ k, k < 0 → parseFieldDescriptor (TJ10 k).2.2.1 = some (tyJ10 k) := by decide +kernel
def RL : String := "DripEarsLaw"
abbrev cL_law : ByteArray := code
def yL_law : MethodName := ⟨RL, "law", "([I)Z"⟩
def wsX4_init : List Cond := .code yX4_init cX4_init 2 none :: ([.methodLink RX4 3 objectInit, .instanceMethod objectInit, .code objectInit ⟨#[0xb1]⟩ 1 none, .arrayClass .int, .fieldLink RX4 9 "DripEars$Scene" "hearer" "[I", .fieldLink RX4 15 "DripEars$Scene" "knows" "[I", .fieldLink RX4 18 "DripEars$Scene" "voice" "[I", .fieldLink RX4 21 "DripEars$Scene" "lane" "LDripEars$Lane;"] ++ wsX40)
def wsX0_init : List Cond := .code yX0_init cX0_init 3 none :: ([.methodLink RX0 3 objectInit, .instanceMethod objectInit, .code objectInit ⟨#[0xb1]⟩ 1 none, .classLink RX0 9 RX4, .fieldLink RX0 11 "DripEars$Acts" "ahead" "[LDripEars$Scene;", .instantiable RX4 6, .initialized RX4, .methodLink RX0 17 yX4_init, .instanceMethod yX4_init, .code yX4_init cX4_init 2 none, .methodLink RX4 3 objectInit, .arrayClass .int, .fieldLink RX4 9 "DripEars$Scene" "hearer" "[I", .fieldLink RX4 15 "DripEars$Scene" "knows" "[I", .fieldLink RX4 18 "DripEars$Scene" "voice" "[I", .fieldLink RX4 21 "DripEars$Scene" "lane" "LDripEars$Lane;"] ++ wsX00 ++ wsX40)
def wsX0_forget : List Cond := .code yX0_forget cX0_forget 1 none :: ([.fieldLink RX0 20 "DripEars$Acts" "oldest" "I", .fieldLink RX0 24 "DripEars$Acts" "size" "I"] ++ wsX00)
def wsX4_take : List Cond := .code yX4_take cX4_take 2 none :: ([.fieldLink RX4 9 "DripEars$Scene" "hearer" "[I", .methodLink RX4 32 arraycopyName, .native arraycopyName, .static arraycopyName, .initialized "java/lang/System", .fieldLink RX4 15 "DripEars$Scene" "knows" "[I", .fieldLink RX4 18 "DripEars$Scene" "voice" "[I", .fieldLink RX4 25 "DripEars$Scene" "dry" "I", .fieldLink RX4 29 "DripEars$Scene" "hour" "I"] ++ wsX40)
def wsX0_note : List Cond := .code yX0_note cX0_note 2 none :: ([.fieldLink RX0 11 "DripEars$Acts" "ahead" "[LDripEars$Scene;", .fieldLink RX0 20 "DripEars$Acts" "oldest" "I", .fieldLink RX0 24 "DripEars$Acts" "size" "I", .methodLink RX0 27 yX4_take, .instanceMethod yX4_take, .selects RX4 yX4_take yX4_take, .initialized RX4, .code yX4_take cX4_take 2 none, .fieldLink RX4 9 "DripEars$Scene" "hearer" "[I", .methodLink RX4 32 arraycopyName, .native arraycopyName, .static arraycopyName, .initialized "java/lang/System", .fieldLink RX4 15 "DripEars$Scene" "knows" "[I", .fieldLink RX4 18 "DripEars$Scene" "voice" "[I", .fieldLink RX4 25 "DripEars$Scene" "dry" "I", .fieldLink RX4 29 "DripEars$Scene" "hour" "I"] ++ wsX00 ++ wsX40)
def wsX0_takeBack : List Cond := .code yX0_takeBack cX0_takeBack 2 none :: ([.fieldLink RX0 24 "DripEars$Acts" "size" "I", .fieldLink RX0 11 "DripEars$Acts" "ahead" "[LDripEars$Scene;", .fieldLink RX0 20 "DripEars$Acts" "oldest" "I", .methodLink RX0 27 yX4_take, .instanceMethod yX4_take, .selects RX4 yX4_take yX4_take, .initialized RX4, .code yX4_take cX4_take 2 none, .fieldLink RX4 9 "DripEars$Scene" "hearer" "[I", .methodLink RX4 32 arraycopyName, .native arraycopyName, .static arraycopyName, .initialized "java/lang/System", .fieldLink RX4 15 "DripEars$Scene" "knows" "[I", .fieldLink RX4 18 "DripEars$Scene" "voice" "[I", .fieldLink RX4 25 "DripEars$Scene" "dry" "I", .fieldLink RX4 29 "DripEars$Scene" "hour" "I"] ++ wsX00 ++ wsX40)
def wsX1_init : List Cond := .code yX1_init cX1_init 1 none :: ([.methodLink RX1 3 objectInit, .instanceMethod objectInit, .code objectInit ⟨#[0xb1]⟩ 1 none, .arrayClass .int, .fieldLink RX1 9 "DripEars$Heard" "loud" "[I", .fieldLink RX1 15 "DripEars$Heard" "rain" "[I", .arrayClass .boolean, .fieldLink RX1 18 "DripEars$Heard" "was" "[Z"] ++ wsX10)
def wsX1_add : List Cond := .code yX1_add cX1_add 4 none :: ([.fieldLink RX1 22 "DripEars$Heard" "size" "I", .fieldLink RX1 9 "DripEars$Heard" "loud" "[I", .fieldLink RX1 15 "DripEars$Heard" "rain" "[I", .fieldLink RX1 18 "DripEars$Heard" "was" "[Z"] ++ wsX10)
def wsX1_fits : List Cond := .code yX1_fits cX1_fits 5 (some .boolean) :: ([.fieldLink RX1 22 "DripEars$Heard" "size" "I", .fieldLink RX1 9 "DripEars$Heard" "loud" "[I", .fieldLink RX1 15 "DripEars$Heard" "rain" "[I", .fieldLink RX1 18 "DripEars$Heard" "was" "[Z"] ++ wsX10)
def wsX2_init : List Cond := .code yX2_init cX2_init 1 none :: ([.methodLink RX2 3 objectInit, .instanceMethod objectInit, .code objectInit ⟨#[0xb1]⟩ 1 none, .arrayClass .int, .fieldLink RX2 9 "DripEars$Lane" "wall" "[I", .fieldLink RX2 15 "DripEars$Lane" "kind" "[I", .fieldLink RX2 18 "DripEars$Lane" "place" "[I", .fieldLink RX2 21 "DripEars$Lane" "thing" "[I", .fieldLink RX2 24 "DripEars$Lane" "loud" "[I", .fieldLink RX2 27 "DripEars$Lane" "rain" "[I"] ++ wsX20)
def wsX2_clear : List Cond := .code yX2_clear cX2_clear 1 none :: ([.fieldLink RX2 30 "DripEars$Lane" "houses" "I", .fieldLink RX2 34 "DripEars$Lane" "sayings" "I", .fieldLink RX2 37 "DripEars$Lane" "rains" "I"] ++ wsX20)
def wsX2_take : List Cond := .code yX2_take cX2_take 2 none :: ([.fieldLink RX2 30 "DripEars$Lane" "houses" "I", .fieldLink RX2 34 "DripEars$Lane" "sayings" "I", .fieldLink RX2 37 "DripEars$Lane" "rains" "I", .fieldLink RX2 9 "DripEars$Lane" "wall" "[I", .methodLink RX2 40 arraycopyName, .native arraycopyName, .static arraycopyName, .initialized "java/lang/System", .fieldLink RX2 15 "DripEars$Lane" "kind" "[I", .fieldLink RX2 18 "DripEars$Lane" "place" "[I", .fieldLink RX2 21 "DripEars$Lane" "thing" "[I", .fieldLink RX2 24 "DripEars$Lane" "loud" "[I", .fieldLink RX2 27 "DripEars$Lane" "rain" "[I"] ++ wsX20)
def wsX2_hasHouse : List Cond := .code yX2_hasHouse cX2_hasHouse 2 (some .boolean) :: ([.fieldLink RX2 30 "DripEars$Lane" "houses" "I"] ++ wsX20)
def wsX2_hasNext : List Cond := .code yX2_hasNext cX2_hasNext 2 (some .boolean) :: ([.fieldLink RX2 30 "DripEars$Lane" "houses" "I"] ++ wsX20)
def wsX2_allHouses : List Cond := .code yX2_allHouses cX2_allHouses 1 (some .int) :: ([.fieldLink RX2 30 "DripEars$Lane" "houses" "I"] ++ wsX20)
def wsX2_hasSaying : List Cond := .code yX2_hasSaying cX2_hasSaying 2 (some .boolean) :: ([.fieldLink RX2 34 "DripEars$Lane" "sayings" "I"] ++ wsX20)
def wsX2_sayingAt : List Cond := .code yX2_sayingAt cX2_sayingAt 2 (some .int) :: ([.fieldLink RX2 34 "DripEars$Lane" "sayings" "I"] ++ wsX20)
def wsX2_rainAt : List Cond := .code yX2_rainAt cX2_rainAt 2 (some .int) :: ([.fieldLink RX2 37 "DripEars$Lane" "rains" "I", .fieldLink RX2 27 "DripEars$Lane" "rain" "[I"] ++ wsX20)
def wsX2_addHouse : List Cond := .code yX2_addHouse cX2_addHouse 3 none :: ([.fieldLink RX2 30 "DripEars$Lane" "houses" "I", .fieldLink RX2 15 "DripEars$Lane" "kind" "[I", .fieldLink RX2 9 "DripEars$Lane" "wall" "[I"] ++ wsX20)
def wsX2_addSaying : List Cond := .code yX2_addSaying cX2_addSaying 4 none :: ([.fieldLink RX2 34 "DripEars$Lane" "sayings" "I", .fieldLink RX2 18 "DripEars$Lane" "place" "[I", .fieldLink RX2 21 "DripEars$Lane" "thing" "[I", .fieldLink RX2 24 "DripEars$Lane" "loud" "[I"] ++ wsX20)
def wsX2_addRain : List Cond := .code yX2_addRain cX2_addRain 2 none :: ([.fieldLink RX2 37 "DripEars$Lane" "rains" "I", .fieldLink RX2 27 "DripEars$Lane" "rain" "[I"] ++ wsX20)
def wsX3_init : List Cond := .code yX3_init cX3_init 1 none :: ([.methodLink RX3 3 objectInit, .instanceMethod objectInit, .code objectInit ⟨#[0xb1]⟩ 1 none, .classLink RX3 9 RX2, .instantiable RX2 9, .initialized RX2, .fieldLink RX3 12 "DripEars$Reader" "draft" "LDripEars$Lane;", .arrayClass .int, .fieldLink RX3 18 "DripEars$Reader" "figures" "[I", .instanceMethod yX2_init, .code yX2_init cX2_init 1 none, .methodLink RX2 3 objectInit, .fieldLink RX2 9 "DripEars$Lane" "wall" "[I", .fieldLink RX2 15 "DripEars$Lane" "kind" "[I", .fieldLink RX2 18 "DripEars$Lane" "place" "[I", .fieldLink RX2 21 "DripEars$Lane" "thing" "[I", .fieldLink RX2 24 "DripEars$Lane" "loud" "[I", .fieldLink RX2 27 "DripEars$Lane" "rain" "[I"] ++ wsX20 ++ wsX30)
def wsX3_opensPart : List Cond := .code yX3_opensPart cX3_opensPart 3 (some .boolean) :: ([.fieldLink RX3 12 "DripEars$Reader" "draft" "LDripEars$Lane;", .fieldLink RX3 50 "DripEars$Lane" "houses" "I", .fieldLink RX3 53 "DripEars$Lane" "sayings" "I", .fieldLink RX3 56 "DripEars$Lane" "rains" "I", .fieldLink RX3 29 "DripEars$Reader" "part" "I", .fieldLink RX3 44 "DripEars$Reader" "figuresRead" "I"] ++ wsX30 ++ wsX20)
def wsX3_figureLimit : List Cond := .code yX3_figureLimit cX3_figureLimit 1 (some .int) :: ([.fieldLink RX3 29 "DripEars$Reader" "part" "I", .fieldLink RX3 44 "DripEars$Reader" "figuresRead" "I", .fieldLink RX3 12 "DripEars$Reader" "draft" "LDripEars$Lane;", .fieldLink RX3 50 "DripEars$Lane" "houses" "I"] ++ wsX30 ++ wsX20)
def wsX3_closePartIfWhole_r1 : List Cond := [Cond.fieldLink RX3 29 "DripEars$Reader" "part" "I", Cond.fieldLink RX3 44 "DripEars$Reader" "figuresRead" "I", Cond.fieldLink RX3 12 "DripEars$Reader" "draft" "LDripEars$Lane;", Cond.fieldLink RX3 18 "DripEars$Reader" "figures" "[I", Cond.methodLink RX3 59 yX2_addHouse, Cond.instanceMethod yX2_addHouse, Cond.selects RX2 yX2_addHouse yX2_addHouse, Cond.initialized RX2, Cond.code yX2_addHouse cX2_addHouse 3 none, Cond.fieldLink RX2 30 "DripEars$Lane" "houses" "I", Cond.fieldLink RX2 15 "DripEars$Lane" "kind" "[I", Cond.fieldLink RX2 9 "DripEars$Lane" "wall" "[I", Cond.methodLink RX3 63 yX2_addSaying, Cond.instanceMethod yX2_addSaying, Cond.selects RX2 yX2_addSaying yX2_addSaying, Cond.code yX2_addSaying cX2_addSaying 4 none, Cond.fieldLink RX2 34 "DripEars$Lane" "sayings" "I", Cond.fieldLink RX2 18 "DripEars$Lane" "place" "[I", Cond.fieldLink RX2 21 "DripEars$Lane" "thing" "[I", Cond.fieldLink RX2 24 "DripEars$Lane" "loud" "[I", Cond.methodLink RX3 67 yX2_addRain, Cond.instanceMethod yX2_addRain, Cond.selects RX2 yX2_addRain yX2_addRain, Cond.code yX2_addRain cX2_addRain 2 none]
def wsX3_closePartIfWhole_r2 : List Cond := [Cond.fieldLink RX2 37 "DripEars$Lane" "rains" "I", Cond.fieldLink RX2 27 "DripEars$Lane" "rain" "[I"]
def wsX3_closePartIfWhole : List Cond := .code yX3_closePartIfWhole cX3_closePartIfWhole 1 none :: ((wsX3_closePartIfWhole_r1 ++ wsX3_closePartIfWhole_r2) ++ wsX30 ++ wsX20)
def wsX3_accepts_r1 : List Cond := [Cond.fieldLink RX3 25 "DripEars$Reader" "begun" "Z", Cond.fieldLink RX3 29 "DripEars$Reader" "part" "I", Cond.fieldLink RX3 44 "DripEars$Reader" "figuresRead" "I", Cond.fieldLink RX3 18 "DripEars$Reader" "figures" "[I", Cond.methodLink RX3 37 yX3_opensPart, Cond.instanceMethod yX3_opensPart, Cond.selects RX3 yX3_opensPart yX3_opensPart, Cond.initialized RX3, Cond.code yX3_opensPart cX3_opensPart 3 (some .boolean), Cond.fieldLink RX3 12 "DripEars$Reader" "draft" "LDripEars$Lane;", Cond.fieldLink RX3 50 "DripEars$Lane" "houses" "I", Cond.fieldLink RX3 53 "DripEars$Lane" "sayings" "I", Cond.fieldLink RX3 56 "DripEars$Lane" "rains" "I", Cond.methodLink RX3 40 yX3_figureLimit, Cond.instanceMethod yX3_figureLimit, Cond.selects RX3 yX3_figureLimit yX3_figureLimit, Cond.code yX3_figureLimit cX3_figureLimit 1 (some .int), Cond.methodLink RX3 47 yX3_closePartIfWhole, Cond.instanceMethod yX3_closePartIfWhole, Cond.selects RX3 yX3_closePartIfWhole yX3_closePartIfWhole, Cond.code yX3_closePartIfWhole cX3_closePartIfWhole 1 none, Cond.methodLink RX3 59 yX2_addHouse, Cond.instanceMethod yX2_addHouse, Cond.selects RX2 yX2_addHouse yX2_addHouse]
def wsX3_accepts_r2 : List Cond := [Cond.initialized RX2, Cond.code yX2_addHouse cX2_addHouse 3 none, Cond.fieldLink RX2 30 "DripEars$Lane" "houses" "I", Cond.fieldLink RX2 15 "DripEars$Lane" "kind" "[I", Cond.fieldLink RX2 9 "DripEars$Lane" "wall" "[I", Cond.methodLink RX3 63 yX2_addSaying, Cond.instanceMethod yX2_addSaying, Cond.selects RX2 yX2_addSaying yX2_addSaying, Cond.code yX2_addSaying cX2_addSaying 4 none, Cond.fieldLink RX2 34 "DripEars$Lane" "sayings" "I", Cond.fieldLink RX2 18 "DripEars$Lane" "place" "[I", Cond.fieldLink RX2 21 "DripEars$Lane" "thing" "[I", Cond.fieldLink RX2 24 "DripEars$Lane" "loud" "[I", Cond.methodLink RX3 67 yX2_addRain, Cond.instanceMethod yX2_addRain, Cond.selects RX2 yX2_addRain yX2_addRain, Cond.code yX2_addRain cX2_addRain 2 none, Cond.fieldLink RX2 37 "DripEars$Lane" "rains" "I", Cond.fieldLink RX2 27 "DripEars$Lane" "rain" "[I"]
def wsX3_accepts : List Cond := .code yX3_accepts cX3_accepts 3 (some .boolean) :: ((wsX3_accepts_r1 ++ wsX3_accepts_r2) ++ wsX30 ++ wsX20)
def wsX3_firstFault_r1 : List Cond := [Cond.fieldLink RX3 12 "DripEars$Reader" "draft" "LDripEars$Lane;", Cond.fieldLink RX3 25 "DripEars$Reader" "begun" "Z", Cond.fieldLink RX3 29 "DripEars$Reader" "part" "I", Cond.methodLink RX3 22 yX2_clear, Cond.instanceMethod yX2_clear, Cond.selects RX2 yX2_clear yX2_clear, Cond.initialized RX2, Cond.code yX2_clear cX2_clear 1 none, Cond.fieldLink RX2 30 "DripEars$Lane" "houses" "I", Cond.fieldLink RX2 34 "DripEars$Lane" "sayings" "I", Cond.fieldLink RX2 37 "DripEars$Lane" "rains" "I", Cond.methodLink RX3 33 yX3_accepts, Cond.instanceMethod yX3_accepts, Cond.selects RX3 yX3_accepts yX3_accepts, Cond.initialized RX3, Cond.code yX3_accepts cX3_accepts 3 (some .boolean), Cond.fieldLink RX3 44 "DripEars$Reader" "figuresRead" "I", Cond.fieldLink RX3 18 "DripEars$Reader" "figures" "[I", Cond.methodLink RX3 37 yX3_opensPart, Cond.instanceMethod yX3_opensPart, Cond.selects RX3 yX3_opensPart yX3_opensPart, Cond.code yX3_opensPart cX3_opensPart 3 (some .boolean), Cond.fieldLink RX3 50 "DripEars$Lane" "houses" "I", Cond.fieldLink RX3 53 "DripEars$Lane" "sayings" "I"]
def wsX3_firstFault_r2 : List Cond := [Cond.fieldLink RX3 56 "DripEars$Lane" "rains" "I", Cond.methodLink RX3 40 yX3_figureLimit, Cond.instanceMethod yX3_figureLimit, Cond.selects RX3 yX3_figureLimit yX3_figureLimit, Cond.code yX3_figureLimit cX3_figureLimit 1 (some .int), Cond.methodLink RX3 47 yX3_closePartIfWhole, Cond.instanceMethod yX3_closePartIfWhole, Cond.selects RX3 yX3_closePartIfWhole yX3_closePartIfWhole, Cond.code yX3_closePartIfWhole cX3_closePartIfWhole 1 none, Cond.methodLink RX3 59 yX2_addHouse, Cond.instanceMethod yX2_addHouse, Cond.selects RX2 yX2_addHouse yX2_addHouse, Cond.code yX2_addHouse cX2_addHouse 3 none, Cond.fieldLink RX2 15 "DripEars$Lane" "kind" "[I", Cond.fieldLink RX2 9 "DripEars$Lane" "wall" "[I", Cond.methodLink RX3 63 yX2_addSaying, Cond.instanceMethod yX2_addSaying, Cond.selects RX2 yX2_addSaying yX2_addSaying, Cond.code yX2_addSaying cX2_addSaying 4 none, Cond.fieldLink RX2 18 "DripEars$Lane" "place" "[I", Cond.fieldLink RX2 21 "DripEars$Lane" "thing" "[I", Cond.fieldLink RX2 24 "DripEars$Lane" "loud" "[I", Cond.methodLink RX3 67 yX2_addRain, Cond.instanceMethod yX2_addRain]
def wsX3_firstFault_r3 : List Cond := [Cond.selects RX2 yX2_addRain yX2_addRain, Cond.code yX2_addRain cX2_addRain 2 none, Cond.fieldLink RX2 27 "DripEars$Lane" "rain" "[I"]
def wsX3_firstFault : List Cond := .code yX3_firstFault cX3_firstFault 4 (some .int) :: ((wsX3_firstFault_r1 ++ (wsX3_firstFault_r2 ++ wsX3_firstFault_r3)) ++ wsX30 ++ wsX20)
def wsX4_begin : List Cond := .code yX4_begin cX4_begin 2 none :: ([.fieldLink RX4 9 "DripEars$Scene" "hearer" "[I", .fieldLink RX4 15 "DripEars$Scene" "knows" "[I", .fieldLink RX4 18 "DripEars$Scene" "voice" "[I", .fieldLink RX4 25 "DripEars$Scene" "dry" "I", .fieldLink RX4 29 "DripEars$Scene" "hour" "I"] ++ wsX40)
def wsX4_kindAt : List Cond := .code yX4_kindAt cX4_kindAt 2 (some .int) :: ([.fieldLink RX4 21 "DripEars$Scene" "lane" "LDripEars$Lane;", .fieldLink RX4 38 "DripEars$Lane" "kind" "[I", .fieldLink RX4 9 "DripEars$Scene" "hearer" "[I"] ++ wsX40 ++ wsX20)
def wsX4_knowsThing : List Cond := .code yX4_knowsThing cX4_knowsThing 3 (some .boolean) :: ([.fieldLink RX4 15 "DripEars$Scene" "knows" "[I"] ++ wsX40)
def wsX4_knownBy : List Cond := .code yX4_knownBy cX4_knownBy 4 (some .int) :: ([.fieldLink RX4 21 "DripEars$Scene" "lane" "LDripEars$Lane;", .fieldLink RX4 43 "DripEars$Lane" "houses" "I", .fieldLink RX4 15 "DripEars$Scene" "knows" "[I"] ++ wsX40 ++ wsX20)
def wsX4_knowersOf : List Cond := .code yX4_knowersOf cX4_knowersOf 4 (some .int) :: ([.fieldLink RX4 21 "DripEars$Scene" "lane" "LDripEars$Lane;", .fieldLink RX4 43 "DripEars$Lane" "houses" "I", .fieldLink RX4 15 "DripEars$Scene" "knows" "[I"] ++ wsX40 ++ wsX20)
def wsJ6_bitCount_0f7a4 : List Cond := .code yJ6_bitCount_0f7a4 cJ6_bitCount_0f7a4 1 (some .int) :: ([.constant RJ6 265 (1431655765), .constant RJ6 266 (858993459), .constant RJ6 267 (252645135)])
def wsX4_allKnown : List Cond := .code yX4_allKnown cX4_allKnown 3 (some .int) :: ([.fieldLink RX4 21 "DripEars$Scene" "lane" "LDripEars$Lane;", .fieldLink RX4 43 "DripEars$Lane" "houses" "I", .fieldLink RX4 15 "DripEars$Scene" "knows" "[I", .methodLink RX4 46 yJ6_bitCount_0f7a4, .static yJ6_bitCount_0f7a4, .initialized RJ6, .code yJ6_bitCount_0f7a4 cJ6_bitCount_0f7a4 1 (some .int), .constant RJ6 265 (1431655765), .constant RJ6 266 (858993459), .constant RJ6 267 (252645135)] ++ wsX40 ++ wsX20)
def wsX4_areStrayed : List Cond := .code yX4_areStrayed cX4_areStrayed 1 (some .boolean) :: ([.fieldLink RX4 25 "DripEars$Scene" "dry" "I"] ++ wsX40)
def wsX4_housesThatHearBy_r1 : List Cond := [Cond.fieldLink RX4 21 "DripEars$Scene" "lane" "LDripEars$Lane;", Cond.fieldLink RX4 29 "DripEars$Scene" "hour" "I", Cond.fieldLink RX4 69 "DripEars$Lane" "place" "[I", Cond.fieldLink RX4 72 "DripEars$Lane" "loud" "[I", Cond.fieldLink RX4 18 "DripEars$Scene" "voice" "[I", Cond.fieldLink RX4 75 "DripEars$Lane" "wall" "[I", Cond.fieldLink RX4 43 "DripEars$Lane" "houses" "I", Cond.fieldLink RX4 38 "DripEars$Lane" "kind" "[I", Cond.fieldLink RX4 9 "DripEars$Scene" "hearer" "[I", Cond.methodLink RX4 78 Lib.Math.abs.name, Cond.static Lib.Math.abs.name, Cond.initialized "java/lang/Math", Cond.code Lib.Math.abs.name Lib.Math.abs.code 1 (some .int), Cond.methodLink RX4 58 yX2_sayingAt, Cond.instanceMethod yX2_sayingAt, Cond.selects RX2 yX2_sayingAt yX2_sayingAt, Cond.initialized RX2, Cond.code yX2_sayingAt cX2_sayingAt 2 (some .int), Cond.fieldLink RX2 34 "DripEars$Lane" "sayings" "I", Cond.methodLink RX4 61 yX4_areStrayed, Cond.instanceMethod yX4_areStrayed, Cond.selects RX4 yX4_areStrayed yX4_areStrayed, Cond.initialized RX4, Cond.code yX4_areStrayed cX4_areStrayed 1 (some .boolean)]
def wsX4_housesThatHearBy_r2 : List Cond := [Cond.fieldLink RX4 25 "DripEars$Scene" "dry" "I", Cond.methodLink RX4 65 yX2_hasSaying, Cond.instanceMethod yX2_hasSaying, Cond.selects RX2 yX2_hasSaying yX2_hasSaying, Cond.code yX2_hasSaying cX2_hasSaying 2 (some .boolean)]
def wsX4_housesThatHearBy : List Cond := .code yX4_housesThatHearBy cX4_housesThatHearBy 10 (some .int) :: ((wsX4_housesThatHearBy_r1 ++ wsX4_housesThatHearBy_r2) ++ wsX40 ++ wsX20)
def wsX4_housesThatHear_r1 : List Cond := [Cond.fieldLink RX4 21 "DripEars$Scene" "lane" "LDripEars$Lane;", Cond.fieldLink RX4 29 "DripEars$Scene" "hour" "I", Cond.methodLink RX4 52 yX2_rainAt, Cond.instanceMethod yX2_rainAt, Cond.selects RX2 yX2_rainAt yX2_rainAt, Cond.initialized RX2, Cond.code yX2_rainAt cX2_rainAt 2 (some .int), Cond.fieldLink RX2 37 "DripEars$Lane" "rains" "I", Cond.fieldLink RX2 27 "DripEars$Lane" "rain" "[I", Cond.methodLink RX4 55 yX4_housesThatHearBy, Cond.instanceMethod yX4_housesThatHearBy, Cond.selects RX4 yX4_housesThatHearBy yX4_housesThatHearBy, Cond.initialized RX4, Cond.code yX4_housesThatHearBy cX4_housesThatHearBy 10 (some .int), Cond.fieldLink RX4 69 "DripEars$Lane" "place" "[I", Cond.fieldLink RX4 72 "DripEars$Lane" "loud" "[I", Cond.fieldLink RX4 18 "DripEars$Scene" "voice" "[I", Cond.fieldLink RX4 75 "DripEars$Lane" "wall" "[I", Cond.fieldLink RX4 43 "DripEars$Lane" "houses" "I", Cond.fieldLink RX4 38 "DripEars$Lane" "kind" "[I", Cond.fieldLink RX4 9 "DripEars$Scene" "hearer" "[I", Cond.methodLink RX4 78 Lib.Math.abs.name, Cond.static Lib.Math.abs.name, Cond.initialized "java/lang/Math"]
def wsX4_housesThatHear_r2 : List Cond := [Cond.code Lib.Math.abs.name Lib.Math.abs.code 1 (some .int), Cond.methodLink RX4 58 yX2_sayingAt, Cond.instanceMethod yX2_sayingAt, Cond.selects RX2 yX2_sayingAt yX2_sayingAt, Cond.code yX2_sayingAt cX2_sayingAt 2 (some .int), Cond.fieldLink RX2 34 "DripEars$Lane" "sayings" "I", Cond.methodLink RX4 61 yX4_areStrayed, Cond.instanceMethod yX4_areStrayed, Cond.selects RX4 yX4_areStrayed yX4_areStrayed, Cond.code yX4_areStrayed cX4_areStrayed 1 (some .boolean), Cond.fieldLink RX4 25 "DripEars$Scene" "dry" "I", Cond.methodLink RX4 65 yX2_hasSaying, Cond.instanceMethod yX2_hasSaying, Cond.selects RX2 yX2_hasSaying yX2_hasSaying, Cond.code yX2_hasSaying cX2_hasSaying 2 (some .boolean)]
def wsX4_housesThatHear : List Cond := .code yX4_housesThatHear cX4_housesThatHear 1 (some .int) :: ((wsX4_housesThatHear_r1 ++ wsX4_housesThatHear_r2) ++ wsX40 ++ wsX20)
def wsX4_tellAt : List Cond := .code yX4_tellAt cX4_tellAt 5 (some .int) :: ([.fieldLink RX4 21 "DripEars$Scene" "lane" "LDripEars$Lane;", .fieldLink RX4 43 "DripEars$Lane" "houses" "I", .fieldLink RX4 15 "DripEars$Scene" "knows" "[I"] ++ wsX40 ++ wsX20)
def wsX4_passHourBy_r1 : List Cond := [Cond.fieldLink RX4 21 "DripEars$Scene" "lane" "LDripEars$Lane;", Cond.fieldLink RX4 29 "DripEars$Scene" "hour" "I", Cond.fieldLink RX4 89 "DripEars$Lane" "thing" "[I", Cond.fieldLink RX4 25 "DripEars$Scene" "dry" "I", Cond.methodLink RX4 96 Lib.Math.min.name, Cond.static Lib.Math.min.name, Cond.initialized "java/lang/Math", Cond.code Lib.Math.min.name Lib.Math.min.code 2 (some .int), Cond.methodLink RX4 58 yX2_sayingAt, Cond.instanceMethod yX2_sayingAt, Cond.selects RX2 yX2_sayingAt yX2_sayingAt, Cond.initialized RX2, Cond.code yX2_sayingAt cX2_sayingAt 2 (some .int), Cond.fieldLink RX2 34 "DripEars$Lane" "sayings" "I", Cond.methodLink RX4 65 yX2_hasSaying, Cond.instanceMethod yX2_hasSaying, Cond.selects RX2 yX2_hasSaying yX2_hasSaying, Cond.code yX2_hasSaying cX2_hasSaying 2 (some .boolean), Cond.methodLink RX4 55 yX4_housesThatHearBy, Cond.instanceMethod yX4_housesThatHearBy, Cond.selects RX4 yX4_housesThatHearBy yX4_housesThatHearBy, Cond.initialized RX4, Cond.code yX4_housesThatHearBy cX4_housesThatHearBy 10 (some .int), Cond.fieldLink RX4 69 "DripEars$Lane" "place" "[I"]
def wsX4_passHourBy_r2 : List Cond := [Cond.fieldLink RX4 72 "DripEars$Lane" "loud" "[I", Cond.fieldLink RX4 18 "DripEars$Scene" "voice" "[I", Cond.fieldLink RX4 75 "DripEars$Lane" "wall" "[I", Cond.fieldLink RX4 43 "DripEars$Lane" "houses" "I", Cond.fieldLink RX4 38 "DripEars$Lane" "kind" "[I", Cond.fieldLink RX4 9 "DripEars$Scene" "hearer" "[I", Cond.methodLink RX4 78 Lib.Math.abs.name, Cond.static Lib.Math.abs.name, Cond.code Lib.Math.abs.name Lib.Math.abs.code 1 (some .int), Cond.methodLink RX4 61 yX4_areStrayed, Cond.instanceMethod yX4_areStrayed, Cond.selects RX4 yX4_areStrayed yX4_areStrayed, Cond.code yX4_areStrayed cX4_areStrayed 1 (some .boolean), Cond.methodLink RX4 92 yX4_tellAt, Cond.instanceMethod yX4_tellAt, Cond.selects RX4 yX4_tellAt yX4_tellAt, Cond.code yX4_tellAt cX4_tellAt 5 (some .int), Cond.fieldLink RX4 15 "DripEars$Scene" "knows" "[I", Cond.methodLink RX4 99 yX2_allHouses, Cond.instanceMethod yX2_allHouses, Cond.selects RX2 yX2_allHouses yX2_allHouses, Cond.code yX2_allHouses cX2_allHouses 1 (some .int), Cond.fieldLink RX2 30 "DripEars$Lane" "houses" "I", Cond.methodLink RX4 103 yX4_knownBy]
def wsX4_passHourBy_r3 : List Cond := [Cond.instanceMethod yX4_knownBy, Cond.selects RX4 yX4_knownBy yX4_knownBy, Cond.code yX4_knownBy cX4_knownBy 4 (some .int), Cond.methodLink RX4 46 yJ6_bitCount_0f7a4, Cond.static yJ6_bitCount_0f7a4, Cond.initialized RJ6, Cond.code yJ6_bitCount_0f7a4 cJ6_bitCount_0f7a4 1 (some .int), Cond.constant RJ6 265 (1431655765), Cond.constant RJ6 266 (858993459), Cond.constant RJ6 267 (252645135)]
def wsX4_passHourBy : List Cond := .code yX4_passHourBy cX4_passHourBy 5 (some .int) :: ((wsX4_passHourBy_r1 ++ (wsX4_passHourBy_r2 ++ wsX4_passHourBy_r3)) ++ wsX40 ++ wsX20)
def wsX4_passHours_r1 : List Cond := [Cond.fieldLink RX4 21 "DripEars$Scene" "lane" "LDripEars$Lane;", Cond.fieldLink RX4 29 "DripEars$Scene" "hour" "I", Cond.methodLink RX4 52 yX2_rainAt, Cond.instanceMethod yX2_rainAt, Cond.selects RX2 yX2_rainAt yX2_rainAt, Cond.initialized RX2, Cond.code yX2_rainAt cX2_rainAt 2 (some .int), Cond.fieldLink RX2 37 "DripEars$Lane" "rains" "I", Cond.fieldLink RX2 27 "DripEars$Lane" "rain" "[I", Cond.methodLink RX4 86 yX4_passHourBy, Cond.instanceMethod yX4_passHourBy, Cond.selects RX4 yX4_passHourBy yX4_passHourBy, Cond.initialized RX4, Cond.code yX4_passHourBy cX4_passHourBy 5 (some .int), Cond.fieldLink RX4 89 "DripEars$Lane" "thing" "[I", Cond.fieldLink RX4 25 "DripEars$Scene" "dry" "I", Cond.methodLink RX4 96 Lib.Math.min.name, Cond.static Lib.Math.min.name, Cond.initialized "java/lang/Math", Cond.code Lib.Math.min.name Lib.Math.min.code 2 (some .int), Cond.methodLink RX4 58 yX2_sayingAt, Cond.instanceMethod yX2_sayingAt, Cond.selects RX2 yX2_sayingAt yX2_sayingAt, Cond.code yX2_sayingAt cX2_sayingAt 2 (some .int)]
def wsX4_passHours_r2 : List Cond := [Cond.fieldLink RX2 34 "DripEars$Lane" "sayings" "I", Cond.methodLink RX4 65 yX2_hasSaying, Cond.instanceMethod yX2_hasSaying, Cond.selects RX2 yX2_hasSaying yX2_hasSaying, Cond.code yX2_hasSaying cX2_hasSaying 2 (some .boolean), Cond.methodLink RX4 55 yX4_housesThatHearBy, Cond.instanceMethod yX4_housesThatHearBy, Cond.selects RX4 yX4_housesThatHearBy yX4_housesThatHearBy, Cond.code yX4_housesThatHearBy cX4_housesThatHearBy 10 (some .int), Cond.fieldLink RX4 69 "DripEars$Lane" "place" "[I", Cond.fieldLink RX4 72 "DripEars$Lane" "loud" "[I", Cond.fieldLink RX4 18 "DripEars$Scene" "voice" "[I", Cond.fieldLink RX4 75 "DripEars$Lane" "wall" "[I", Cond.fieldLink RX4 43 "DripEars$Lane" "houses" "I", Cond.fieldLink RX4 38 "DripEars$Lane" "kind" "[I", Cond.fieldLink RX4 9 "DripEars$Scene" "hearer" "[I", Cond.methodLink RX4 78 Lib.Math.abs.name, Cond.static Lib.Math.abs.name, Cond.code Lib.Math.abs.name Lib.Math.abs.code 1 (some .int), Cond.methodLink RX4 61 yX4_areStrayed, Cond.instanceMethod yX4_areStrayed, Cond.selects RX4 yX4_areStrayed yX4_areStrayed, Cond.code yX4_areStrayed cX4_areStrayed 1 (some .boolean), Cond.methodLink RX4 92 yX4_tellAt]
def wsX4_passHours_r3 : List Cond := [Cond.instanceMethod yX4_tellAt, Cond.selects RX4 yX4_tellAt yX4_tellAt, Cond.code yX4_tellAt cX4_tellAt 5 (some .int), Cond.fieldLink RX4 15 "DripEars$Scene" "knows" "[I", Cond.methodLink RX4 99 yX2_allHouses, Cond.instanceMethod yX2_allHouses, Cond.selects RX2 yX2_allHouses yX2_allHouses, Cond.code yX2_allHouses cX2_allHouses 1 (some .int), Cond.fieldLink RX2 30 "DripEars$Lane" "houses" "I", Cond.methodLink RX4 103 yX4_knownBy, Cond.instanceMethod yX4_knownBy, Cond.selects RX4 yX4_knownBy yX4_knownBy, Cond.code yX4_knownBy cX4_knownBy 4 (some .int), Cond.methodLink RX4 46 yJ6_bitCount_0f7a4, Cond.static yJ6_bitCount_0f7a4, Cond.initialized RJ6, Cond.code yJ6_bitCount_0f7a4 cJ6_bitCount_0f7a4 1 (some .int), Cond.constant RJ6 265 (1431655765), Cond.constant RJ6 266 (858993459), Cond.constant RJ6 267 (252645135)]
def wsX4_passHours : List Cond := .code yX4_passHours cX4_passHours 3 none :: ((wsX4_passHours_r1 ++ (wsX4_passHours_r2 ++ wsX4_passHours_r3)) ++ wsX40 ++ wsX20)
def wsX4_passHour_r1 : List Cond := [Cond.fieldLink RX4 21 "DripEars$Scene" "lane" "LDripEars$Lane;", Cond.fieldLink RX4 29 "DripEars$Scene" "hour" "I", Cond.methodLink RX4 52 yX2_rainAt, Cond.instanceMethod yX2_rainAt, Cond.selects RX2 yX2_rainAt yX2_rainAt, Cond.initialized RX2, Cond.code yX2_rainAt cX2_rainAt 2 (some .int), Cond.fieldLink RX2 37 "DripEars$Lane" "rains" "I", Cond.fieldLink RX2 27 "DripEars$Lane" "rain" "[I", Cond.methodLink RX4 86 yX4_passHourBy, Cond.instanceMethod yX4_passHourBy, Cond.selects RX4 yX4_passHourBy yX4_passHourBy, Cond.initialized RX4, Cond.code yX4_passHourBy cX4_passHourBy 5 (some .int), Cond.fieldLink RX4 89 "DripEars$Lane" "thing" "[I", Cond.fieldLink RX4 25 "DripEars$Scene" "dry" "I", Cond.methodLink RX4 96 Lib.Math.min.name, Cond.static Lib.Math.min.name, Cond.initialized "java/lang/Math", Cond.code Lib.Math.min.name Lib.Math.min.code 2 (some .int), Cond.methodLink RX4 58 yX2_sayingAt, Cond.instanceMethod yX2_sayingAt, Cond.selects RX2 yX2_sayingAt yX2_sayingAt, Cond.code yX2_sayingAt cX2_sayingAt 2 (some .int)]
def wsX4_passHour_r2 : List Cond := [Cond.fieldLink RX2 34 "DripEars$Lane" "sayings" "I", Cond.methodLink RX4 65 yX2_hasSaying, Cond.instanceMethod yX2_hasSaying, Cond.selects RX2 yX2_hasSaying yX2_hasSaying, Cond.code yX2_hasSaying cX2_hasSaying 2 (some .boolean), Cond.methodLink RX4 55 yX4_housesThatHearBy, Cond.instanceMethod yX4_housesThatHearBy, Cond.selects RX4 yX4_housesThatHearBy yX4_housesThatHearBy, Cond.code yX4_housesThatHearBy cX4_housesThatHearBy 10 (some .int), Cond.fieldLink RX4 69 "DripEars$Lane" "place" "[I", Cond.fieldLink RX4 72 "DripEars$Lane" "loud" "[I", Cond.fieldLink RX4 18 "DripEars$Scene" "voice" "[I", Cond.fieldLink RX4 75 "DripEars$Lane" "wall" "[I", Cond.fieldLink RX4 43 "DripEars$Lane" "houses" "I", Cond.fieldLink RX4 38 "DripEars$Lane" "kind" "[I", Cond.fieldLink RX4 9 "DripEars$Scene" "hearer" "[I", Cond.methodLink RX4 78 Lib.Math.abs.name, Cond.static Lib.Math.abs.name, Cond.code Lib.Math.abs.name Lib.Math.abs.code 1 (some .int), Cond.methodLink RX4 61 yX4_areStrayed, Cond.instanceMethod yX4_areStrayed, Cond.selects RX4 yX4_areStrayed yX4_areStrayed, Cond.code yX4_areStrayed cX4_areStrayed 1 (some .boolean), Cond.methodLink RX4 92 yX4_tellAt]
def wsX4_passHour_r3 : List Cond := [Cond.instanceMethod yX4_tellAt, Cond.selects RX4 yX4_tellAt yX4_tellAt, Cond.code yX4_tellAt cX4_tellAt 5 (some .int), Cond.fieldLink RX4 15 "DripEars$Scene" "knows" "[I", Cond.methodLink RX4 99 yX2_allHouses, Cond.instanceMethod yX2_allHouses, Cond.selects RX2 yX2_allHouses yX2_allHouses, Cond.code yX2_allHouses cX2_allHouses 1 (some .int), Cond.fieldLink RX2 30 "DripEars$Lane" "houses" "I", Cond.methodLink RX4 103 yX4_knownBy, Cond.instanceMethod yX4_knownBy, Cond.selects RX4 yX4_knownBy yX4_knownBy, Cond.code yX4_knownBy cX4_knownBy 4 (some .int), Cond.methodLink RX4 46 yJ6_bitCount_0f7a4, Cond.static yJ6_bitCount_0f7a4, Cond.initialized RJ6, Cond.code yJ6_bitCount_0f7a4 cJ6_bitCount_0f7a4 1 (some .int), Cond.constant RJ6 265 (1431655765), Cond.constant RJ6 266 (858993459), Cond.constant RJ6 267 (252645135)]
def wsX4_passHour : List Cond := .code yX4_passHour cX4_passHour 1 (some .int) :: ((wsX4_passHour_r1 ++ (wsX4_passHour_r2 ++ wsX4_passHour_r3)) ++ wsX40 ++ wsX20)
def wsX4_canBeLowered : List Cond := .code yX4_canBeLowered cX4_canBeLowered 2 (some .boolean) :: ([.fieldLink RX4 21 "DripEars$Scene" "lane" "LDripEars$Lane;", .fieldLink RX4 18 "DripEars$Scene" "voice" "[I", .methodLink RX4 106 yX2_hasHouse, .instanceMethod yX2_hasHouse, .selects RX2 yX2_hasHouse yX2_hasHouse, .initialized RX2, .code yX2_hasHouse cX2_hasHouse 2 (some .boolean), .fieldLink RX2 30 "DripEars$Lane" "houses" "I"] ++ wsX40 ++ wsX20)
def wsX4_canBeRaised : List Cond := .code yX4_canBeRaised cX4_canBeRaised 2 (some .boolean) :: ([.fieldLink RX4 21 "DripEars$Scene" "lane" "LDripEars$Lane;", .fieldLink RX4 18 "DripEars$Scene" "voice" "[I", .methodLink RX4 106 yX2_hasHouse, .instanceMethod yX2_hasHouse, .selects RX2 yX2_hasHouse yX2_hasHouse, .initialized RX2, .code yX2_hasHouse cX2_hasHouse 2 (some .boolean), .fieldLink RX2 30 "DripEars$Lane" "houses" "I"] ++ wsX40 ++ wsX20)
def wsX4_tryLowered : List Cond := .code yX4_tryLowered cX4_tryLowered 2 (some .boolean) :: ([.fieldLink RX4 18 "DripEars$Scene" "voice" "[I", .methodLink RX4 109 yX4_canBeLowered, .instanceMethod yX4_canBeLowered, .selects RX4 yX4_canBeLowered yX4_canBeLowered, .initialized RX4, .code yX4_canBeLowered cX4_canBeLowered 2 (some .boolean), .fieldLink RX4 21 "DripEars$Scene" "lane" "LDripEars$Lane;", .methodLink RX4 106 yX2_hasHouse, .instanceMethod yX2_hasHouse, .selects RX2 yX2_hasHouse yX2_hasHouse, .initialized RX2, .code yX2_hasHouse cX2_hasHouse 2 (some .boolean), .fieldLink RX2 30 "DripEars$Lane" "houses" "I"] ++ wsX40 ++ wsX20)
def wsX4_tryRaised : List Cond := .code yX4_tryRaised cX4_tryRaised 2 (some .boolean) :: ([.fieldLink RX4 18 "DripEars$Scene" "voice" "[I", .methodLink RX4 112 yX4_canBeRaised, .instanceMethod yX4_canBeRaised, .selects RX4 yX4_canBeRaised yX4_canBeRaised, .initialized RX4, .code yX4_canBeRaised cX4_canBeRaised 2 (some .boolean), .fieldLink RX4 21 "DripEars$Scene" "lane" "LDripEars$Lane;", .methodLink RX4 106 yX2_hasHouse, .instanceMethod yX2_hasHouse, .selects RX2 yX2_hasHouse yX2_hasHouse, .initialized RX2, .code yX2_hasHouse cX2_hasHouse 2 (some .boolean), .fieldLink RX2 30 "DripEars$Lane" "houses" "I"] ++ wsX40 ++ wsX20)
def wsX4_tryChanged : List Cond := .code yX4_tryChanged cX4_tryChanged 5 (some .boolean) :: ([.fieldLink RX4 21 "DripEars$Scene" "lane" "LDripEars$Lane;", .fieldLink RX4 9 "DripEars$Scene" "hearer" "[I", .fieldLink RX4 15 "DripEars$Scene" "knows" "[I", .methodLink RX4 106 yX2_hasHouse, .instanceMethod yX2_hasHouse, .selects RX2 yX2_hasHouse yX2_hasHouse, .initialized RX2, .code yX2_hasHouse cX2_hasHouse 2 (some .boolean), .fieldLink RX2 30 "DripEars$Lane" "houses" "I"] ++ wsX40 ++ wsX20)
def wsX4_tryPlate : List Cond := .code yX4_tryPlate cX4_tryPlate 2 (some .boolean) :: ([.fieldLink RX4 21 "DripEars$Scene" "lane" "LDripEars$Lane;", .fieldLink RX4 15 "DripEars$Scene" "knows" "[I", .methodLink RX4 115 yX2_hasNext, .instanceMethod yX2_hasNext, .selects RX2 yX2_hasNext yX2_hasNext, .initialized RX2, .code yX2_hasNext cX2_hasNext 2 (some .boolean), .fieldLink RX2 30 "DripEars$Lane" "houses" "I"] ++ wsX40 ++ wsX20)
def wsX5_init_r1 : List Cond := [Cond.methodLink RX5 1 objectInit, Cond.instanceMethod objectInit, Cond.code objectInit ⟨#[0xb1]⟩ 1 none, Cond.arrayClass .int, Cond.fieldLink RX5 9 "DripEars" "text" "[I", Cond.classLink RX5 13 RX4, Cond.fieldLink RX5 15 "DripEars" "kept" "[LDripEars$Scene;", Cond.arrayClass .boolean, Cond.fieldLink RX5 19 "DripEars" "isKept" "[Z", Cond.fieldLink RX5 23 "DripEars" "doings" "[I", Cond.fieldLink RX5 26 "DripEars" "lowerings" "[I", Cond.fieldLink RX5 29 "DripEars" "oneHas" "[I", Cond.fieldLink RX5 32 "DripEars" "otherHas" "[I", Cond.classLink RX5 35 RX2, Cond.instantiable RX2 9, Cond.initialized RX2, Cond.fieldLink RX5 38 "DripEars" "told" "LDripEars$Lane;", Cond.classLink RX5 42 RX3, Cond.instantiable RX3 5, Cond.initialized RX3, Cond.fieldLink RX5 45 "DripEars" "reader" "LDripEars$Reader;", Cond.instantiable RX4 6, Cond.initialized RX4, Cond.fieldLink RX5 52 "DripEars" "now" "LDripEars$Scene;"]
def wsX5_init_r2 : List Cond := [Cond.fieldLink RX5 56 "DripEars" "trial" "LDripEars$Scene;", Cond.classLink RX5 59 RX0, Cond.instantiable RX0 3, Cond.initialized RX0, Cond.fieldLink RX5 62 "DripEars" "acts" "LDripEars$Acts;", Cond.classLink RX5 66 RX1, Cond.instantiable RX1 4, Cond.initialized RX1, Cond.fieldLink RX5 69 "DripEars" "heardSayings" "LDripEars$Heard;", Cond.instanceMethod yX2_init, Cond.code yX2_init cX2_init 1 none, Cond.methodLink RX2 3 objectInit, Cond.fieldLink RX2 9 "DripEars$Lane" "wall" "[I", Cond.fieldLink RX2 15 "DripEars$Lane" "kind" "[I", Cond.fieldLink RX2 18 "DripEars$Lane" "place" "[I", Cond.fieldLink RX2 21 "DripEars$Lane" "thing" "[I", Cond.fieldLink RX2 24 "DripEars$Lane" "loud" "[I", Cond.fieldLink RX2 27 "DripEars$Lane" "rain" "[I", Cond.instanceMethod yX3_init, Cond.code yX3_init cX3_init 1 none, Cond.methodLink RX3 3 objectInit, Cond.classLink RX3 9 RX2, Cond.fieldLink RX3 12 "DripEars$Reader" "draft" "LDripEars$Lane;", Cond.fieldLink RX3 18 "DripEars$Reader" "figures" "[I"]
def wsX5_init_r3 : List Cond := [Cond.methodLink RX5 49 yX4_init, Cond.instanceMethod yX4_init, Cond.code yX4_init cX4_init 2 none, Cond.methodLink RX4 3 objectInit, Cond.fieldLink RX4 9 "DripEars$Scene" "hearer" "[I", Cond.fieldLink RX4 15 "DripEars$Scene" "knows" "[I", Cond.fieldLink RX4 18 "DripEars$Scene" "voice" "[I", Cond.fieldLink RX4 21 "DripEars$Scene" "lane" "LDripEars$Lane;", Cond.methodLink RX5 61 yX0_init, Cond.instanceMethod yX0_init, Cond.code yX0_init cX0_init 3 none, Cond.methodLink RX0 3 objectInit, Cond.classLink RX0 9 RX4, Cond.fieldLink RX0 11 "DripEars$Acts" "ahead" "[LDripEars$Scene;", Cond.methodLink RX0 17 yX4_init, Cond.instanceMethod yX1_init, Cond.code yX1_init cX1_init 1 none, Cond.methodLink RX1 3 objectInit, Cond.fieldLink RX1 9 "DripEars$Heard" "loud" "[I", Cond.fieldLink RX1 15 "DripEars$Heard" "rain" "[I", Cond.fieldLink RX1 18 "DripEars$Heard" "was" "[Z"]
def wsX5_init : List Cond := .code yX5_init cX5_init 2 none :: ((wsX5_init_r1 ++ (wsX5_init_r2 ++ wsX5_init_r3)) ++ wsX50 ++ wsX20 ++ wsX30 ++ wsX40 ++ wsX00 ++ wsX10)
def wsX5_write : List Cond := .code yX5_write cX5_write 2 (some .int) :: ([.fieldLink RX5 73 "DripEars" "letters" "I", .fieldLink RX5 9 "DripEars" "text" "[I"] ++ wsX50)
def wsX5_wipe : List Cond := .code yX5_wipe cX5_wipe 2 (some .int) :: ([.fieldLink RX5 73 "DripEars" "letters" "I"] ++ wsX50)
def wsX5_fault_r1 : List Cond := [Cond.fieldLink RX5 45 "DripEars" "reader" "LDripEars$Reader;", Cond.fieldLink RX5 9 "DripEars" "text" "[I", Cond.fieldLink RX5 73 "DripEars" "letters" "I", Cond.methodLink RX5 77 yX3_firstFault, Cond.instanceMethod yX3_firstFault, Cond.selects RX3 yX3_firstFault yX3_firstFault, Cond.initialized RX3, Cond.code yX3_firstFault cX3_firstFault 4 (some .int), Cond.fieldLink RX3 12 "DripEars$Reader" "draft" "LDripEars$Lane;", Cond.fieldLink RX3 25 "DripEars$Reader" "begun" "Z", Cond.fieldLink RX3 29 "DripEars$Reader" "part" "I", Cond.methodLink RX3 22 yX2_clear, Cond.instanceMethod yX2_clear, Cond.selects RX2 yX2_clear yX2_clear, Cond.initialized RX2, Cond.code yX2_clear cX2_clear 1 none, Cond.fieldLink RX2 30 "DripEars$Lane" "houses" "I", Cond.fieldLink RX2 34 "DripEars$Lane" "sayings" "I", Cond.fieldLink RX2 37 "DripEars$Lane" "rains" "I", Cond.methodLink RX3 33 yX3_accepts, Cond.instanceMethod yX3_accepts, Cond.selects RX3 yX3_accepts yX3_accepts, Cond.code yX3_accepts cX3_accepts 3 (some .boolean), Cond.fieldLink RX3 44 "DripEars$Reader" "figuresRead" "I"]
def wsX5_fault_r2 : List Cond := [Cond.fieldLink RX3 18 "DripEars$Reader" "figures" "[I", Cond.methodLink RX3 37 yX3_opensPart, Cond.instanceMethod yX3_opensPart, Cond.selects RX3 yX3_opensPart yX3_opensPart, Cond.code yX3_opensPart cX3_opensPart 3 (some .boolean), Cond.fieldLink RX3 50 "DripEars$Lane" "houses" "I", Cond.fieldLink RX3 53 "DripEars$Lane" "sayings" "I", Cond.fieldLink RX3 56 "DripEars$Lane" "rains" "I", Cond.methodLink RX3 40 yX3_figureLimit, Cond.instanceMethod yX3_figureLimit, Cond.selects RX3 yX3_figureLimit yX3_figureLimit, Cond.code yX3_figureLimit cX3_figureLimit 1 (some .int), Cond.methodLink RX3 47 yX3_closePartIfWhole, Cond.instanceMethod yX3_closePartIfWhole, Cond.selects RX3 yX3_closePartIfWhole yX3_closePartIfWhole, Cond.code yX3_closePartIfWhole cX3_closePartIfWhole 1 none, Cond.methodLink RX3 59 yX2_addHouse, Cond.instanceMethod yX2_addHouse, Cond.selects RX2 yX2_addHouse yX2_addHouse, Cond.code yX2_addHouse cX2_addHouse 3 none, Cond.fieldLink RX2 15 "DripEars$Lane" "kind" "[I", Cond.fieldLink RX2 9 "DripEars$Lane" "wall" "[I", Cond.methodLink RX3 63 yX2_addSaying, Cond.instanceMethod yX2_addSaying]
def wsX5_fault_r3 : List Cond := [Cond.selects RX2 yX2_addSaying yX2_addSaying, Cond.code yX2_addSaying cX2_addSaying 4 none, Cond.fieldLink RX2 18 "DripEars$Lane" "place" "[I", Cond.fieldLink RX2 21 "DripEars$Lane" "thing" "[I", Cond.fieldLink RX2 24 "DripEars$Lane" "loud" "[I", Cond.methodLink RX3 67 yX2_addRain, Cond.instanceMethod yX2_addRain, Cond.selects RX2 yX2_addRain yX2_addRain, Cond.code yX2_addRain cX2_addRain 2 none, Cond.fieldLink RX2 27 "DripEars$Lane" "rain" "[I"]
def wsX5_fault : List Cond := .code yX5_fault cX5_fault 1 (some .int) :: ((wsX5_fault_r1 ++ (wsX5_fault_r2 ++ wsX5_fault_r3)) ++ wsX50 ++ wsX30 ++ wsX20)
def wsX5_lane_r1 : List Cond := [Cond.fieldLink RX5 45 "DripEars" "reader" "LDripEars$Reader;", Cond.fieldLink RX5 9 "DripEars" "text" "[I", Cond.fieldLink RX5 73 "DripEars" "letters" "I", Cond.fieldLink RX5 38 "DripEars" "told" "LDripEars$Lane;", Cond.fieldLink RX5 81 "DripEars$Reader" "draft" "LDripEars$Lane;", Cond.fieldLink RX5 52 "DripEars" "now" "LDripEars$Scene;", Cond.fieldLink RX5 62 "DripEars" "acts" "LDripEars$Acts;", Cond.fieldLink RX5 19 "DripEars" "isKept" "[Z", Cond.fieldLink RX5 93 "DripEars$Lane" "houses" "I", Cond.fieldLink RX5 96 "DripEars$Lane" "sayings" "I", Cond.fieldLink RX5 99 "DripEars$Lane" "rains" "I", Cond.methodLink RX5 77 yX3_firstFault, Cond.instanceMethod yX3_firstFault, Cond.selects RX3 yX3_firstFault yX3_firstFault, Cond.initialized RX3, Cond.code yX3_firstFault cX3_firstFault 4 (some .int), Cond.fieldLink RX3 12 "DripEars$Reader" "draft" "LDripEars$Lane;", Cond.fieldLink RX3 25 "DripEars$Reader" "begun" "Z", Cond.fieldLink RX3 29 "DripEars$Reader" "part" "I", Cond.methodLink RX3 22 yX2_clear, Cond.instanceMethod yX2_clear, Cond.selects RX2 yX2_clear yX2_clear, Cond.initialized RX2, Cond.code yX2_clear cX2_clear 1 none]
def wsX5_lane_r2 : List Cond := [Cond.fieldLink RX2 30 "DripEars$Lane" "houses" "I", Cond.fieldLink RX2 34 "DripEars$Lane" "sayings" "I", Cond.fieldLink RX2 37 "DripEars$Lane" "rains" "I", Cond.methodLink RX3 33 yX3_accepts, Cond.instanceMethod yX3_accepts, Cond.selects RX3 yX3_accepts yX3_accepts, Cond.code yX3_accepts cX3_accepts 3 (some .boolean), Cond.fieldLink RX3 44 "DripEars$Reader" "figuresRead" "I", Cond.fieldLink RX3 18 "DripEars$Reader" "figures" "[I", Cond.methodLink RX3 37 yX3_opensPart, Cond.instanceMethod yX3_opensPart, Cond.selects RX3 yX3_opensPart yX3_opensPart, Cond.code yX3_opensPart cX3_opensPart 3 (some .boolean), Cond.fieldLink RX3 50 "DripEars$Lane" "houses" "I", Cond.fieldLink RX3 53 "DripEars$Lane" "sayings" "I", Cond.fieldLink RX3 56 "DripEars$Lane" "rains" "I", Cond.methodLink RX3 40 yX3_figureLimit, Cond.instanceMethod yX3_figureLimit, Cond.selects RX3 yX3_figureLimit yX3_figureLimit, Cond.code yX3_figureLimit cX3_figureLimit 1 (some .int), Cond.methodLink RX3 47 yX3_closePartIfWhole, Cond.instanceMethod yX3_closePartIfWhole, Cond.selects RX3 yX3_closePartIfWhole yX3_closePartIfWhole, Cond.code yX3_closePartIfWhole cX3_closePartIfWhole 1 none]
def wsX5_lane_r3 : List Cond := [Cond.methodLink RX3 59 yX2_addHouse, Cond.instanceMethod yX2_addHouse, Cond.selects RX2 yX2_addHouse yX2_addHouse, Cond.code yX2_addHouse cX2_addHouse 3 none, Cond.fieldLink RX2 15 "DripEars$Lane" "kind" "[I", Cond.fieldLink RX2 9 "DripEars$Lane" "wall" "[I", Cond.methodLink RX3 63 yX2_addSaying, Cond.instanceMethod yX2_addSaying, Cond.selects RX2 yX2_addSaying yX2_addSaying, Cond.code yX2_addSaying cX2_addSaying 4 none, Cond.fieldLink RX2 18 "DripEars$Lane" "place" "[I", Cond.fieldLink RX2 21 "DripEars$Lane" "thing" "[I", Cond.fieldLink RX2 24 "DripEars$Lane" "loud" "[I", Cond.methodLink RX3 67 yX2_addRain, Cond.instanceMethod yX2_addRain, Cond.selects RX2 yX2_addRain yX2_addRain, Cond.code yX2_addRain cX2_addRain 2 none, Cond.fieldLink RX2 27 "DripEars$Lane" "rain" "[I", Cond.methodLink RX5 84 yX2_take, Cond.instanceMethod yX2_take, Cond.selects RX2 yX2_take yX2_take, Cond.code yX2_take cX2_take 2 none, Cond.methodLink RX2 40 arraycopyName, Cond.native arraycopyName]
def wsX5_lane_r4 : List Cond := [Cond.static arraycopyName, Cond.initialized "java/lang/System", Cond.methodLink RX5 87 yX4_begin, Cond.instanceMethod yX4_begin, Cond.selects RX4 yX4_begin yX4_begin, Cond.initialized RX4, Cond.code yX4_begin cX4_begin 2 none, Cond.fieldLink RX4 9 "DripEars$Scene" "hearer" "[I", Cond.fieldLink RX4 15 "DripEars$Scene" "knows" "[I", Cond.fieldLink RX4 18 "DripEars$Scene" "voice" "[I", Cond.fieldLink RX4 25 "DripEars$Scene" "dry" "I", Cond.fieldLink RX4 29 "DripEars$Scene" "hour" "I", Cond.methodLink RX5 90 yX0_forget, Cond.instanceMethod yX0_forget, Cond.selects RX0 yX0_forget yX0_forget, Cond.initialized RX0, Cond.code yX0_forget cX0_forget 1 none, Cond.fieldLink RX0 20 "DripEars$Acts" "oldest" "I", Cond.fieldLink RX0 24 "DripEars$Acts" "size" "I"]
def wsX5_lane : List Cond := .code yX5_lane cX5_lane 2 (some .int) :: ((wsX5_lane_r1 ++ (wsX5_lane_r2 ++ (wsX5_lane_r3 ++ wsX5_lane_r4))) ++ wsX50 ++ wsX30 ++ wsX20 ++ wsX40 ++ wsX00)
def wsX5_house_r1 : List Cond := [Cond.fieldLink RX5 38 "DripEars" "told" "LDripEars$Lane;", Cond.fieldLink RX5 106 "DripEars$Lane" "wall" "[I", Cond.fieldLink RX5 52 "DripEars" "now" "LDripEars$Scene;", Cond.fieldLink RX5 109 "DripEars$Scene" "voice" "[I", Cond.fieldLink RX5 116 "DripEars$Scene" "knows" "[I", Cond.fieldLink RX5 119 "DripEars$Scene" "hearer" "[I", Cond.methodLink RX5 102 yX2_hasHouse, Cond.instanceMethod yX2_hasHouse, Cond.selects RX2 yX2_hasHouse yX2_hasHouse, Cond.initialized RX2, Cond.code yX2_hasHouse cX2_hasHouse 2 (some .boolean), Cond.fieldLink RX2 30 "DripEars$Lane" "houses" "I", Cond.methodLink RX5 112 yX4_kindAt, Cond.instanceMethod yX4_kindAt, Cond.selects RX4 yX4_kindAt yX4_kindAt, Cond.initialized RX4, Cond.code yX4_kindAt cX4_kindAt 2 (some .int), Cond.fieldLink RX4 21 "DripEars$Scene" "lane" "LDripEars$Lane;", Cond.fieldLink RX4 38 "DripEars$Lane" "kind" "[I", Cond.fieldLink RX4 9 "DripEars$Scene" "hearer" "[I", Cond.methodLink RX5 122 yX4_housesThatHear, Cond.instanceMethod yX4_housesThatHear, Cond.selects RX4 yX4_housesThatHear yX4_housesThatHear, Cond.code yX4_housesThatHear cX4_housesThatHear 1 (some .int)]
def wsX5_house_r2 : List Cond := [Cond.fieldLink RX4 29 "DripEars$Scene" "hour" "I", Cond.methodLink RX4 52 yX2_rainAt, Cond.instanceMethod yX2_rainAt, Cond.selects RX2 yX2_rainAt yX2_rainAt, Cond.code yX2_rainAt cX2_rainAt 2 (some .int), Cond.fieldLink RX2 37 "DripEars$Lane" "rains" "I", Cond.fieldLink RX2 27 "DripEars$Lane" "rain" "[I", Cond.methodLink RX4 55 yX4_housesThatHearBy, Cond.instanceMethod yX4_housesThatHearBy, Cond.selects RX4 yX4_housesThatHearBy yX4_housesThatHearBy, Cond.code yX4_housesThatHearBy cX4_housesThatHearBy 10 (some .int), Cond.fieldLink RX4 69 "DripEars$Lane" "place" "[I", Cond.fieldLink RX4 72 "DripEars$Lane" "loud" "[I", Cond.fieldLink RX4 18 "DripEars$Scene" "voice" "[I", Cond.fieldLink RX4 75 "DripEars$Lane" "wall" "[I", Cond.fieldLink RX4 43 "DripEars$Lane" "houses" "I", Cond.methodLink RX4 78 Lib.Math.abs.name, Cond.static Lib.Math.abs.name, Cond.initialized "java/lang/Math", Cond.code Lib.Math.abs.name Lib.Math.abs.code 1 (some .int), Cond.methodLink RX4 58 yX2_sayingAt, Cond.instanceMethod yX2_sayingAt, Cond.selects RX2 yX2_sayingAt yX2_sayingAt, Cond.code yX2_sayingAt cX2_sayingAt 2 (some .int)]
def wsX5_house_r3 : List Cond := [Cond.fieldLink RX2 34 "DripEars$Lane" "sayings" "I", Cond.methodLink RX4 61 yX4_areStrayed, Cond.instanceMethod yX4_areStrayed, Cond.selects RX4 yX4_areStrayed yX4_areStrayed, Cond.code yX4_areStrayed cX4_areStrayed 1 (some .boolean), Cond.fieldLink RX4 25 "DripEars$Scene" "dry" "I", Cond.methodLink RX4 65 yX2_hasSaying, Cond.instanceMethod yX2_hasSaying, Cond.selects RX2 yX2_hasSaying yX2_hasSaying, Cond.code yX2_hasSaying cX2_hasSaying 2 (some .boolean)]
def wsX5_house : List Cond := .code yX5_house cX5_house 3 (some .int) :: ((wsX5_house_r1 ++ (wsX5_house_r2 ++ wsX5_house_r3)) ++ wsX50 ++ wsX20 ++ wsX40)
def wsX5_saying : List Cond := .code yX5_saying cX5_saying 3 (some .int) :: ([.fieldLink RX5 38 "DripEars" "told" "LDripEars$Lane;", .fieldLink RX5 129 "DripEars$Lane" "place" "[I", .fieldLink RX5 132 "DripEars$Lane" "thing" "[I", .fieldLink RX5 135 "DripEars$Lane" "loud" "[I", .methodLink RX5 126 yX2_hasSaying, .instanceMethod yX2_hasSaying, .selects RX2 yX2_hasSaying yX2_hasSaying, .initialized RX2, .code yX2_hasSaying cX2_hasSaying 2 (some .boolean), .fieldLink RX2 34 "DripEars$Lane" "sayings" "I"] ++ wsX50 ++ wsX20)
def wsX5_hour_r1 : List Cond := [Cond.fieldLink RX5 62 "DripEars" "acts" "LDripEars$Acts;", Cond.fieldLink RX5 52 "DripEars" "now" "LDripEars$Scene;", Cond.methodLink RX5 138 yX0_note, Cond.instanceMethod yX0_note, Cond.selects RX0 yX0_note yX0_note, Cond.initialized RX0, Cond.code yX0_note cX0_note 2 none, Cond.fieldLink RX0 11 "DripEars$Acts" "ahead" "[LDripEars$Scene;", Cond.fieldLink RX0 20 "DripEars$Acts" "oldest" "I", Cond.fieldLink RX0 24 "DripEars$Acts" "size" "I", Cond.methodLink RX0 27 yX4_take, Cond.instanceMethod yX4_take, Cond.selects RX4 yX4_take yX4_take, Cond.initialized RX4, Cond.code yX4_take cX4_take 2 none, Cond.fieldLink RX4 9 "DripEars$Scene" "hearer" "[I", Cond.methodLink RX4 32 arraycopyName, Cond.native arraycopyName, Cond.static arraycopyName, Cond.initialized "java/lang/System", Cond.fieldLink RX4 15 "DripEars$Scene" "knows" "[I", Cond.fieldLink RX4 18 "DripEars$Scene" "voice" "[I", Cond.fieldLink RX4 25 "DripEars$Scene" "dry" "I", Cond.fieldLink RX4 29 "DripEars$Scene" "hour" "I"]
def wsX5_hour_r2 : List Cond := [Cond.methodLink RX5 142 yX4_passHour, Cond.instanceMethod yX4_passHour, Cond.selects RX4 yX4_passHour yX4_passHour, Cond.code yX4_passHour cX4_passHour 1 (some .int), Cond.fieldLink RX4 21 "DripEars$Scene" "lane" "LDripEars$Lane;", Cond.methodLink RX4 52 yX2_rainAt, Cond.instanceMethod yX2_rainAt, Cond.selects RX2 yX2_rainAt yX2_rainAt, Cond.initialized RX2, Cond.code yX2_rainAt cX2_rainAt 2 (some .int), Cond.fieldLink RX2 37 "DripEars$Lane" "rains" "I", Cond.fieldLink RX2 27 "DripEars$Lane" "rain" "[I", Cond.methodLink RX4 86 yX4_passHourBy, Cond.instanceMethod yX4_passHourBy, Cond.selects RX4 yX4_passHourBy yX4_passHourBy, Cond.code yX4_passHourBy cX4_passHourBy 5 (some .int), Cond.fieldLink RX4 89 "DripEars$Lane" "thing" "[I", Cond.methodLink RX4 96 Lib.Math.min.name, Cond.static Lib.Math.min.name, Cond.initialized "java/lang/Math", Cond.code Lib.Math.min.name Lib.Math.min.code 2 (some .int), Cond.methodLink RX4 58 yX2_sayingAt, Cond.instanceMethod yX2_sayingAt, Cond.selects RX2 yX2_sayingAt yX2_sayingAt]
def wsX5_hour_r3 : List Cond := [Cond.code yX2_sayingAt cX2_sayingAt 2 (some .int), Cond.fieldLink RX2 34 "DripEars$Lane" "sayings" "I", Cond.methodLink RX4 65 yX2_hasSaying, Cond.instanceMethod yX2_hasSaying, Cond.selects RX2 yX2_hasSaying yX2_hasSaying, Cond.code yX2_hasSaying cX2_hasSaying 2 (some .boolean), Cond.methodLink RX4 55 yX4_housesThatHearBy, Cond.instanceMethod yX4_housesThatHearBy, Cond.selects RX4 yX4_housesThatHearBy yX4_housesThatHearBy, Cond.code yX4_housesThatHearBy cX4_housesThatHearBy 10 (some .int), Cond.fieldLink RX4 69 "DripEars$Lane" "place" "[I", Cond.fieldLink RX4 72 "DripEars$Lane" "loud" "[I", Cond.fieldLink RX4 75 "DripEars$Lane" "wall" "[I", Cond.fieldLink RX4 43 "DripEars$Lane" "houses" "I", Cond.fieldLink RX4 38 "DripEars$Lane" "kind" "[I", Cond.methodLink RX4 78 Lib.Math.abs.name, Cond.static Lib.Math.abs.name, Cond.code Lib.Math.abs.name Lib.Math.abs.code 1 (some .int), Cond.methodLink RX4 61 yX4_areStrayed, Cond.instanceMethod yX4_areStrayed, Cond.selects RX4 yX4_areStrayed yX4_areStrayed, Cond.code yX4_areStrayed cX4_areStrayed 1 (some .boolean), Cond.methodLink RX4 92 yX4_tellAt, Cond.instanceMethod yX4_tellAt]
def wsX5_hour_r4 : List Cond := [Cond.selects RX4 yX4_tellAt yX4_tellAt, Cond.code yX4_tellAt cX4_tellAt 5 (some .int), Cond.methodLink RX4 99 yX2_allHouses, Cond.instanceMethod yX2_allHouses, Cond.selects RX2 yX2_allHouses yX2_allHouses, Cond.code yX2_allHouses cX2_allHouses 1 (some .int), Cond.fieldLink RX2 30 "DripEars$Lane" "houses" "I", Cond.methodLink RX4 103 yX4_knownBy, Cond.instanceMethod yX4_knownBy, Cond.selects RX4 yX4_knownBy yX4_knownBy, Cond.code yX4_knownBy cX4_knownBy 4 (some .int), Cond.methodLink RX4 46 yJ6_bitCount_0f7a4, Cond.static yJ6_bitCount_0f7a4, Cond.initialized RJ6, Cond.code yJ6_bitCount_0f7a4 cJ6_bitCount_0f7a4 1 (some .int), Cond.constant RJ6 265 (1431655765), Cond.constant RJ6 266 (858993459), Cond.constant RJ6 267 (252645135)]
def wsX5_hour : List Cond := .code yX5_hour cX5_hour 1 (some .int) :: ((wsX5_hour_r1 ++ (wsX5_hour_r2 ++ (wsX5_hour_r3 ++ wsX5_hour_r4))) ++ wsX50 ++ wsX00 ++ wsX40 ++ wsX20)
def wsX5_lower_r1 : List Cond := [Cond.fieldLink RX5 38 "DripEars" "told" "LDripEars$Lane;", Cond.fieldLink RX5 52 "DripEars" "now" "LDripEars$Scene;", Cond.fieldLink RX5 62 "DripEars" "acts" "LDripEars$Acts;", Cond.fieldLink RX5 109 "DripEars$Scene" "voice" "[I", Cond.methodLink RX5 102 yX2_hasHouse, Cond.instanceMethod yX2_hasHouse, Cond.selects RX2 yX2_hasHouse yX2_hasHouse, Cond.initialized RX2, Cond.code yX2_hasHouse cX2_hasHouse 2 (some .boolean), Cond.fieldLink RX2 30 "DripEars$Lane" "houses" "I", Cond.methodLink RX5 145 yX4_canBeLowered, Cond.instanceMethod yX4_canBeLowered, Cond.selects RX4 yX4_canBeLowered yX4_canBeLowered, Cond.initialized RX4, Cond.code yX4_canBeLowered cX4_canBeLowered 2 (some .boolean), Cond.fieldLink RX4 21 "DripEars$Scene" "lane" "LDripEars$Lane;", Cond.fieldLink RX4 18 "DripEars$Scene" "voice" "[I", Cond.methodLink RX4 106 yX2_hasHouse, Cond.methodLink RX5 138 yX0_note, Cond.instanceMethod yX0_note, Cond.selects RX0 yX0_note yX0_note, Cond.initialized RX0, Cond.code yX0_note cX0_note 2 none, Cond.fieldLink RX0 11 "DripEars$Acts" "ahead" "[LDripEars$Scene;"]
def wsX5_lower_r2 : List Cond := [Cond.fieldLink RX0 20 "DripEars$Acts" "oldest" "I", Cond.fieldLink RX0 24 "DripEars$Acts" "size" "I", Cond.methodLink RX0 27 yX4_take, Cond.instanceMethod yX4_take, Cond.selects RX4 yX4_take yX4_take, Cond.code yX4_take cX4_take 2 none, Cond.fieldLink RX4 9 "DripEars$Scene" "hearer" "[I", Cond.methodLink RX4 32 arraycopyName, Cond.native arraycopyName, Cond.static arraycopyName, Cond.initialized "java/lang/System", Cond.fieldLink RX4 15 "DripEars$Scene" "knows" "[I", Cond.fieldLink RX4 25 "DripEars$Scene" "dry" "I", Cond.fieldLink RX4 29 "DripEars$Scene" "hour" "I", Cond.methodLink RX5 148 yX4_tryLowered, Cond.instanceMethod yX4_tryLowered, Cond.selects RX4 yX4_tryLowered yX4_tryLowered, Cond.code yX4_tryLowered cX4_tryLowered 2 (some .boolean), Cond.methodLink RX4 109 yX4_canBeLowered]
def wsX5_lower : List Cond := .code yX5_lower cX5_lower 2 (some .int) :: ((wsX5_lower_r1 ++ wsX5_lower_r2) ++ wsX50 ++ wsX40 ++ wsX20 ++ wsX00)
def wsX5_raise_r1 : List Cond := [Cond.fieldLink RX5 38 "DripEars" "told" "LDripEars$Lane;", Cond.fieldLink RX5 52 "DripEars" "now" "LDripEars$Scene;", Cond.fieldLink RX5 62 "DripEars" "acts" "LDripEars$Acts;", Cond.fieldLink RX5 109 "DripEars$Scene" "voice" "[I", Cond.methodLink RX5 102 yX2_hasHouse, Cond.instanceMethod yX2_hasHouse, Cond.selects RX2 yX2_hasHouse yX2_hasHouse, Cond.initialized RX2, Cond.code yX2_hasHouse cX2_hasHouse 2 (some .boolean), Cond.fieldLink RX2 30 "DripEars$Lane" "houses" "I", Cond.methodLink RX5 151 yX4_canBeRaised, Cond.instanceMethod yX4_canBeRaised, Cond.selects RX4 yX4_canBeRaised yX4_canBeRaised, Cond.initialized RX4, Cond.code yX4_canBeRaised cX4_canBeRaised 2 (some .boolean), Cond.fieldLink RX4 21 "DripEars$Scene" "lane" "LDripEars$Lane;", Cond.fieldLink RX4 18 "DripEars$Scene" "voice" "[I", Cond.methodLink RX4 106 yX2_hasHouse, Cond.methodLink RX5 138 yX0_note, Cond.instanceMethod yX0_note, Cond.selects RX0 yX0_note yX0_note, Cond.initialized RX0, Cond.code yX0_note cX0_note 2 none, Cond.fieldLink RX0 11 "DripEars$Acts" "ahead" "[LDripEars$Scene;"]
def wsX5_raise_r2 : List Cond := [Cond.fieldLink RX0 20 "DripEars$Acts" "oldest" "I", Cond.fieldLink RX0 24 "DripEars$Acts" "size" "I", Cond.methodLink RX0 27 yX4_take, Cond.instanceMethod yX4_take, Cond.selects RX4 yX4_take yX4_take, Cond.code yX4_take cX4_take 2 none, Cond.fieldLink RX4 9 "DripEars$Scene" "hearer" "[I", Cond.methodLink RX4 32 arraycopyName, Cond.native arraycopyName, Cond.static arraycopyName, Cond.initialized "java/lang/System", Cond.fieldLink RX4 15 "DripEars$Scene" "knows" "[I", Cond.fieldLink RX4 25 "DripEars$Scene" "dry" "I", Cond.fieldLink RX4 29 "DripEars$Scene" "hour" "I", Cond.methodLink RX5 154 yX4_tryRaised, Cond.instanceMethod yX4_tryRaised, Cond.selects RX4 yX4_tryRaised yX4_tryRaised, Cond.code yX4_tryRaised cX4_tryRaised 2 (some .boolean), Cond.methodLink RX4 112 yX4_canBeRaised]
def wsX5_raise : List Cond := .code yX5_raise cX5_raise 2 (some .int) :: ((wsX5_raise_r1 ++ wsX5_raise_r2) ++ wsX50 ++ wsX40 ++ wsX20 ++ wsX00)
def wsX5_change_r1 : List Cond := [Cond.fieldLink RX5 38 "DripEars" "told" "LDripEars$Lane;", Cond.fieldLink RX5 62 "DripEars" "acts" "LDripEars$Acts;", Cond.fieldLink RX5 52 "DripEars" "now" "LDripEars$Scene;", Cond.fieldLink RX5 116 "DripEars$Scene" "knows" "[I", Cond.methodLink RX5 102 yX2_hasHouse, Cond.instanceMethod yX2_hasHouse, Cond.selects RX2 yX2_hasHouse yX2_hasHouse, Cond.initialized RX2, Cond.code yX2_hasHouse cX2_hasHouse 2 (some .boolean), Cond.fieldLink RX2 30 "DripEars$Lane" "houses" "I", Cond.methodLink RX5 138 yX0_note, Cond.instanceMethod yX0_note, Cond.selects RX0 yX0_note yX0_note, Cond.initialized RX0, Cond.code yX0_note cX0_note 2 none, Cond.fieldLink RX0 11 "DripEars$Acts" "ahead" "[LDripEars$Scene;", Cond.fieldLink RX0 20 "DripEars$Acts" "oldest" "I", Cond.fieldLink RX0 24 "DripEars$Acts" "size" "I", Cond.methodLink RX0 27 yX4_take, Cond.instanceMethod yX4_take, Cond.selects RX4 yX4_take yX4_take, Cond.initialized RX4, Cond.code yX4_take cX4_take 2 none, Cond.fieldLink RX4 9 "DripEars$Scene" "hearer" "[I"]
def wsX5_change_r2 : List Cond := [Cond.methodLink RX4 32 arraycopyName, Cond.native arraycopyName, Cond.static arraycopyName, Cond.initialized "java/lang/System", Cond.fieldLink RX4 15 "DripEars$Scene" "knows" "[I", Cond.fieldLink RX4 18 "DripEars$Scene" "voice" "[I", Cond.fieldLink RX4 25 "DripEars$Scene" "dry" "I", Cond.fieldLink RX4 29 "DripEars$Scene" "hour" "I", Cond.methodLink RX5 157 yX4_tryChanged, Cond.instanceMethod yX4_tryChanged, Cond.selects RX4 yX4_tryChanged yX4_tryChanged, Cond.code yX4_tryChanged cX4_tryChanged 5 (some .boolean), Cond.fieldLink RX4 21 "DripEars$Scene" "lane" "LDripEars$Lane;", Cond.methodLink RX4 106 yX2_hasHouse]
def wsX5_change : List Cond := .code yX5_change cX5_change 3 (some .int) :: ((wsX5_change_r1 ++ wsX5_change_r2) ++ wsX50 ++ wsX40 ++ wsX20 ++ wsX00)
def wsX5_plate_r1 : List Cond := [Cond.fieldLink RX5 38 "DripEars" "told" "LDripEars$Lane;", Cond.fieldLink RX5 62 "DripEars" "acts" "LDripEars$Acts;", Cond.fieldLink RX5 52 "DripEars" "now" "LDripEars$Scene;", Cond.fieldLink RX5 116 "DripEars$Scene" "knows" "[I", Cond.methodLink RX5 102 yX2_hasHouse, Cond.instanceMethod yX2_hasHouse, Cond.selects RX2 yX2_hasHouse yX2_hasHouse, Cond.initialized RX2, Cond.code yX2_hasHouse cX2_hasHouse 2 (some .boolean), Cond.fieldLink RX2 30 "DripEars$Lane" "houses" "I", Cond.methodLink RX5 161 yX2_hasNext, Cond.instanceMethod yX2_hasNext, Cond.selects RX2 yX2_hasNext yX2_hasNext, Cond.code yX2_hasNext cX2_hasNext 2 (some .boolean), Cond.methodLink RX5 138 yX0_note, Cond.instanceMethod yX0_note, Cond.selects RX0 yX0_note yX0_note, Cond.initialized RX0, Cond.code yX0_note cX0_note 2 none, Cond.fieldLink RX0 11 "DripEars$Acts" "ahead" "[LDripEars$Scene;", Cond.fieldLink RX0 20 "DripEars$Acts" "oldest" "I", Cond.fieldLink RX0 24 "DripEars$Acts" "size" "I", Cond.methodLink RX0 27 yX4_take, Cond.instanceMethod yX4_take]
def wsX5_plate_r2 : List Cond := [Cond.selects RX4 yX4_take yX4_take, Cond.initialized RX4, Cond.code yX4_take cX4_take 2 none, Cond.fieldLink RX4 9 "DripEars$Scene" "hearer" "[I", Cond.methodLink RX4 32 arraycopyName, Cond.native arraycopyName, Cond.static arraycopyName, Cond.initialized "java/lang/System", Cond.fieldLink RX4 15 "DripEars$Scene" "knows" "[I", Cond.fieldLink RX4 18 "DripEars$Scene" "voice" "[I", Cond.fieldLink RX4 25 "DripEars$Scene" "dry" "I", Cond.fieldLink RX4 29 "DripEars$Scene" "hour" "I", Cond.methodLink RX5 164 yX4_tryPlate, Cond.instanceMethod yX4_tryPlate, Cond.selects RX4 yX4_tryPlate yX4_tryPlate, Cond.code yX4_tryPlate cX4_tryPlate 2 (some .boolean), Cond.fieldLink RX4 21 "DripEars$Scene" "lane" "LDripEars$Lane;", Cond.methodLink RX4 115 yX2_hasNext]
def wsX5_plate : List Cond := .code yX5_plate cX5_plate 2 (some .int) :: ((wsX5_plate_r1 ++ wsX5_plate_r2) ++ wsX50 ++ wsX40 ++ wsX20 ++ wsX00)
def wsX5_undo_r1 : List Cond := [Cond.fieldLink RX5 62 "DripEars" "acts" "LDripEars$Acts;", Cond.fieldLink RX5 167 "DripEars$Acts" "size" "I", Cond.fieldLink RX5 52 "DripEars" "now" "LDripEars$Scene;", Cond.methodLink RX5 170 yX0_takeBack, Cond.instanceMethod yX0_takeBack, Cond.selects RX0 yX0_takeBack yX0_takeBack, Cond.initialized RX0, Cond.code yX0_takeBack cX0_takeBack 2 none, Cond.fieldLink RX0 24 "DripEars$Acts" "size" "I", Cond.fieldLink RX0 11 "DripEars$Acts" "ahead" "[LDripEars$Scene;", Cond.fieldLink RX0 20 "DripEars$Acts" "oldest" "I", Cond.methodLink RX0 27 yX4_take, Cond.instanceMethod yX4_take, Cond.selects RX4 yX4_take yX4_take, Cond.initialized RX4, Cond.code yX4_take cX4_take 2 none, Cond.fieldLink RX4 9 "DripEars$Scene" "hearer" "[I", Cond.methodLink RX4 32 arraycopyName, Cond.native arraycopyName, Cond.static arraycopyName, Cond.initialized "java/lang/System", Cond.fieldLink RX4 15 "DripEars$Scene" "knows" "[I", Cond.fieldLink RX4 18 "DripEars$Scene" "voice" "[I", Cond.fieldLink RX4 25 "DripEars$Scene" "dry" "I"]
def wsX5_undo_r2 : List Cond := [Cond.fieldLink RX4 29 "DripEars$Scene" "hour" "I"]
def wsX5_undo : List Cond := .code yX5_undo cX5_undo 1 (some .int) :: ((wsX5_undo_r1 ++ wsX5_undo_r2) ++ wsX50 ++ wsX00 ++ wsX40)
def wsX5_later_r1 : List Cond := [Cond.fieldLink RX5 38 "DripEars" "told" "LDripEars$Lane;", Cond.fieldLink RX5 56 "DripEars" "trial" "LDripEars$Scene;", Cond.fieldLink RX5 52 "DripEars" "now" "LDripEars$Scene;", Cond.fieldLink RX5 116 "DripEars$Scene" "knows" "[I", Cond.methodLink RX5 102 yX2_hasHouse, Cond.instanceMethod yX2_hasHouse, Cond.selects RX2 yX2_hasHouse yX2_hasHouse, Cond.initialized RX2, Cond.code yX2_hasHouse cX2_hasHouse 2 (some .boolean), Cond.fieldLink RX2 30 "DripEars$Lane" "houses" "I", Cond.methodLink RX5 173 yX4_take, Cond.instanceMethod yX4_take, Cond.selects RX4 yX4_take yX4_take, Cond.initialized RX4, Cond.code yX4_take cX4_take 2 none, Cond.fieldLink RX4 9 "DripEars$Scene" "hearer" "[I", Cond.methodLink RX4 32 arraycopyName, Cond.native arraycopyName, Cond.static arraycopyName, Cond.initialized "java/lang/System", Cond.fieldLink RX4 15 "DripEars$Scene" "knows" "[I", Cond.fieldLink RX4 18 "DripEars$Scene" "voice" "[I", Cond.fieldLink RX4 25 "DripEars$Scene" "dry" "I", Cond.fieldLink RX4 29 "DripEars$Scene" "hour" "I"]
def wsX5_later_r2 : List Cond := [Cond.methodLink RX5 175 yX4_passHours, Cond.instanceMethod yX4_passHours, Cond.selects RX4 yX4_passHours yX4_passHours, Cond.code yX4_passHours cX4_passHours 3 none, Cond.fieldLink RX4 21 "DripEars$Scene" "lane" "LDripEars$Lane;", Cond.methodLink RX4 52 yX2_rainAt, Cond.instanceMethod yX2_rainAt, Cond.selects RX2 yX2_rainAt yX2_rainAt, Cond.code yX2_rainAt cX2_rainAt 2 (some .int), Cond.fieldLink RX2 37 "DripEars$Lane" "rains" "I", Cond.fieldLink RX2 27 "DripEars$Lane" "rain" "[I", Cond.methodLink RX4 86 yX4_passHourBy, Cond.instanceMethod yX4_passHourBy, Cond.selects RX4 yX4_passHourBy yX4_passHourBy, Cond.code yX4_passHourBy cX4_passHourBy 5 (some .int), Cond.fieldLink RX4 89 "DripEars$Lane" "thing" "[I", Cond.methodLink RX4 96 Lib.Math.min.name, Cond.static Lib.Math.min.name, Cond.initialized "java/lang/Math", Cond.code Lib.Math.min.name Lib.Math.min.code 2 (some .int), Cond.methodLink RX4 58 yX2_sayingAt, Cond.instanceMethod yX2_sayingAt, Cond.selects RX2 yX2_sayingAt yX2_sayingAt, Cond.code yX2_sayingAt cX2_sayingAt 2 (some .int)]
def wsX5_later_r3 : List Cond := [Cond.fieldLink RX2 34 "DripEars$Lane" "sayings" "I", Cond.methodLink RX4 65 yX2_hasSaying, Cond.instanceMethod yX2_hasSaying, Cond.selects RX2 yX2_hasSaying yX2_hasSaying, Cond.code yX2_hasSaying cX2_hasSaying 2 (some .boolean), Cond.methodLink RX4 55 yX4_housesThatHearBy, Cond.instanceMethod yX4_housesThatHearBy, Cond.selects RX4 yX4_housesThatHearBy yX4_housesThatHearBy, Cond.code yX4_housesThatHearBy cX4_housesThatHearBy 10 (some .int), Cond.fieldLink RX4 69 "DripEars$Lane" "place" "[I", Cond.fieldLink RX4 72 "DripEars$Lane" "loud" "[I", Cond.fieldLink RX4 75 "DripEars$Lane" "wall" "[I", Cond.fieldLink RX4 43 "DripEars$Lane" "houses" "I", Cond.fieldLink RX4 38 "DripEars$Lane" "kind" "[I", Cond.methodLink RX4 78 Lib.Math.abs.name, Cond.static Lib.Math.abs.name, Cond.code Lib.Math.abs.name Lib.Math.abs.code 1 (some .int), Cond.methodLink RX4 61 yX4_areStrayed, Cond.instanceMethod yX4_areStrayed, Cond.selects RX4 yX4_areStrayed yX4_areStrayed, Cond.code yX4_areStrayed cX4_areStrayed 1 (some .boolean), Cond.methodLink RX4 92 yX4_tellAt, Cond.instanceMethod yX4_tellAt, Cond.selects RX4 yX4_tellAt yX4_tellAt]
def wsX5_later_r4 : List Cond := [Cond.code yX4_tellAt cX4_tellAt 5 (some .int), Cond.methodLink RX4 99 yX2_allHouses, Cond.instanceMethod yX2_allHouses, Cond.selects RX2 yX2_allHouses yX2_allHouses, Cond.code yX2_allHouses cX2_allHouses 1 (some .int), Cond.methodLink RX4 103 yX4_knownBy, Cond.instanceMethod yX4_knownBy, Cond.selects RX4 yX4_knownBy yX4_knownBy, Cond.code yX4_knownBy cX4_knownBy 4 (some .int), Cond.methodLink RX4 46 yJ6_bitCount_0f7a4, Cond.static yJ6_bitCount_0f7a4, Cond.initialized RJ6, Cond.code yJ6_bitCount_0f7a4 cJ6_bitCount_0f7a4 1 (some .int), Cond.constant RJ6 265 (1431655765), Cond.constant RJ6 266 (858993459), Cond.constant RJ6 267 (252645135)]
def wsX5_later : List Cond := .code yX5_later cX5_later 3 (some .int) :: ((wsX5_later_r1 ++ (wsX5_later_r2 ++ (wsX5_later_r3 ++ wsX5_later_r4))) ++ wsX50 ++ wsX40 ++ wsX20)
def wsX5_isThing : List Cond := .code yX5_isThing cX5_isThing 1 (some .boolean) :: ([])
def wsX5_first_r1 : List Cond := [Cond.fieldLink RX5 38 "DripEars" "told" "LDripEars$Lane;", Cond.fieldLink RX5 56 "DripEars" "trial" "LDripEars$Scene;", Cond.fieldLink RX5 52 "DripEars" "now" "LDripEars$Scene;", Cond.methodLink RX5 102 yX2_hasHouse, Cond.instanceMethod yX2_hasHouse, Cond.selects RX2 yX2_hasHouse yX2_hasHouse, Cond.initialized RX2, Cond.code yX2_hasHouse cX2_hasHouse 2 (some .boolean), Cond.fieldLink RX2 30 "DripEars$Lane" "houses" "I", Cond.methodLink RX5 179 yX5_isThing, Cond.static yX5_isThing, Cond.initialized RX5, Cond.code yX5_isThing cX5_isThing 1 (some .boolean), Cond.methodLink RX5 173 yX4_take, Cond.instanceMethod yX4_take, Cond.selects RX4 yX4_take yX4_take, Cond.initialized RX4, Cond.code yX4_take cX4_take 2 none, Cond.fieldLink RX4 9 "DripEars$Scene" "hearer" "[I", Cond.methodLink RX4 32 arraycopyName, Cond.native arraycopyName, Cond.static arraycopyName, Cond.initialized "java/lang/System", Cond.fieldLink RX4 15 "DripEars$Scene" "knows" "[I"]
def wsX5_first_r2 : List Cond := [Cond.fieldLink RX4 18 "DripEars$Scene" "voice" "[I", Cond.fieldLink RX4 25 "DripEars$Scene" "dry" "I", Cond.fieldLink RX4 29 "DripEars$Scene" "hour" "I", Cond.methodLink RX5 182 yX4_knowsThing, Cond.instanceMethod yX4_knowsThing, Cond.selects RX4 yX4_knowsThing yX4_knowsThing, Cond.code yX4_knowsThing cX4_knowsThing 3 (some .boolean), Cond.methodLink RX5 142 yX4_passHour, Cond.instanceMethod yX4_passHour, Cond.selects RX4 yX4_passHour yX4_passHour, Cond.code yX4_passHour cX4_passHour 1 (some .int), Cond.fieldLink RX4 21 "DripEars$Scene" "lane" "LDripEars$Lane;", Cond.methodLink RX4 52 yX2_rainAt, Cond.instanceMethod yX2_rainAt, Cond.selects RX2 yX2_rainAt yX2_rainAt, Cond.code yX2_rainAt cX2_rainAt 2 (some .int), Cond.fieldLink RX2 37 "DripEars$Lane" "rains" "I", Cond.fieldLink RX2 27 "DripEars$Lane" "rain" "[I", Cond.methodLink RX4 86 yX4_passHourBy, Cond.instanceMethod yX4_passHourBy, Cond.selects RX4 yX4_passHourBy yX4_passHourBy, Cond.code yX4_passHourBy cX4_passHourBy 5 (some .int), Cond.fieldLink RX4 89 "DripEars$Lane" "thing" "[I", Cond.methodLink RX4 96 Lib.Math.min.name]
def wsX5_first_r3 : List Cond := [Cond.static Lib.Math.min.name, Cond.initialized "java/lang/Math", Cond.code Lib.Math.min.name Lib.Math.min.code 2 (some .int), Cond.methodLink RX4 58 yX2_sayingAt, Cond.instanceMethod yX2_sayingAt, Cond.selects RX2 yX2_sayingAt yX2_sayingAt, Cond.code yX2_sayingAt cX2_sayingAt 2 (some .int), Cond.fieldLink RX2 34 "DripEars$Lane" "sayings" "I", Cond.methodLink RX4 65 yX2_hasSaying, Cond.instanceMethod yX2_hasSaying, Cond.selects RX2 yX2_hasSaying yX2_hasSaying, Cond.code yX2_hasSaying cX2_hasSaying 2 (some .boolean), Cond.methodLink RX4 55 yX4_housesThatHearBy, Cond.instanceMethod yX4_housesThatHearBy, Cond.selects RX4 yX4_housesThatHearBy yX4_housesThatHearBy, Cond.code yX4_housesThatHearBy cX4_housesThatHearBy 10 (some .int), Cond.fieldLink RX4 69 "DripEars$Lane" "place" "[I", Cond.fieldLink RX4 72 "DripEars$Lane" "loud" "[I", Cond.fieldLink RX4 75 "DripEars$Lane" "wall" "[I", Cond.fieldLink RX4 43 "DripEars$Lane" "houses" "I", Cond.fieldLink RX4 38 "DripEars$Lane" "kind" "[I", Cond.methodLink RX4 78 Lib.Math.abs.name, Cond.static Lib.Math.abs.name, Cond.code Lib.Math.abs.name Lib.Math.abs.code 1 (some .int)]
def wsX5_first_r4 : List Cond := [Cond.methodLink RX4 61 yX4_areStrayed, Cond.instanceMethod yX4_areStrayed, Cond.selects RX4 yX4_areStrayed yX4_areStrayed, Cond.code yX4_areStrayed cX4_areStrayed 1 (some .boolean), Cond.methodLink RX4 92 yX4_tellAt, Cond.instanceMethod yX4_tellAt, Cond.selects RX4 yX4_tellAt yX4_tellAt, Cond.code yX4_tellAt cX4_tellAt 5 (some .int), Cond.methodLink RX4 99 yX2_allHouses, Cond.instanceMethod yX2_allHouses, Cond.selects RX2 yX2_allHouses yX2_allHouses, Cond.code yX2_allHouses cX2_allHouses 1 (some .int), Cond.methodLink RX4 103 yX4_knownBy, Cond.instanceMethod yX4_knownBy, Cond.selects RX4 yX4_knownBy yX4_knownBy, Cond.code yX4_knownBy cX4_knownBy 4 (some .int), Cond.methodLink RX4 46 yJ6_bitCount_0f7a4, Cond.static yJ6_bitCount_0f7a4, Cond.initialized RJ6, Cond.code yJ6_bitCount_0f7a4 cJ6_bitCount_0f7a4 1 (some .int), Cond.constant RJ6 265 (1431655765), Cond.constant RJ6 266 (858993459), Cond.constant RJ6 267 (252645135)]
def wsX5_first : List Cond := .code yX5_first cX5_first 4 (some .int) :: ((wsX5_first_r1 ++ (wsX5_first_r2 ++ (wsX5_first_r3 ++ wsX5_first_r4))) ++ wsX50 ++ wsX20 ++ wsX40)
def wsX5_isZeroOrOne : List Cond := .code yX5_isZeroOrOne cX5_isZeroOrOne 1 (some .boolean) :: ([])
def wsX5_isKeptFrom_r1 : List Cond := [Cond.fieldLink RX5 56 "DripEars" "trial" "LDripEars$Scene;", Cond.fieldLink RX5 52 "DripEars" "now" "LDripEars$Scene;", Cond.fieldLink RX5 38 "DripEars" "told" "LDripEars$Lane;", Cond.fieldLink RX5 93 "DripEars$Lane" "houses" "I", Cond.fieldLink RX5 109 "DripEars$Scene" "voice" "[I", Cond.fieldLink RX5 26 "DripEars" "lowerings" "[I", Cond.methodLink RX5 173 yX4_take, Cond.instanceMethod yX4_take, Cond.selects RX4 yX4_take yX4_take, Cond.initialized RX4, Cond.code yX4_take cX4_take 2 none, Cond.fieldLink RX4 9 "DripEars$Scene" "hearer" "[I", Cond.methodLink RX4 32 arraycopyName, Cond.native arraycopyName, Cond.static arraycopyName, Cond.initialized "java/lang/System", Cond.fieldLink RX4 15 "DripEars$Scene" "knows" "[I", Cond.fieldLink RX4 18 "DripEars$Scene" "voice" "[I", Cond.fieldLink RX4 25 "DripEars$Scene" "dry" "I", Cond.fieldLink RX4 29 "DripEars$Scene" "hour" "I", Cond.methodLink RX5 175 yX4_passHours, Cond.instanceMethod yX4_passHours, Cond.selects RX4 yX4_passHours yX4_passHours, Cond.code yX4_passHours cX4_passHours 3 none]
def wsX5_isKeptFrom_r2 : List Cond := [Cond.fieldLink RX4 21 "DripEars$Scene" "lane" "LDripEars$Lane;", Cond.methodLink RX4 52 yX2_rainAt, Cond.instanceMethod yX2_rainAt, Cond.selects RX2 yX2_rainAt yX2_rainAt, Cond.initialized RX2, Cond.code yX2_rainAt cX2_rainAt 2 (some .int), Cond.fieldLink RX2 37 "DripEars$Lane" "rains" "I", Cond.fieldLink RX2 27 "DripEars$Lane" "rain" "[I", Cond.methodLink RX4 86 yX4_passHourBy, Cond.instanceMethod yX4_passHourBy, Cond.selects RX4 yX4_passHourBy yX4_passHourBy, Cond.code yX4_passHourBy cX4_passHourBy 5 (some .int), Cond.fieldLink RX4 89 "DripEars$Lane" "thing" "[I", Cond.methodLink RX4 96 Lib.Math.min.name, Cond.static Lib.Math.min.name, Cond.initialized "java/lang/Math", Cond.code Lib.Math.min.name Lib.Math.min.code 2 (some .int), Cond.methodLink RX4 58 yX2_sayingAt, Cond.instanceMethod yX2_sayingAt, Cond.selects RX2 yX2_sayingAt yX2_sayingAt, Cond.code yX2_sayingAt cX2_sayingAt 2 (some .int), Cond.fieldLink RX2 34 "DripEars$Lane" "sayings" "I", Cond.methodLink RX4 65 yX2_hasSaying, Cond.instanceMethod yX2_hasSaying]
def wsX5_isKeptFrom_r3 : List Cond := [Cond.selects RX2 yX2_hasSaying yX2_hasSaying, Cond.code yX2_hasSaying cX2_hasSaying 2 (some .boolean), Cond.methodLink RX4 55 yX4_housesThatHearBy, Cond.instanceMethod yX4_housesThatHearBy, Cond.selects RX4 yX4_housesThatHearBy yX4_housesThatHearBy, Cond.code yX4_housesThatHearBy cX4_housesThatHearBy 10 (some .int), Cond.fieldLink RX4 69 "DripEars$Lane" "place" "[I", Cond.fieldLink RX4 72 "DripEars$Lane" "loud" "[I", Cond.fieldLink RX4 75 "DripEars$Lane" "wall" "[I", Cond.fieldLink RX4 43 "DripEars$Lane" "houses" "I", Cond.fieldLink RX4 38 "DripEars$Lane" "kind" "[I", Cond.methodLink RX4 78 Lib.Math.abs.name, Cond.static Lib.Math.abs.name, Cond.code Lib.Math.abs.name Lib.Math.abs.code 1 (some .int), Cond.methodLink RX4 61 yX4_areStrayed, Cond.instanceMethod yX4_areStrayed, Cond.selects RX4 yX4_areStrayed yX4_areStrayed, Cond.code yX4_areStrayed cX4_areStrayed 1 (some .boolean), Cond.methodLink RX4 92 yX4_tellAt, Cond.instanceMethod yX4_tellAt, Cond.selects RX4 yX4_tellAt yX4_tellAt, Cond.code yX4_tellAt cX4_tellAt 5 (some .int), Cond.methodLink RX4 99 yX2_allHouses, Cond.instanceMethod yX2_allHouses]
def wsX5_isKeptFrom_r4 : List Cond := [Cond.selects RX2 yX2_allHouses yX2_allHouses, Cond.code yX2_allHouses cX2_allHouses 1 (some .int), Cond.fieldLink RX2 30 "DripEars$Lane" "houses" "I", Cond.methodLink RX4 103 yX4_knownBy, Cond.instanceMethod yX4_knownBy, Cond.selects RX4 yX4_knownBy yX4_knownBy, Cond.code yX4_knownBy cX4_knownBy 4 (some .int), Cond.methodLink RX4 46 yJ6_bitCount_0f7a4, Cond.static yJ6_bitCount_0f7a4, Cond.initialized RJ6, Cond.code yJ6_bitCount_0f7a4 cJ6_bitCount_0f7a4 1 (some .int), Cond.constant RJ6 265 (1431655765), Cond.constant RJ6 266 (858993459), Cond.constant RJ6 267 (252645135), Cond.methodLink RX5 182 yX4_knowsThing, Cond.instanceMethod yX4_knowsThing, Cond.selects RX4 yX4_knowsThing yX4_knowsThing, Cond.code yX4_knowsThing cX4_knowsThing 3 (some .boolean)]
def wsX5_isKeptFrom : List Cond := .code yX5_isKeptFrom cX5_isKeptFrom 5 (some .boolean) :: ((wsX5_isKeptFrom_r1 ++ (wsX5_isKeptFrom_r2 ++ (wsX5_isKeptFrom_r3 ++ wsX5_isKeptFrom_r4))) ++ wsX50 ++ wsX20 ++ wsX40)
def wsX5_fillFewestLowerings_r1 : List Cond := [Cond.fieldLink RX5 38 "DripEars" "told" "LDripEars$Lane;", Cond.fieldLink RX5 93 "DripEars$Lane" "houses" "I", Cond.fieldLink RX5 26 "DripEars" "lowerings" "[I", Cond.fieldLink RX5 52 "DripEars" "now" "LDripEars$Scene;", Cond.fieldLink RX5 109 "DripEars$Scene" "voice" "[I", Cond.methodLink RX5 282 Lib.Math.min.name, Cond.static Lib.Math.min.name, Cond.initialized "java/lang/Math", Cond.code Lib.Math.min.name Lib.Math.min.code 2 (some .int), Cond.methodLink RX5 287 yX5_isKeptFrom, Cond.instanceMethod yX5_isKeptFrom, Cond.selects RX5 yX5_isKeptFrom yX5_isKeptFrom, Cond.initialized RX5, Cond.code yX5_isKeptFrom cX5_isKeptFrom 5 (some .boolean), Cond.fieldLink RX5 56 "DripEars" "trial" "LDripEars$Scene;", Cond.methodLink RX5 173 yX4_take, Cond.instanceMethod yX4_take, Cond.selects RX4 yX4_take yX4_take, Cond.initialized RX4, Cond.code yX4_take cX4_take 2 none, Cond.fieldLink RX4 9 "DripEars$Scene" "hearer" "[I", Cond.methodLink RX4 32 arraycopyName, Cond.native arraycopyName, Cond.static arraycopyName]
def wsX5_fillFewestLowerings_r2 : List Cond := [Cond.initialized "java/lang/System", Cond.fieldLink RX4 15 "DripEars$Scene" "knows" "[I", Cond.fieldLink RX4 18 "DripEars$Scene" "voice" "[I", Cond.fieldLink RX4 25 "DripEars$Scene" "dry" "I", Cond.fieldLink RX4 29 "DripEars$Scene" "hour" "I", Cond.methodLink RX5 175 yX4_passHours, Cond.instanceMethod yX4_passHours, Cond.selects RX4 yX4_passHours yX4_passHours, Cond.code yX4_passHours cX4_passHours 3 none, Cond.fieldLink RX4 21 "DripEars$Scene" "lane" "LDripEars$Lane;", Cond.methodLink RX4 52 yX2_rainAt, Cond.instanceMethod yX2_rainAt, Cond.selects RX2 yX2_rainAt yX2_rainAt, Cond.initialized RX2, Cond.code yX2_rainAt cX2_rainAt 2 (some .int), Cond.fieldLink RX2 37 "DripEars$Lane" "rains" "I", Cond.fieldLink RX2 27 "DripEars$Lane" "rain" "[I", Cond.methodLink RX4 86 yX4_passHourBy, Cond.instanceMethod yX4_passHourBy, Cond.selects RX4 yX4_passHourBy yX4_passHourBy, Cond.code yX4_passHourBy cX4_passHourBy 5 (some .int), Cond.fieldLink RX4 89 "DripEars$Lane" "thing" "[I", Cond.methodLink RX4 96 Lib.Math.min.name, Cond.methodLink RX4 58 yX2_sayingAt]
def wsX5_fillFewestLowerings_r3 : List Cond := [Cond.instanceMethod yX2_sayingAt, Cond.selects RX2 yX2_sayingAt yX2_sayingAt, Cond.code yX2_sayingAt cX2_sayingAt 2 (some .int), Cond.fieldLink RX2 34 "DripEars$Lane" "sayings" "I", Cond.methodLink RX4 65 yX2_hasSaying, Cond.instanceMethod yX2_hasSaying, Cond.selects RX2 yX2_hasSaying yX2_hasSaying, Cond.code yX2_hasSaying cX2_hasSaying 2 (some .boolean), Cond.methodLink RX4 55 yX4_housesThatHearBy, Cond.instanceMethod yX4_housesThatHearBy, Cond.selects RX4 yX4_housesThatHearBy yX4_housesThatHearBy, Cond.code yX4_housesThatHearBy cX4_housesThatHearBy 10 (some .int), Cond.fieldLink RX4 69 "DripEars$Lane" "place" "[I", Cond.fieldLink RX4 72 "DripEars$Lane" "loud" "[I", Cond.fieldLink RX4 75 "DripEars$Lane" "wall" "[I", Cond.fieldLink RX4 43 "DripEars$Lane" "houses" "I", Cond.fieldLink RX4 38 "DripEars$Lane" "kind" "[I", Cond.methodLink RX4 78 Lib.Math.abs.name, Cond.static Lib.Math.abs.name, Cond.code Lib.Math.abs.name Lib.Math.abs.code 1 (some .int), Cond.methodLink RX4 61 yX4_areStrayed, Cond.instanceMethod yX4_areStrayed, Cond.selects RX4 yX4_areStrayed yX4_areStrayed, Cond.code yX4_areStrayed cX4_areStrayed 1 (some .boolean)]
def wsX5_fillFewestLowerings_r4 : List Cond := [Cond.methodLink RX4 92 yX4_tellAt, Cond.instanceMethod yX4_tellAt, Cond.selects RX4 yX4_tellAt yX4_tellAt, Cond.code yX4_tellAt cX4_tellAt 5 (some .int), Cond.methodLink RX4 99 yX2_allHouses, Cond.instanceMethod yX2_allHouses, Cond.selects RX2 yX2_allHouses yX2_allHouses, Cond.code yX2_allHouses cX2_allHouses 1 (some .int), Cond.fieldLink RX2 30 "DripEars$Lane" "houses" "I", Cond.methodLink RX4 103 yX4_knownBy, Cond.instanceMethod yX4_knownBy, Cond.selects RX4 yX4_knownBy yX4_knownBy, Cond.code yX4_knownBy cX4_knownBy 4 (some .int), Cond.methodLink RX4 46 yJ6_bitCount_0f7a4, Cond.static yJ6_bitCount_0f7a4, Cond.initialized RJ6, Cond.code yJ6_bitCount_0f7a4 cJ6_bitCount_0f7a4 1 (some .int), Cond.constant RJ6 265 (1431655765), Cond.constant RJ6 266 (858993459), Cond.constant RJ6 267 (252645135), Cond.methodLink RX5 182 yX4_knowsThing, Cond.instanceMethod yX4_knowsThing, Cond.selects RX4 yX4_knowsThing yX4_knowsThing, Cond.code yX4_knowsThing cX4_knowsThing 3 (some .boolean)]
def wsX5_fillFewestLowerings : List Cond := .code yX5_fillFewestLowerings cX5_fillFewestLowerings 8 (some .boolean) :: ((wsX5_fillFewestLowerings_r1 ++ (wsX5_fillFewestLowerings_r2 ++ (wsX5_fillFewestLowerings_r3 ++ wsX5_fillFewestLowerings_r4))) ++ wsX50 ++ wsX20 ++ wsX40)
def wsX5_sumOfLowerings : List Cond := .code yX5_sumOfLowerings cX5_sumOfLowerings 3 (some .int) :: ([.fieldLink RX5 38 "DripEars" "told" "LDripEars$Lane;", .fieldLink RX5 93 "DripEars$Lane" "houses" "I", .fieldLink RX5 26 "DripEars" "lowerings" "[I"] ++ wsX50 ++ wsX20)
def wsX5_figuresOfLowerings : List Cond := .code yX5_figuresOfLowerings cX5_figuresOfLowerings 3 (some .int) :: ([.fieldLink RX5 38 "DripEars" "told" "LDripEars$Lane;", .fieldLink RX5 93 "DripEars$Lane" "houses" "I", .fieldLink RX5 26 "DripEars" "lowerings" "[I"] ++ wsX50 ++ wsX20)
def wsX5_keeps_r1 : List Cond := [Cond.fieldLink RX5 38 "DripEars" "told" "LDripEars$Lane;", Cond.methodLink RX5 102 yX2_hasHouse, Cond.instanceMethod yX2_hasHouse, Cond.selects RX2 yX2_hasHouse yX2_hasHouse, Cond.initialized RX2, Cond.code yX2_hasHouse cX2_hasHouse 2 (some .boolean), Cond.fieldLink RX2 30 "DripEars$Lane" "houses" "I", Cond.methodLink RX5 179 yX5_isThing, Cond.static yX5_isThing, Cond.initialized RX5, Cond.code yX5_isThing cX5_isThing 1 (some .boolean), Cond.methodLink RX5 185 yX5_isZeroOrOne, Cond.static yX5_isZeroOrOne, Cond.code yX5_isZeroOrOne cX5_isZeroOrOne 1 (some .boolean), Cond.methodLink RX5 188 yX5_fillFewestLowerings, Cond.instanceMethod yX5_fillFewestLowerings, Cond.selects RX5 yX5_fillFewestLowerings yX5_fillFewestLowerings, Cond.code yX5_fillFewestLowerings cX5_fillFewestLowerings 8 (some .boolean), Cond.fieldLink RX5 93 "DripEars$Lane" "houses" "I", Cond.fieldLink RX5 26 "DripEars" "lowerings" "[I", Cond.fieldLink RX5 52 "DripEars" "now" "LDripEars$Scene;", Cond.fieldLink RX5 109 "DripEars$Scene" "voice" "[I", Cond.methodLink RX5 282 Lib.Math.min.name, Cond.static Lib.Math.min.name]
def wsX5_keeps_r2 : List Cond := [Cond.initialized "java/lang/Math", Cond.code Lib.Math.min.name Lib.Math.min.code 2 (some .int), Cond.methodLink RX5 287 yX5_isKeptFrom, Cond.instanceMethod yX5_isKeptFrom, Cond.selects RX5 yX5_isKeptFrom yX5_isKeptFrom, Cond.code yX5_isKeptFrom cX5_isKeptFrom 5 (some .boolean), Cond.fieldLink RX5 56 "DripEars" "trial" "LDripEars$Scene;", Cond.methodLink RX5 173 yX4_take, Cond.instanceMethod yX4_take, Cond.selects RX4 yX4_take yX4_take, Cond.initialized RX4, Cond.code yX4_take cX4_take 2 none, Cond.fieldLink RX4 9 "DripEars$Scene" "hearer" "[I", Cond.methodLink RX4 32 arraycopyName, Cond.native arraycopyName, Cond.static arraycopyName, Cond.initialized "java/lang/System", Cond.fieldLink RX4 15 "DripEars$Scene" "knows" "[I", Cond.fieldLink RX4 18 "DripEars$Scene" "voice" "[I", Cond.fieldLink RX4 25 "DripEars$Scene" "dry" "I", Cond.fieldLink RX4 29 "DripEars$Scene" "hour" "I", Cond.methodLink RX5 175 yX4_passHours, Cond.instanceMethod yX4_passHours, Cond.selects RX4 yX4_passHours yX4_passHours]
def wsX5_keeps_r3 : List Cond := [Cond.code yX4_passHours cX4_passHours 3 none, Cond.fieldLink RX4 21 "DripEars$Scene" "lane" "LDripEars$Lane;", Cond.methodLink RX4 52 yX2_rainAt, Cond.instanceMethod yX2_rainAt, Cond.selects RX2 yX2_rainAt yX2_rainAt, Cond.code yX2_rainAt cX2_rainAt 2 (some .int), Cond.fieldLink RX2 37 "DripEars$Lane" "rains" "I", Cond.fieldLink RX2 27 "DripEars$Lane" "rain" "[I", Cond.methodLink RX4 86 yX4_passHourBy, Cond.instanceMethod yX4_passHourBy, Cond.selects RX4 yX4_passHourBy yX4_passHourBy, Cond.code yX4_passHourBy cX4_passHourBy 5 (some .int), Cond.fieldLink RX4 89 "DripEars$Lane" "thing" "[I", Cond.methodLink RX4 96 Lib.Math.min.name, Cond.methodLink RX4 58 yX2_sayingAt, Cond.instanceMethod yX2_sayingAt, Cond.selects RX2 yX2_sayingAt yX2_sayingAt, Cond.code yX2_sayingAt cX2_sayingAt 2 (some .int), Cond.fieldLink RX2 34 "DripEars$Lane" "sayings" "I", Cond.methodLink RX4 65 yX2_hasSaying, Cond.instanceMethod yX2_hasSaying, Cond.selects RX2 yX2_hasSaying yX2_hasSaying, Cond.code yX2_hasSaying cX2_hasSaying 2 (some .boolean), Cond.methodLink RX4 55 yX4_housesThatHearBy]
def wsX5_keeps_r4 : List Cond := [Cond.instanceMethod yX4_housesThatHearBy, Cond.selects RX4 yX4_housesThatHearBy yX4_housesThatHearBy, Cond.code yX4_housesThatHearBy cX4_housesThatHearBy 10 (some .int), Cond.fieldLink RX4 69 "DripEars$Lane" "place" "[I", Cond.fieldLink RX4 72 "DripEars$Lane" "loud" "[I", Cond.fieldLink RX4 75 "DripEars$Lane" "wall" "[I", Cond.fieldLink RX4 43 "DripEars$Lane" "houses" "I", Cond.fieldLink RX4 38 "DripEars$Lane" "kind" "[I", Cond.methodLink RX4 78 Lib.Math.abs.name, Cond.static Lib.Math.abs.name, Cond.code Lib.Math.abs.name Lib.Math.abs.code 1 (some .int), Cond.methodLink RX4 61 yX4_areStrayed, Cond.instanceMethod yX4_areStrayed, Cond.selects RX4 yX4_areStrayed yX4_areStrayed, Cond.code yX4_areStrayed cX4_areStrayed 1 (some .boolean), Cond.methodLink RX4 92 yX4_tellAt, Cond.instanceMethod yX4_tellAt, Cond.selects RX4 yX4_tellAt yX4_tellAt, Cond.code yX4_tellAt cX4_tellAt 5 (some .int), Cond.methodLink RX4 99 yX2_allHouses, Cond.instanceMethod yX2_allHouses, Cond.selects RX2 yX2_allHouses yX2_allHouses, Cond.code yX2_allHouses cX2_allHouses 1 (some .int), Cond.methodLink RX4 103 yX4_knownBy]
def wsX5_keeps_r5 : List Cond := [Cond.instanceMethod yX4_knownBy, Cond.selects RX4 yX4_knownBy yX4_knownBy, Cond.code yX4_knownBy cX4_knownBy 4 (some .int), Cond.methodLink RX4 46 yJ6_bitCount_0f7a4, Cond.static yJ6_bitCount_0f7a4, Cond.initialized RJ6, Cond.code yJ6_bitCount_0f7a4 cJ6_bitCount_0f7a4 1 (some .int), Cond.constant RJ6 265 (1431655765), Cond.constant RJ6 266 (858993459), Cond.constant RJ6 267 (252645135), Cond.methodLink RX5 182 yX4_knowsThing, Cond.instanceMethod yX4_knowsThing, Cond.selects RX4 yX4_knowsThing yX4_knowsThing, Cond.code yX4_knowsThing cX4_knowsThing 3 (some .boolean), Cond.methodLink RX5 192 yX5_sumOfLowerings, Cond.instanceMethod yX5_sumOfLowerings, Cond.selects RX5 yX5_sumOfLowerings yX5_sumOfLowerings, Cond.code yX5_sumOfLowerings cX5_sumOfLowerings 3 (some .int), Cond.methodLink RX5 195 yX5_figuresOfLowerings, Cond.instanceMethod yX5_figuresOfLowerings, Cond.selects RX5 yX5_figuresOfLowerings yX5_figuresOfLowerings, Cond.code yX5_figuresOfLowerings cX5_figuresOfLowerings 3 (some .int)]
def wsX5_keeps : List Cond := .code yX5_keeps cX5_keeps 5 (some .int) :: ((wsX5_keeps_r1 ++ (wsX5_keeps_r2 ++ (wsX5_keeps_r3 ++ (wsX5_keeps_r4 ++ wsX5_keeps_r5)))) ++ wsX50 ++ wsX20 ++ wsX40)
def wsX5_tells_r1 : List Cond := [Cond.fieldLink RX5 38 "DripEars" "told" "LDripEars$Lane;", Cond.fieldLink RX5 52 "DripEars" "now" "LDripEars$Scene;", Cond.methodLink RX5 185 yX5_isZeroOrOne, Cond.static yX5_isZeroOrOne, Cond.initialized RX5, Cond.code yX5_isZeroOrOne cX5_isZeroOrOne 1 (some .boolean), Cond.methodLink RX5 198 yX2_allHouses, Cond.instanceMethod yX2_allHouses, Cond.selects RX2 yX2_allHouses yX2_allHouses, Cond.initialized RX2, Cond.code yX2_allHouses cX2_allHouses 1 (some .int), Cond.fieldLink RX2 30 "DripEars$Lane" "houses" "I", Cond.methodLink RX5 201 yJ6_bitCount_0f7a4, Cond.static yJ6_bitCount_0f7a4, Cond.initialized RJ6, Cond.code yJ6_bitCount_0f7a4 cJ6_bitCount_0f7a4 1 (some .int), Cond.constant RJ6 265 (1431655765), Cond.constant RJ6 266 (858993459), Cond.constant RJ6 267 (252645135), Cond.methodLink RX5 206 yX4_knownBy, Cond.instanceMethod yX4_knownBy, Cond.selects RX4 yX4_knownBy yX4_knownBy, Cond.initialized RX4, Cond.code yX4_knownBy cX4_knownBy 4 (some .int)]
def wsX5_tells_r2 : List Cond := [Cond.fieldLink RX4 21 "DripEars$Scene" "lane" "LDripEars$Lane;", Cond.fieldLink RX4 43 "DripEars$Lane" "houses" "I", Cond.fieldLink RX4 15 "DripEars$Scene" "knows" "[I"]
def wsX5_tells : List Cond := .code yX5_tells cX5_tells 6 (some .int) :: ((wsX5_tells_r1 ++ wsX5_tells_r2) ++ wsX50 ++ wsX20 ++ wsX40)
def wsX5_fillDoings : List Cond := .code yX5_fillDoings cX5_fillDoings 7 (some .boolean) :: ([.fieldLink RX5 23 "DripEars" "doings" "[I", .constantLong RX5 290 (10)] ++ wsX50)
def wsX5_comesAbout_r1 : List Cond := [Cond.fieldLink RX5 56 "DripEars" "trial" "LDripEars$Scene;", Cond.fieldLink RX5 38 "DripEars" "told" "LDripEars$Lane;", Cond.fieldLink RX5 271 "DripEars$Scene" "dry" "I", Cond.methodLink RX5 142 yX4_passHour, Cond.instanceMethod yX4_passHour, Cond.selects RX4 yX4_passHour yX4_passHour, Cond.initialized RX4, Cond.code yX4_passHour cX4_passHour 1 (some .int), Cond.fieldLink RX4 21 "DripEars$Scene" "lane" "LDripEars$Lane;", Cond.fieldLink RX4 29 "DripEars$Scene" "hour" "I", Cond.methodLink RX4 52 yX2_rainAt, Cond.instanceMethod yX2_rainAt, Cond.selects RX2 yX2_rainAt yX2_rainAt, Cond.initialized RX2, Cond.code yX2_rainAt cX2_rainAt 2 (some .int), Cond.fieldLink RX2 37 "DripEars$Lane" "rains" "I", Cond.fieldLink RX2 27 "DripEars$Lane" "rain" "[I", Cond.methodLink RX4 86 yX4_passHourBy, Cond.instanceMethod yX4_passHourBy, Cond.selects RX4 yX4_passHourBy yX4_passHourBy, Cond.code yX4_passHourBy cX4_passHourBy 5 (some .int), Cond.fieldLink RX4 89 "DripEars$Lane" "thing" "[I", Cond.fieldLink RX4 25 "DripEars$Scene" "dry" "I", Cond.methodLink RX4 96 Lib.Math.min.name]
def wsX5_comesAbout_r2 : List Cond := [Cond.static Lib.Math.min.name, Cond.initialized "java/lang/Math", Cond.code Lib.Math.min.name Lib.Math.min.code 2 (some .int), Cond.methodLink RX4 58 yX2_sayingAt, Cond.instanceMethod yX2_sayingAt, Cond.selects RX2 yX2_sayingAt yX2_sayingAt, Cond.code yX2_sayingAt cX2_sayingAt 2 (some .int), Cond.fieldLink RX2 34 "DripEars$Lane" "sayings" "I", Cond.methodLink RX4 65 yX2_hasSaying, Cond.instanceMethod yX2_hasSaying, Cond.selects RX2 yX2_hasSaying yX2_hasSaying, Cond.code yX2_hasSaying cX2_hasSaying 2 (some .boolean), Cond.methodLink RX4 55 yX4_housesThatHearBy, Cond.instanceMethod yX4_housesThatHearBy, Cond.selects RX4 yX4_housesThatHearBy yX4_housesThatHearBy, Cond.code yX4_housesThatHearBy cX4_housesThatHearBy 10 (some .int), Cond.fieldLink RX4 69 "DripEars$Lane" "place" "[I", Cond.fieldLink RX4 72 "DripEars$Lane" "loud" "[I", Cond.fieldLink RX4 18 "DripEars$Scene" "voice" "[I", Cond.fieldLink RX4 75 "DripEars$Lane" "wall" "[I", Cond.fieldLink RX4 43 "DripEars$Lane" "houses" "I", Cond.fieldLink RX4 38 "DripEars$Lane" "kind" "[I", Cond.fieldLink RX4 9 "DripEars$Scene" "hearer" "[I", Cond.methodLink RX4 78 Lib.Math.abs.name]
def wsX5_comesAbout_r3 : List Cond := [Cond.static Lib.Math.abs.name, Cond.code Lib.Math.abs.name Lib.Math.abs.code 1 (some .int), Cond.methodLink RX4 61 yX4_areStrayed, Cond.instanceMethod yX4_areStrayed, Cond.selects RX4 yX4_areStrayed yX4_areStrayed, Cond.code yX4_areStrayed cX4_areStrayed 1 (some .boolean), Cond.methodLink RX4 92 yX4_tellAt, Cond.instanceMethod yX4_tellAt, Cond.selects RX4 yX4_tellAt yX4_tellAt, Cond.code yX4_tellAt cX4_tellAt 5 (some .int), Cond.fieldLink RX4 15 "DripEars$Scene" "knows" "[I", Cond.methodLink RX4 99 yX2_allHouses, Cond.instanceMethod yX2_allHouses, Cond.selects RX2 yX2_allHouses yX2_allHouses, Cond.code yX2_allHouses cX2_allHouses 1 (some .int), Cond.fieldLink RX2 30 "DripEars$Lane" "houses" "I", Cond.methodLink RX4 103 yX4_knownBy, Cond.instanceMethod yX4_knownBy, Cond.selects RX4 yX4_knownBy yX4_knownBy, Cond.code yX4_knownBy cX4_knownBy 4 (some .int), Cond.methodLink RX4 46 yJ6_bitCount_0f7a4, Cond.static yJ6_bitCount_0f7a4, Cond.initialized RJ6, Cond.code yJ6_bitCount_0f7a4 cJ6_bitCount_0f7a4 1 (some .int)]
def wsX5_comesAbout_r4 : List Cond := [Cond.constant RJ6 265 (1431655765), Cond.constant RJ6 266 (858993459), Cond.constant RJ6 267 (252645135), Cond.methodLink RX5 148 yX4_tryLowered, Cond.instanceMethod yX4_tryLowered, Cond.selects RX4 yX4_tryLowered yX4_tryLowered, Cond.code yX4_tryLowered cX4_tryLowered 2 (some .boolean), Cond.methodLink RX4 109 yX4_canBeLowered, Cond.instanceMethod yX4_canBeLowered, Cond.selects RX4 yX4_canBeLowered yX4_canBeLowered, Cond.code yX4_canBeLowered cX4_canBeLowered 2 (some .boolean), Cond.methodLink RX4 106 yX2_hasHouse, Cond.instanceMethod yX2_hasHouse, Cond.selects RX2 yX2_hasHouse yX2_hasHouse, Cond.code yX2_hasHouse cX2_hasHouse 2 (some .boolean), Cond.methodLink RX5 154 yX4_tryRaised, Cond.instanceMethod yX4_tryRaised, Cond.selects RX4 yX4_tryRaised yX4_tryRaised, Cond.code yX4_tryRaised cX4_tryRaised 2 (some .boolean), Cond.methodLink RX4 112 yX4_canBeRaised, Cond.instanceMethod yX4_canBeRaised, Cond.selects RX4 yX4_canBeRaised yX4_canBeRaised, Cond.code yX4_canBeRaised cX4_canBeRaised 2 (some .boolean), Cond.methodLink RX5 157 yX4_tryChanged]
def wsX5_comesAbout_r5 : List Cond := [Cond.instanceMethod yX4_tryChanged, Cond.selects RX4 yX4_tryChanged yX4_tryChanged, Cond.code yX4_tryChanged cX4_tryChanged 5 (some .boolean), Cond.methodLink RX5 164 yX4_tryPlate, Cond.instanceMethod yX4_tryPlate, Cond.selects RX4 yX4_tryPlate yX4_tryPlate, Cond.code yX4_tryPlate cX4_tryPlate 2 (some .boolean), Cond.methodLink RX4 115 yX2_hasNext, Cond.instanceMethod yX2_hasNext, Cond.selects RX2 yX2_hasNext yX2_hasNext, Cond.code yX2_hasNext cX2_hasNext 2 (some .boolean), Cond.methodLink RX5 102 yX2_hasHouse, Cond.methodLink RX5 179 yX5_isThing, Cond.static yX5_isThing, Cond.initialized RX5, Cond.code yX5_isThing cX5_isThing 1 (some .boolean), Cond.methodLink RX5 182 yX4_knowsThing, Cond.instanceMethod yX4_knowsThing, Cond.selects RX4 yX4_knowsThing yX4_knowsThing, Cond.code yX4_knowsThing cX4_knowsThing 3 (some .boolean)]
def wsX5_comesAbout : List Cond := .code yX5_comesAbout cX5_comesAbout 4 (some .boolean) :: ((wsX5_comesAbout_r1 ++ (wsX5_comesAbout_r2 ++ (wsX5_comesAbout_r3 ++ (wsX5_comesAbout_r4 ++ wsX5_comesAbout_r5)))) ++ wsX50 ++ wsX40 ++ wsX20)
def wsX5_judge_r1 : List Cond := [Cond.fieldLink RX5 56 "DripEars" "trial" "LDripEars$Scene;", Cond.fieldLink RX5 52 "DripEars" "now" "LDripEars$Scene;", Cond.fieldLink RX5 23 "DripEars" "doings" "[I", Cond.methodLink RX5 209 yX5_fillDoings, Cond.instanceMethod yX5_fillDoings, Cond.selects RX5 yX5_fillDoings yX5_fillDoings, Cond.initialized RX5, Cond.code yX5_fillDoings cX5_fillDoings 7 (some .boolean), Cond.constantLong RX5 290 (10), Cond.methodLink RX5 173 yX4_take, Cond.instanceMethod yX4_take, Cond.selects RX4 yX4_take yX4_take, Cond.initialized RX4, Cond.code yX4_take cX4_take 2 none, Cond.fieldLink RX4 9 "DripEars$Scene" "hearer" "[I", Cond.methodLink RX4 32 arraycopyName, Cond.native arraycopyName, Cond.static arraycopyName, Cond.initialized "java/lang/System", Cond.fieldLink RX4 15 "DripEars$Scene" "knows" "[I", Cond.fieldLink RX4 18 "DripEars$Scene" "voice" "[I", Cond.fieldLink RX4 25 "DripEars$Scene" "dry" "I", Cond.fieldLink RX4 29 "DripEars$Scene" "hour" "I", Cond.methodLink RX5 213 yX5_comesAbout]
def wsX5_judge_r2 : List Cond := [Cond.instanceMethod yX5_comesAbout, Cond.selects RX5 yX5_comesAbout yX5_comesAbout, Cond.code yX5_comesAbout cX5_comesAbout 4 (some .boolean), Cond.fieldLink RX5 38 "DripEars" "told" "LDripEars$Lane;", Cond.fieldLink RX5 271 "DripEars$Scene" "dry" "I", Cond.methodLink RX5 142 yX4_passHour, Cond.instanceMethod yX4_passHour, Cond.selects RX4 yX4_passHour yX4_passHour, Cond.code yX4_passHour cX4_passHour 1 (some .int), Cond.fieldLink RX4 21 "DripEars$Scene" "lane" "LDripEars$Lane;", Cond.methodLink RX4 52 yX2_rainAt, Cond.instanceMethod yX2_rainAt, Cond.selects RX2 yX2_rainAt yX2_rainAt, Cond.initialized RX2, Cond.code yX2_rainAt cX2_rainAt 2 (some .int), Cond.fieldLink RX2 37 "DripEars$Lane" "rains" "I", Cond.fieldLink RX2 27 "DripEars$Lane" "rain" "[I", Cond.methodLink RX4 86 yX4_passHourBy, Cond.instanceMethod yX4_passHourBy, Cond.selects RX4 yX4_passHourBy yX4_passHourBy, Cond.code yX4_passHourBy cX4_passHourBy 5 (some .int), Cond.fieldLink RX4 89 "DripEars$Lane" "thing" "[I", Cond.methodLink RX4 96 Lib.Math.min.name, Cond.static Lib.Math.min.name]
def wsX5_judge_r3 : List Cond := [Cond.initialized "java/lang/Math", Cond.code Lib.Math.min.name Lib.Math.min.code 2 (some .int), Cond.methodLink RX4 58 yX2_sayingAt, Cond.instanceMethod yX2_sayingAt, Cond.selects RX2 yX2_sayingAt yX2_sayingAt, Cond.code yX2_sayingAt cX2_sayingAt 2 (some .int), Cond.fieldLink RX2 34 "DripEars$Lane" "sayings" "I", Cond.methodLink RX4 65 yX2_hasSaying, Cond.instanceMethod yX2_hasSaying, Cond.selects RX2 yX2_hasSaying yX2_hasSaying, Cond.code yX2_hasSaying cX2_hasSaying 2 (some .boolean), Cond.methodLink RX4 55 yX4_housesThatHearBy, Cond.instanceMethod yX4_housesThatHearBy, Cond.selects RX4 yX4_housesThatHearBy yX4_housesThatHearBy, Cond.code yX4_housesThatHearBy cX4_housesThatHearBy 10 (some .int), Cond.fieldLink RX4 69 "DripEars$Lane" "place" "[I", Cond.fieldLink RX4 72 "DripEars$Lane" "loud" "[I", Cond.fieldLink RX4 75 "DripEars$Lane" "wall" "[I", Cond.fieldLink RX4 43 "DripEars$Lane" "houses" "I", Cond.fieldLink RX4 38 "DripEars$Lane" "kind" "[I", Cond.methodLink RX4 78 Lib.Math.abs.name, Cond.static Lib.Math.abs.name, Cond.code Lib.Math.abs.name Lib.Math.abs.code 1 (some .int), Cond.methodLink RX4 61 yX4_areStrayed]
def wsX5_judge_r4 : List Cond := [Cond.instanceMethod yX4_areStrayed, Cond.selects RX4 yX4_areStrayed yX4_areStrayed, Cond.code yX4_areStrayed cX4_areStrayed 1 (some .boolean), Cond.methodLink RX4 92 yX4_tellAt, Cond.instanceMethod yX4_tellAt, Cond.selects RX4 yX4_tellAt yX4_tellAt, Cond.code yX4_tellAt cX4_tellAt 5 (some .int), Cond.methodLink RX4 99 yX2_allHouses, Cond.instanceMethod yX2_allHouses, Cond.selects RX2 yX2_allHouses yX2_allHouses, Cond.code yX2_allHouses cX2_allHouses 1 (some .int), Cond.fieldLink RX2 30 "DripEars$Lane" "houses" "I", Cond.methodLink RX4 103 yX4_knownBy, Cond.instanceMethod yX4_knownBy, Cond.selects RX4 yX4_knownBy yX4_knownBy, Cond.code yX4_knownBy cX4_knownBy 4 (some .int), Cond.methodLink RX4 46 yJ6_bitCount_0f7a4, Cond.static yJ6_bitCount_0f7a4, Cond.initialized RJ6, Cond.code yJ6_bitCount_0f7a4 cJ6_bitCount_0f7a4 1 (some .int), Cond.constant RJ6 265 (1431655765), Cond.constant RJ6 266 (858993459), Cond.constant RJ6 267 (252645135), Cond.methodLink RX5 148 yX4_tryLowered]
def wsX5_judge_r5 : List Cond := [Cond.instanceMethod yX4_tryLowered, Cond.selects RX4 yX4_tryLowered yX4_tryLowered, Cond.code yX4_tryLowered cX4_tryLowered 2 (some .boolean), Cond.methodLink RX4 109 yX4_canBeLowered, Cond.instanceMethod yX4_canBeLowered, Cond.selects RX4 yX4_canBeLowered yX4_canBeLowered, Cond.code yX4_canBeLowered cX4_canBeLowered 2 (some .boolean), Cond.methodLink RX4 106 yX2_hasHouse, Cond.instanceMethod yX2_hasHouse, Cond.selects RX2 yX2_hasHouse yX2_hasHouse, Cond.code yX2_hasHouse cX2_hasHouse 2 (some .boolean), Cond.methodLink RX5 154 yX4_tryRaised, Cond.instanceMethod yX4_tryRaised, Cond.selects RX4 yX4_tryRaised yX4_tryRaised, Cond.code yX4_tryRaised cX4_tryRaised 2 (some .boolean), Cond.methodLink RX4 112 yX4_canBeRaised, Cond.instanceMethod yX4_canBeRaised, Cond.selects RX4 yX4_canBeRaised yX4_canBeRaised, Cond.code yX4_canBeRaised cX4_canBeRaised 2 (some .boolean), Cond.methodLink RX5 157 yX4_tryChanged, Cond.instanceMethod yX4_tryChanged, Cond.selects RX4 yX4_tryChanged yX4_tryChanged, Cond.code yX4_tryChanged cX4_tryChanged 5 (some .boolean), Cond.methodLink RX5 164 yX4_tryPlate]
def wsX5_judge_r6 : List Cond := [Cond.instanceMethod yX4_tryPlate, Cond.selects RX4 yX4_tryPlate yX4_tryPlate, Cond.code yX4_tryPlate cX4_tryPlate 2 (some .boolean), Cond.methodLink RX4 115 yX2_hasNext, Cond.instanceMethod yX2_hasNext, Cond.selects RX2 yX2_hasNext yX2_hasNext, Cond.code yX2_hasNext cX2_hasNext 2 (some .boolean), Cond.methodLink RX5 102 yX2_hasHouse, Cond.methodLink RX5 179 yX5_isThing, Cond.static yX5_isThing, Cond.code yX5_isThing cX5_isThing 1 (some .boolean), Cond.methodLink RX5 182 yX4_knowsThing, Cond.instanceMethod yX4_knowsThing, Cond.selects RX4 yX4_knowsThing yX4_knowsThing, Cond.code yX4_knowsThing cX4_knowsThing 3 (some .boolean)]
def wsX5_judge : List Cond := .code yX5_judge cX5_judge 6 (some .int) :: ((wsX5_judge_r1 ++ (wsX5_judge_r2 ++ (wsX5_judge_r3 ++ (wsX5_judge_r4 ++ (wsX5_judge_r5 ++ wsX5_judge_r6))))) ++ wsX50 ++ wsX40 ++ wsX20)
def wsX5_isFigure : List Cond := .code yX5_isFigure cX5_isFigure 1 (some .boolean) :: ([])
def wsX5_hear : List Cond := .code yX5_hear cX5_hear 4 (some .int) :: ([.fieldLink RX5 69 "DripEars" "heardSayings" "LDripEars$Heard;", .fieldLink RX5 219 "DripEars$Heard" "size" "I", .methodLink RX5 216 yX5_isFigure, .static yX5_isFigure, .initialized RX5, .code yX5_isFigure cX5_isFigure 1 (some .boolean), .methodLink RX5 185 yX5_isZeroOrOne, .static yX5_isZeroOrOne, .code yX5_isZeroOrOne cX5_isZeroOrOne 1 (some .boolean), .methodLink RX5 220 yX1_add, .instanceMethod yX1_add, .selects RX1 yX1_add yX1_add, .initialized RX1, .code yX1_add cX1_add 4 none, .fieldLink RX1 22 "DripEars$Heard" "size" "I", .fieldLink RX1 9 "DripEars$Heard" "loud" "[I", .fieldLink RX1 15 "DripEars$Heard" "rain" "[I", .fieldLink RX1 18 "DripEars$Heard" "was" "[Z"] ++ wsX50 ++ wsX10)
def wsX5_unhear : List Cond := .code yX5_unhear cX5_unhear 2 (some .int) :: ([.fieldLink RX5 69 "DripEars" "heardSayings" "LDripEars$Heard;", .fieldLink RX5 219 "DripEars$Heard" "size" "I"] ++ wsX50 ++ wsX10)
def wsX5_ears : List Cond := .code yX5_ears cX5_ears 6 (some .int) :: ([.fieldLink RX5 69 "DripEars" "heardSayings" "LDripEars$Heard;", .methodLink RX5 185 yX5_isZeroOrOne, .static yX5_isZeroOrOne, .initialized RX5, .code yX5_isZeroOrOne cX5_isZeroOrOne 1 (some .boolean), .methodLink RX5 224 yX1_fits, .instanceMethod yX1_fits, .selects RX1 yX1_fits yX1_fits, .initialized RX1, .code yX1_fits cX1_fits 5 (some .boolean), .fieldLink RX1 22 "DripEars$Heard" "size" "I", .fieldLink RX1 9 "DripEars$Heard" "loud" "[I", .fieldLink RX1 15 "DripEars$Heard" "rain" "[I", .fieldLink RX1 18 "DripEars$Heard" "was" "[Z"] ++ wsX50 ++ wsX10)
def wsX5_greatestDivisor : List Cond := .code yX5_greatestDivisor cX5_greatestDivisor 6 (some .int) :: ([])
def wsX5_fraction : List Cond := .code yX5_fraction cX5_fraction 4 (some .int) :: ([.methodLink RX5 278 yX5_greatestDivisor, .static yX5_greatestDivisor, .initialized RX5, .code yX5_greatestDivisor cX5_greatestDivisor 6 (some .int)])
def wsX5_share_r1 : List Cond := [Cond.fieldLink RX5 38 "DripEars" "told" "LDripEars$Lane;", Cond.fieldLink RX5 52 "DripEars" "now" "LDripEars$Scene;", Cond.methodLink RX5 102 yX2_hasHouse, Cond.instanceMethod yX2_hasHouse, Cond.selects RX2 yX2_hasHouse yX2_hasHouse, Cond.initialized RX2, Cond.code yX2_hasHouse cX2_hasHouse 2 (some .boolean), Cond.fieldLink RX2 30 "DripEars$Lane" "houses" "I", Cond.methodLink RX5 182 yX4_knowsThing, Cond.instanceMethod yX4_knowsThing, Cond.selects RX4 yX4_knowsThing yX4_knowsThing, Cond.initialized RX4, Cond.code yX4_knowsThing cX4_knowsThing 3 (some .boolean), Cond.fieldLink RX4 15 "DripEars$Scene" "knows" "[I", Cond.methodLink RX5 227 yX4_knowersOf, Cond.instanceMethod yX4_knowersOf, Cond.selects RX4 yX4_knowersOf yX4_knowersOf, Cond.code yX4_knowersOf cX4_knowersOf 4 (some .int), Cond.fieldLink RX4 21 "DripEars$Scene" "lane" "LDripEars$Lane;", Cond.fieldLink RX4 43 "DripEars$Lane" "houses" "I", Cond.methodLink RX5 230 yX5_fraction, Cond.static yX5_fraction, Cond.initialized RX5, Cond.code yX5_fraction cX5_fraction 4 (some .int)]
def wsX5_share_r2 : List Cond := [Cond.methodLink RX5 278 yX5_greatestDivisor, Cond.static yX5_greatestDivisor, Cond.code yX5_greatestDivisor cX5_greatestDivisor 6 (some .int)]
def wsX5_share : List Cond := .code yX5_share cX5_share 6 (some .int) :: ((wsX5_share_r1 ++ wsX5_share_r2) ++ wsX50 ++ wsX20 ++ wsX40)
def wsX5_fillChoices_r1 : List Cond := [Cond.fieldLink RX5 56 "DripEars" "trial" "LDripEars$Scene;", Cond.fieldLink RX5 52 "DripEars" "now" "LDripEars$Scene;", Cond.fieldLink RX5 29 "DripEars" "oneHas" "[I", Cond.fieldLink RX5 116 "DripEars$Scene" "knows" "[I", Cond.fieldLink RX5 32 "DripEars" "otherHas" "[I", Cond.methodLink RX5 173 yX4_take, Cond.instanceMethod yX4_take, Cond.selects RX4 yX4_take yX4_take, Cond.initialized RX4, Cond.code yX4_take cX4_take 2 none, Cond.fieldLink RX4 9 "DripEars$Scene" "hearer" "[I", Cond.methodLink RX4 32 arraycopyName, Cond.native arraycopyName, Cond.static arraycopyName, Cond.initialized "java/lang/System", Cond.fieldLink RX4 15 "DripEars$Scene" "knows" "[I", Cond.fieldLink RX4 18 "DripEars$Scene" "voice" "[I", Cond.fieldLink RX4 25 "DripEars$Scene" "dry" "I", Cond.fieldLink RX4 29 "DripEars$Scene" "hour" "I", Cond.methodLink RX5 148 yX4_tryLowered, Cond.instanceMethod yX4_tryLowered, Cond.selects RX4 yX4_tryLowered yX4_tryLowered, Cond.code yX4_tryLowered cX4_tryLowered 2 (some .boolean), Cond.methodLink RX4 109 yX4_canBeLowered]
def wsX5_fillChoices_r2 : List Cond := [Cond.instanceMethod yX4_canBeLowered, Cond.selects RX4 yX4_canBeLowered yX4_canBeLowered, Cond.code yX4_canBeLowered cX4_canBeLowered 2 (some .boolean), Cond.fieldLink RX4 21 "DripEars$Scene" "lane" "LDripEars$Lane;", Cond.methodLink RX4 106 yX2_hasHouse, Cond.instanceMethod yX2_hasHouse, Cond.selects RX2 yX2_hasHouse yX2_hasHouse, Cond.initialized RX2, Cond.code yX2_hasHouse cX2_hasHouse 2 (some .boolean), Cond.fieldLink RX2 30 "DripEars$Lane" "houses" "I", Cond.methodLink RX5 175 yX4_passHours, Cond.instanceMethod yX4_passHours, Cond.selects RX4 yX4_passHours yX4_passHours, Cond.code yX4_passHours cX4_passHours 3 none, Cond.methodLink RX4 52 yX2_rainAt, Cond.instanceMethod yX2_rainAt, Cond.selects RX2 yX2_rainAt yX2_rainAt, Cond.code yX2_rainAt cX2_rainAt 2 (some .int), Cond.fieldLink RX2 37 "DripEars$Lane" "rains" "I", Cond.fieldLink RX2 27 "DripEars$Lane" "rain" "[I", Cond.methodLink RX4 86 yX4_passHourBy, Cond.instanceMethod yX4_passHourBy, Cond.selects RX4 yX4_passHourBy yX4_passHourBy, Cond.code yX4_passHourBy cX4_passHourBy 5 (some .int)]
def wsX5_fillChoices_r3 : List Cond := [Cond.fieldLink RX4 89 "DripEars$Lane" "thing" "[I", Cond.methodLink RX4 96 Lib.Math.min.name, Cond.static Lib.Math.min.name, Cond.initialized "java/lang/Math", Cond.code Lib.Math.min.name Lib.Math.min.code 2 (some .int), Cond.methodLink RX4 58 yX2_sayingAt, Cond.instanceMethod yX2_sayingAt, Cond.selects RX2 yX2_sayingAt yX2_sayingAt, Cond.code yX2_sayingAt cX2_sayingAt 2 (some .int), Cond.fieldLink RX2 34 "DripEars$Lane" "sayings" "I", Cond.methodLink RX4 65 yX2_hasSaying, Cond.instanceMethod yX2_hasSaying, Cond.selects RX2 yX2_hasSaying yX2_hasSaying, Cond.code yX2_hasSaying cX2_hasSaying 2 (some .boolean), Cond.methodLink RX4 55 yX4_housesThatHearBy, Cond.instanceMethod yX4_housesThatHearBy, Cond.selects RX4 yX4_housesThatHearBy yX4_housesThatHearBy, Cond.code yX4_housesThatHearBy cX4_housesThatHearBy 10 (some .int), Cond.fieldLink RX4 69 "DripEars$Lane" "place" "[I", Cond.fieldLink RX4 72 "DripEars$Lane" "loud" "[I", Cond.fieldLink RX4 75 "DripEars$Lane" "wall" "[I", Cond.fieldLink RX4 43 "DripEars$Lane" "houses" "I", Cond.fieldLink RX4 38 "DripEars$Lane" "kind" "[I", Cond.methodLink RX4 78 Lib.Math.abs.name]
def wsX5_fillChoices_r4 : List Cond := [Cond.static Lib.Math.abs.name, Cond.code Lib.Math.abs.name Lib.Math.abs.code 1 (some .int), Cond.methodLink RX4 61 yX4_areStrayed, Cond.instanceMethod yX4_areStrayed, Cond.selects RX4 yX4_areStrayed yX4_areStrayed, Cond.code yX4_areStrayed cX4_areStrayed 1 (some .boolean), Cond.methodLink RX4 92 yX4_tellAt, Cond.instanceMethod yX4_tellAt, Cond.selects RX4 yX4_tellAt yX4_tellAt, Cond.code yX4_tellAt cX4_tellAt 5 (some .int), Cond.methodLink RX4 99 yX2_allHouses, Cond.instanceMethod yX2_allHouses, Cond.selects RX2 yX2_allHouses yX2_allHouses, Cond.code yX2_allHouses cX2_allHouses 1 (some .int), Cond.methodLink RX4 103 yX4_knownBy, Cond.instanceMethod yX4_knownBy, Cond.selects RX4 yX4_knownBy yX4_knownBy, Cond.code yX4_knownBy cX4_knownBy 4 (some .int), Cond.methodLink RX4 46 yJ6_bitCount_0f7a4, Cond.static yJ6_bitCount_0f7a4, Cond.initialized RJ6, Cond.code yJ6_bitCount_0f7a4 cJ6_bitCount_0f7a4 1 (some .int), Cond.constant RJ6 265 (1431655765), Cond.constant RJ6 266 (858993459)]
def wsX5_fillChoices_r5 : List Cond := [Cond.constant RJ6 267 (252645135), Cond.methodLink RX5 201 yJ6_bitCount_0f7a4]
def wsX5_fillChoices : List Cond := .code yX5_fillChoices cX5_fillChoices 6 none :: ((wsX5_fillChoices_r1 ++ (wsX5_fillChoices_r2 ++ (wsX5_fillChoices_r3 ++ (wsX5_fillChoices_r4 ++ wsX5_fillChoices_r5)))) ++ wsX50 ++ wsX40 ++ wsX20)
def wsX5_rests_r1 : List Cond := [Cond.fieldLink RX5 38 "DripEars" "told" "LDripEars$Lane;", Cond.fieldLink RX5 29 "DripEars" "oneHas" "[I", Cond.fieldLink RX5 32 "DripEars" "otherHas" "[I", Cond.methodLink RX5 102 yX2_hasHouse, Cond.instanceMethod yX2_hasHouse, Cond.selects RX2 yX2_hasHouse yX2_hasHouse, Cond.initialized RX2, Cond.code yX2_hasHouse cX2_hasHouse 2 (some .boolean), Cond.fieldLink RX2 30 "DripEars$Lane" "houses" "I", Cond.methodLink RX5 185 yX5_isZeroOrOne, Cond.static yX5_isZeroOrOne, Cond.initialized RX5, Cond.code yX5_isZeroOrOne cX5_isZeroOrOne 1 (some .boolean), Cond.methodLink RX5 234 yX5_fillChoices, Cond.instanceMethod yX5_fillChoices, Cond.selects RX5 yX5_fillChoices yX5_fillChoices, Cond.code yX5_fillChoices cX5_fillChoices 6 none, Cond.fieldLink RX5 56 "DripEars" "trial" "LDripEars$Scene;", Cond.fieldLink RX5 52 "DripEars" "now" "LDripEars$Scene;", Cond.fieldLink RX5 116 "DripEars$Scene" "knows" "[I", Cond.methodLink RX5 173 yX4_take, Cond.instanceMethod yX4_take, Cond.selects RX4 yX4_take yX4_take, Cond.initialized RX4]
def wsX5_rests_r2 : List Cond := [Cond.code yX4_take cX4_take 2 none, Cond.fieldLink RX4 9 "DripEars$Scene" "hearer" "[I", Cond.methodLink RX4 32 arraycopyName, Cond.native arraycopyName, Cond.static arraycopyName, Cond.initialized "java/lang/System", Cond.fieldLink RX4 15 "DripEars$Scene" "knows" "[I", Cond.fieldLink RX4 18 "DripEars$Scene" "voice" "[I", Cond.fieldLink RX4 25 "DripEars$Scene" "dry" "I", Cond.fieldLink RX4 29 "DripEars$Scene" "hour" "I", Cond.methodLink RX5 148 yX4_tryLowered, Cond.instanceMethod yX4_tryLowered, Cond.selects RX4 yX4_tryLowered yX4_tryLowered, Cond.code yX4_tryLowered cX4_tryLowered 2 (some .boolean), Cond.methodLink RX4 109 yX4_canBeLowered, Cond.instanceMethod yX4_canBeLowered, Cond.selects RX4 yX4_canBeLowered yX4_canBeLowered, Cond.code yX4_canBeLowered cX4_canBeLowered 2 (some .boolean), Cond.fieldLink RX4 21 "DripEars$Scene" "lane" "LDripEars$Lane;", Cond.methodLink RX4 106 yX2_hasHouse, Cond.methodLink RX5 175 yX4_passHours, Cond.instanceMethod yX4_passHours, Cond.selects RX4 yX4_passHours yX4_passHours, Cond.code yX4_passHours cX4_passHours 3 none]
def wsX5_rests_r3 : List Cond := [Cond.methodLink RX4 52 yX2_rainAt, Cond.instanceMethod yX2_rainAt, Cond.selects RX2 yX2_rainAt yX2_rainAt, Cond.code yX2_rainAt cX2_rainAt 2 (some .int), Cond.fieldLink RX2 37 "DripEars$Lane" "rains" "I", Cond.fieldLink RX2 27 "DripEars$Lane" "rain" "[I", Cond.methodLink RX4 86 yX4_passHourBy, Cond.instanceMethod yX4_passHourBy, Cond.selects RX4 yX4_passHourBy yX4_passHourBy, Cond.code yX4_passHourBy cX4_passHourBy 5 (some .int), Cond.fieldLink RX4 89 "DripEars$Lane" "thing" "[I", Cond.methodLink RX4 96 Lib.Math.min.name, Cond.static Lib.Math.min.name, Cond.initialized "java/lang/Math", Cond.code Lib.Math.min.name Lib.Math.min.code 2 (some .int), Cond.methodLink RX4 58 yX2_sayingAt, Cond.instanceMethod yX2_sayingAt, Cond.selects RX2 yX2_sayingAt yX2_sayingAt, Cond.code yX2_sayingAt cX2_sayingAt 2 (some .int), Cond.fieldLink RX2 34 "DripEars$Lane" "sayings" "I", Cond.methodLink RX4 65 yX2_hasSaying, Cond.instanceMethod yX2_hasSaying, Cond.selects RX2 yX2_hasSaying yX2_hasSaying, Cond.code yX2_hasSaying cX2_hasSaying 2 (some .boolean)]
def wsX5_rests_r4 : List Cond := [Cond.methodLink RX4 55 yX4_housesThatHearBy, Cond.instanceMethod yX4_housesThatHearBy, Cond.selects RX4 yX4_housesThatHearBy yX4_housesThatHearBy, Cond.code yX4_housesThatHearBy cX4_housesThatHearBy 10 (some .int), Cond.fieldLink RX4 69 "DripEars$Lane" "place" "[I", Cond.fieldLink RX4 72 "DripEars$Lane" "loud" "[I", Cond.fieldLink RX4 75 "DripEars$Lane" "wall" "[I", Cond.fieldLink RX4 43 "DripEars$Lane" "houses" "I", Cond.fieldLink RX4 38 "DripEars$Lane" "kind" "[I", Cond.methodLink RX4 78 Lib.Math.abs.name, Cond.static Lib.Math.abs.name, Cond.code Lib.Math.abs.name Lib.Math.abs.code 1 (some .int), Cond.methodLink RX4 61 yX4_areStrayed, Cond.instanceMethod yX4_areStrayed, Cond.selects RX4 yX4_areStrayed yX4_areStrayed, Cond.code yX4_areStrayed cX4_areStrayed 1 (some .boolean), Cond.methodLink RX4 92 yX4_tellAt, Cond.instanceMethod yX4_tellAt, Cond.selects RX4 yX4_tellAt yX4_tellAt, Cond.code yX4_tellAt cX4_tellAt 5 (some .int), Cond.methodLink RX4 99 yX2_allHouses, Cond.instanceMethod yX2_allHouses, Cond.selects RX2 yX2_allHouses yX2_allHouses, Cond.code yX2_allHouses cX2_allHouses 1 (some .int)]
def wsX5_rests_r5 : List Cond := [Cond.methodLink RX4 103 yX4_knownBy, Cond.instanceMethod yX4_knownBy, Cond.selects RX4 yX4_knownBy yX4_knownBy, Cond.code yX4_knownBy cX4_knownBy 4 (some .int), Cond.methodLink RX4 46 yJ6_bitCount_0f7a4, Cond.static yJ6_bitCount_0f7a4, Cond.initialized RJ6, Cond.code yJ6_bitCount_0f7a4 cJ6_bitCount_0f7a4 1 (some .int), Cond.constant RJ6 265 (1431655765), Cond.constant RJ6 266 (858993459), Cond.constant RJ6 267 (252645135), Cond.methodLink RX5 201 yJ6_bitCount_0f7a4]
def wsX5_rests : List Cond := .code yX5_rests cX5_rests 7 (some .int) :: ((wsX5_rests_r1 ++ (wsX5_rests_r2 ++ (wsX5_rests_r3 ++ (wsX5_rests_r4 ++ wsX5_rests_r5)))) ++ wsX50 ++ wsX20 ++ wsX40)
def wsX5_weightOf : List Cond := .code yX5_weightOf cX5_weightOf 5 (some .int) :: ([])
def wsX5_knowsBehind_r1 : List Cond := [Cond.fieldLink RX5 56 "DripEars" "trial" "LDripEars$Scene;", Cond.fieldLink RX5 52 "DripEars" "now" "LDripEars$Scene;", Cond.fieldLink RX5 38 "DripEars" "told" "LDripEars$Lane;", Cond.fieldLink RX5 265 "DripEars$Scene" "hour" "I", Cond.methodLink RX5 173 yX4_take, Cond.instanceMethod yX4_take, Cond.selects RX4 yX4_take yX4_take, Cond.initialized RX4, Cond.code yX4_take cX4_take 2 none, Cond.fieldLink RX4 9 "DripEars$Scene" "hearer" "[I", Cond.methodLink RX4 32 arraycopyName, Cond.native arraycopyName, Cond.static arraycopyName, Cond.initialized "java/lang/System", Cond.fieldLink RX4 15 "DripEars$Scene" "knows" "[I", Cond.fieldLink RX4 18 "DripEars$Scene" "voice" "[I", Cond.fieldLink RX4 25 "DripEars$Scene" "dry" "I", Cond.fieldLink RX4 29 "DripEars$Scene" "hour" "I", Cond.methodLink RX5 268 yX2_rainAt, Cond.instanceMethod yX2_rainAt, Cond.selects RX2 yX2_rainAt yX2_rainAt, Cond.initialized RX2, Cond.code yX2_rainAt cX2_rainAt 2 (some .int), Cond.fieldLink RX2 37 "DripEars$Lane" "rains" "I"]
def wsX5_knowsBehind_r2 : List Cond := [Cond.fieldLink RX2 27 "DripEars$Lane" "rain" "[I", Cond.methodLink RX5 292 yX4_passHourBy, Cond.instanceMethod yX4_passHourBy, Cond.selects RX4 yX4_passHourBy yX4_passHourBy, Cond.code yX4_passHourBy cX4_passHourBy 5 (some .int), Cond.fieldLink RX4 21 "DripEars$Scene" "lane" "LDripEars$Lane;", Cond.fieldLink RX4 89 "DripEars$Lane" "thing" "[I", Cond.methodLink RX4 96 Lib.Math.min.name, Cond.static Lib.Math.min.name, Cond.initialized "java/lang/Math", Cond.code Lib.Math.min.name Lib.Math.min.code 2 (some .int), Cond.methodLink RX4 58 yX2_sayingAt, Cond.instanceMethod yX2_sayingAt, Cond.selects RX2 yX2_sayingAt yX2_sayingAt, Cond.code yX2_sayingAt cX2_sayingAt 2 (some .int), Cond.fieldLink RX2 34 "DripEars$Lane" "sayings" "I", Cond.methodLink RX4 65 yX2_hasSaying, Cond.instanceMethod yX2_hasSaying, Cond.selects RX2 yX2_hasSaying yX2_hasSaying, Cond.code yX2_hasSaying cX2_hasSaying 2 (some .boolean), Cond.methodLink RX4 55 yX4_housesThatHearBy, Cond.instanceMethod yX4_housesThatHearBy, Cond.selects RX4 yX4_housesThatHearBy yX4_housesThatHearBy, Cond.code yX4_housesThatHearBy cX4_housesThatHearBy 10 (some .int)]
def wsX5_knowsBehind_r3 : List Cond := [Cond.fieldLink RX4 69 "DripEars$Lane" "place" "[I", Cond.fieldLink RX4 72 "DripEars$Lane" "loud" "[I", Cond.fieldLink RX4 75 "DripEars$Lane" "wall" "[I", Cond.fieldLink RX4 43 "DripEars$Lane" "houses" "I", Cond.fieldLink RX4 38 "DripEars$Lane" "kind" "[I", Cond.methodLink RX4 78 Lib.Math.abs.name, Cond.static Lib.Math.abs.name, Cond.code Lib.Math.abs.name Lib.Math.abs.code 1 (some .int), Cond.methodLink RX4 61 yX4_areStrayed, Cond.instanceMethod yX4_areStrayed, Cond.selects RX4 yX4_areStrayed yX4_areStrayed, Cond.code yX4_areStrayed cX4_areStrayed 1 (some .boolean), Cond.methodLink RX4 92 yX4_tellAt, Cond.instanceMethod yX4_tellAt, Cond.selects RX4 yX4_tellAt yX4_tellAt, Cond.code yX4_tellAt cX4_tellAt 5 (some .int), Cond.methodLink RX4 99 yX2_allHouses, Cond.instanceMethod yX2_allHouses, Cond.selects RX2 yX2_allHouses yX2_allHouses, Cond.code yX2_allHouses cX2_allHouses 1 (some .int), Cond.fieldLink RX2 30 "DripEars$Lane" "houses" "I", Cond.methodLink RX4 103 yX4_knownBy, Cond.instanceMethod yX4_knownBy, Cond.selects RX4 yX4_knownBy yX4_knownBy]
def wsX5_knowsBehind_r4 : List Cond := [Cond.code yX4_knownBy cX4_knownBy 4 (some .int), Cond.methodLink RX4 46 yJ6_bitCount_0f7a4, Cond.static yJ6_bitCount_0f7a4, Cond.initialized RJ6, Cond.code yJ6_bitCount_0f7a4 cJ6_bitCount_0f7a4 1 (some .int), Cond.constant RJ6 265 (1431655765), Cond.constant RJ6 266 (858993459), Cond.constant RJ6 267 (252645135), Cond.methodLink RX5 182 yX4_knowsThing, Cond.instanceMethod yX4_knowsThing, Cond.selects RX4 yX4_knowsThing yX4_knowsThing, Cond.code yX4_knowsThing cX4_knowsThing 3 (some .boolean)]
def wsX5_knowsBehind : List Cond := .code yX5_knowsBehind cX5_knowsBehind 7 (some .boolean) :: ((wsX5_knowsBehind_r1 ++ (wsX5_knowsBehind_r2 ++ (wsX5_knowsBehind_r3 ++ wsX5_knowsBehind_r4))) ++ wsX50 ++ wsX40 ++ wsX20)
def wsX5_tenToThe : List Cond := .code yX5_tenToThe cX5_tenToThe 3 (some .int) :: ([])
def wsX5_dries_r1 : List Cond := [Cond.fieldLink RX5 38 "DripEars" "told" "LDripEars$Lane;", Cond.methodLink RX5 102 yX2_hasHouse, Cond.instanceMethod yX2_hasHouse, Cond.selects RX2 yX2_hasHouse yX2_hasHouse, Cond.initialized RX2, Cond.code yX2_hasHouse cX2_hasHouse 2 (some .boolean), Cond.fieldLink RX2 30 "DripEars$Lane" "houses" "I", Cond.methodLink RX5 179 yX5_isThing, Cond.static yX5_isThing, Cond.initialized RX5, Cond.code yX5_isThing cX5_isThing 1 (some .boolean), Cond.methodLink RX5 238 yX5_weightOf, Cond.static yX5_weightOf, Cond.code yX5_weightOf cX5_weightOf 5 (some .int), Cond.methodLink RX5 242 yX5_knowsBehind, Cond.instanceMethod yX5_knowsBehind, Cond.selects RX5 yX5_knowsBehind yX5_knowsBehind, Cond.code yX5_knowsBehind cX5_knowsBehind 7 (some .boolean), Cond.fieldLink RX5 56 "DripEars" "trial" "LDripEars$Scene;", Cond.fieldLink RX5 52 "DripEars" "now" "LDripEars$Scene;", Cond.fieldLink RX5 265 "DripEars$Scene" "hour" "I", Cond.methodLink RX5 173 yX4_take, Cond.instanceMethod yX4_take, Cond.selects RX4 yX4_take yX4_take]
def wsX5_dries_r2 : List Cond := [Cond.initialized RX4, Cond.code yX4_take cX4_take 2 none, Cond.fieldLink RX4 9 "DripEars$Scene" "hearer" "[I", Cond.methodLink RX4 32 arraycopyName, Cond.native arraycopyName, Cond.static arraycopyName, Cond.initialized "java/lang/System", Cond.fieldLink RX4 15 "DripEars$Scene" "knows" "[I", Cond.fieldLink RX4 18 "DripEars$Scene" "voice" "[I", Cond.fieldLink RX4 25 "DripEars$Scene" "dry" "I", Cond.fieldLink RX4 29 "DripEars$Scene" "hour" "I", Cond.methodLink RX5 268 yX2_rainAt, Cond.instanceMethod yX2_rainAt, Cond.selects RX2 yX2_rainAt yX2_rainAt, Cond.code yX2_rainAt cX2_rainAt 2 (some .int), Cond.fieldLink RX2 37 "DripEars$Lane" "rains" "I", Cond.fieldLink RX2 27 "DripEars$Lane" "rain" "[I", Cond.methodLink RX5 292 yX4_passHourBy, Cond.instanceMethod yX4_passHourBy, Cond.selects RX4 yX4_passHourBy yX4_passHourBy, Cond.code yX4_passHourBy cX4_passHourBy 5 (some .int), Cond.fieldLink RX4 21 "DripEars$Scene" "lane" "LDripEars$Lane;", Cond.fieldLink RX4 89 "DripEars$Lane" "thing" "[I", Cond.methodLink RX4 96 Lib.Math.min.name]
def wsX5_dries_r3 : List Cond := [Cond.static Lib.Math.min.name, Cond.initialized "java/lang/Math", Cond.code Lib.Math.min.name Lib.Math.min.code 2 (some .int), Cond.methodLink RX4 58 yX2_sayingAt, Cond.instanceMethod yX2_sayingAt, Cond.selects RX2 yX2_sayingAt yX2_sayingAt, Cond.code yX2_sayingAt cX2_sayingAt 2 (some .int), Cond.fieldLink RX2 34 "DripEars$Lane" "sayings" "I", Cond.methodLink RX4 65 yX2_hasSaying, Cond.instanceMethod yX2_hasSaying, Cond.selects RX2 yX2_hasSaying yX2_hasSaying, Cond.code yX2_hasSaying cX2_hasSaying 2 (some .boolean), Cond.methodLink RX4 55 yX4_housesThatHearBy, Cond.instanceMethod yX4_housesThatHearBy, Cond.selects RX4 yX4_housesThatHearBy yX4_housesThatHearBy, Cond.code yX4_housesThatHearBy cX4_housesThatHearBy 10 (some .int), Cond.fieldLink RX4 69 "DripEars$Lane" "place" "[I", Cond.fieldLink RX4 72 "DripEars$Lane" "loud" "[I", Cond.fieldLink RX4 75 "DripEars$Lane" "wall" "[I", Cond.fieldLink RX4 43 "DripEars$Lane" "houses" "I", Cond.fieldLink RX4 38 "DripEars$Lane" "kind" "[I", Cond.methodLink RX4 78 Lib.Math.abs.name, Cond.static Lib.Math.abs.name, Cond.code Lib.Math.abs.name Lib.Math.abs.code 1 (some .int)]
def wsX5_dries_r4 : List Cond := [Cond.methodLink RX4 61 yX4_areStrayed, Cond.instanceMethod yX4_areStrayed, Cond.selects RX4 yX4_areStrayed yX4_areStrayed, Cond.code yX4_areStrayed cX4_areStrayed 1 (some .boolean), Cond.methodLink RX4 92 yX4_tellAt, Cond.instanceMethod yX4_tellAt, Cond.selects RX4 yX4_tellAt yX4_tellAt, Cond.code yX4_tellAt cX4_tellAt 5 (some .int), Cond.methodLink RX4 99 yX2_allHouses, Cond.instanceMethod yX2_allHouses, Cond.selects RX2 yX2_allHouses yX2_allHouses, Cond.code yX2_allHouses cX2_allHouses 1 (some .int), Cond.methodLink RX4 103 yX4_knownBy, Cond.instanceMethod yX4_knownBy, Cond.selects RX4 yX4_knownBy yX4_knownBy, Cond.code yX4_knownBy cX4_knownBy 4 (some .int), Cond.methodLink RX4 46 yJ6_bitCount_0f7a4, Cond.static yJ6_bitCount_0f7a4, Cond.initialized RJ6, Cond.code yJ6_bitCount_0f7a4 cJ6_bitCount_0f7a4 1 (some .int), Cond.constant RJ6 265 (1431655765), Cond.constant RJ6 266 (858993459), Cond.constant RJ6 267 (252645135), Cond.methodLink RX5 182 yX4_knowsThing]
def wsX5_dries_r5 : List Cond := [Cond.instanceMethod yX4_knowsThing, Cond.selects RX4 yX4_knowsThing yX4_knowsThing, Cond.code yX4_knowsThing cX4_knowsThing 3 (some .boolean), Cond.methodLink RX5 246 yX5_tenToThe, Cond.static yX5_tenToThe, Cond.code yX5_tenToThe cX5_tenToThe 3 (some .int), Cond.methodLink RX5 230 yX5_fraction, Cond.static yX5_fraction, Cond.code yX5_fraction cX5_fraction 4 (some .int), Cond.methodLink RX5 278 yX5_greatestDivisor, Cond.static yX5_greatestDivisor, Cond.code yX5_greatestDivisor cX5_greatestDivisor 6 (some .int)]
def wsX5_dries : List Cond := .code yX5_dries cX5_dries 9 (some .int) :: ((wsX5_dries_r1 ++ (wsX5_dries_r2 ++ (wsX5_dries_r3 ++ (wsX5_dries_r4 ++ wsX5_dries_r5)))) ++ wsX50 ++ wsX20 ++ wsX40)
def wsX5_seed : List Cond := .code yX5_seed cX5_seed 5 (some .long) :: ([.fieldLink RX5 249 "DripEars" "seedNow" "J"] ++ wsX50)
def wsX5_doByLot_r1 : List Cond := [Cond.fieldLink RX5 56 "DripEars" "trial" "LDripEars$Scene;", Cond.methodLink RX5 148 yX4_tryLowered, Cond.instanceMethod yX4_tryLowered, Cond.selects RX4 yX4_tryLowered yX4_tryLowered, Cond.initialized RX4, Cond.code yX4_tryLowered cX4_tryLowered 2 (some .boolean), Cond.fieldLink RX4 18 "DripEars$Scene" "voice" "[I", Cond.methodLink RX4 109 yX4_canBeLowered, Cond.instanceMethod yX4_canBeLowered, Cond.selects RX4 yX4_canBeLowered yX4_canBeLowered, Cond.code yX4_canBeLowered cX4_canBeLowered 2 (some .boolean), Cond.fieldLink RX4 21 "DripEars$Scene" "lane" "LDripEars$Lane;", Cond.methodLink RX4 106 yX2_hasHouse, Cond.instanceMethod yX2_hasHouse, Cond.selects RX2 yX2_hasHouse yX2_hasHouse, Cond.initialized RX2, Cond.code yX2_hasHouse cX2_hasHouse 2 (some .boolean), Cond.fieldLink RX2 30 "DripEars$Lane" "houses" "I", Cond.methodLink RX5 154 yX4_tryRaised, Cond.instanceMethod yX4_tryRaised, Cond.selects RX4 yX4_tryRaised yX4_tryRaised, Cond.code yX4_tryRaised cX4_tryRaised 2 (some .boolean), Cond.methodLink RX4 112 yX4_canBeRaised, Cond.instanceMethod yX4_canBeRaised]
def wsX5_doByLot_r2 : List Cond := [Cond.selects RX4 yX4_canBeRaised yX4_canBeRaised, Cond.code yX4_canBeRaised cX4_canBeRaised 2 (some .boolean), Cond.methodLink RX5 157 yX4_tryChanged, Cond.instanceMethod yX4_tryChanged, Cond.selects RX4 yX4_tryChanged yX4_tryChanged, Cond.code yX4_tryChanged cX4_tryChanged 5 (some .boolean), Cond.fieldLink RX4 9 "DripEars$Scene" "hearer" "[I", Cond.fieldLink RX4 15 "DripEars$Scene" "knows" "[I", Cond.methodLink RX5 164 yX4_tryPlate, Cond.instanceMethod yX4_tryPlate, Cond.selects RX4 yX4_tryPlate yX4_tryPlate, Cond.code yX4_tryPlate cX4_tryPlate 2 (some .boolean), Cond.methodLink RX4 115 yX2_hasNext, Cond.instanceMethod yX2_hasNext, Cond.selects RX2 yX2_hasNext yX2_hasNext, Cond.code yX2_hasNext cX2_hasNext 2 (some .boolean), Cond.methodLink RX5 142 yX4_passHour, Cond.instanceMethod yX4_passHour, Cond.selects RX4 yX4_passHour yX4_passHour, Cond.code yX4_passHour cX4_passHour 1 (some .int), Cond.fieldLink RX4 29 "DripEars$Scene" "hour" "I", Cond.methodLink RX4 52 yX2_rainAt, Cond.instanceMethod yX2_rainAt, Cond.selects RX2 yX2_rainAt yX2_rainAt]
def wsX5_doByLot_r3 : List Cond := [Cond.code yX2_rainAt cX2_rainAt 2 (some .int), Cond.fieldLink RX2 37 "DripEars$Lane" "rains" "I", Cond.fieldLink RX2 27 "DripEars$Lane" "rain" "[I", Cond.methodLink RX4 86 yX4_passHourBy, Cond.instanceMethod yX4_passHourBy, Cond.selects RX4 yX4_passHourBy yX4_passHourBy, Cond.code yX4_passHourBy cX4_passHourBy 5 (some .int), Cond.fieldLink RX4 89 "DripEars$Lane" "thing" "[I", Cond.fieldLink RX4 25 "DripEars$Scene" "dry" "I", Cond.methodLink RX4 96 Lib.Math.min.name, Cond.static Lib.Math.min.name, Cond.initialized "java/lang/Math", Cond.code Lib.Math.min.name Lib.Math.min.code 2 (some .int), Cond.methodLink RX4 58 yX2_sayingAt, Cond.instanceMethod yX2_sayingAt, Cond.selects RX2 yX2_sayingAt yX2_sayingAt, Cond.code yX2_sayingAt cX2_sayingAt 2 (some .int), Cond.fieldLink RX2 34 "DripEars$Lane" "sayings" "I", Cond.methodLink RX4 65 yX2_hasSaying, Cond.instanceMethod yX2_hasSaying, Cond.selects RX2 yX2_hasSaying yX2_hasSaying, Cond.code yX2_hasSaying cX2_hasSaying 2 (some .boolean), Cond.methodLink RX4 55 yX4_housesThatHearBy, Cond.instanceMethod yX4_housesThatHearBy]
def wsX5_doByLot_r4 : List Cond := [Cond.selects RX4 yX4_housesThatHearBy yX4_housesThatHearBy, Cond.code yX4_housesThatHearBy cX4_housesThatHearBy 10 (some .int), Cond.fieldLink RX4 69 "DripEars$Lane" "place" "[I", Cond.fieldLink RX4 72 "DripEars$Lane" "loud" "[I", Cond.fieldLink RX4 75 "DripEars$Lane" "wall" "[I", Cond.fieldLink RX4 43 "DripEars$Lane" "houses" "I", Cond.fieldLink RX4 38 "DripEars$Lane" "kind" "[I", Cond.methodLink RX4 78 Lib.Math.abs.name, Cond.static Lib.Math.abs.name, Cond.code Lib.Math.abs.name Lib.Math.abs.code 1 (some .int), Cond.methodLink RX4 61 yX4_areStrayed, Cond.instanceMethod yX4_areStrayed, Cond.selects RX4 yX4_areStrayed yX4_areStrayed, Cond.code yX4_areStrayed cX4_areStrayed 1 (some .boolean), Cond.methodLink RX4 92 yX4_tellAt, Cond.instanceMethod yX4_tellAt, Cond.selects RX4 yX4_tellAt yX4_tellAt, Cond.code yX4_tellAt cX4_tellAt 5 (some .int), Cond.methodLink RX4 99 yX2_allHouses, Cond.instanceMethod yX2_allHouses, Cond.selects RX2 yX2_allHouses yX2_allHouses, Cond.code yX2_allHouses cX2_allHouses 1 (some .int), Cond.methodLink RX4 103 yX4_knownBy, Cond.instanceMethod yX4_knownBy]
def wsX5_doByLot_r5 : List Cond := [Cond.selects RX4 yX4_knownBy yX4_knownBy, Cond.code yX4_knownBy cX4_knownBy 4 (some .int), Cond.methodLink RX4 46 yJ6_bitCount_0f7a4, Cond.static yJ6_bitCount_0f7a4, Cond.initialized RJ6, Cond.code yJ6_bitCount_0f7a4 cJ6_bitCount_0f7a4 1 (some .int), Cond.constant RJ6 265 (1431655765), Cond.constant RJ6 266 (858993459), Cond.constant RJ6 267 (252645135)]
def wsX5_doByLot : List Cond := .code yX5_doByLot cX5_doByLot 2 none :: ((wsX5_doByLot_r1 ++ (wsX5_doByLot_r2 ++ (wsX5_doByLot_r3 ++ (wsX5_doByLot_r4 ++ wsX5_doByLot_r5)))) ++ wsX50 ++ wsX40 ++ wsX20)
def wsX5_years_r1 : List Cond := [Cond.fieldLink RX5 56 "DripEars" "trial" "LDripEars$Scene;", Cond.fieldLink RX5 52 "DripEars" "now" "LDripEars$Scene;", Cond.fieldLink RX5 249 "DripEars" "seedNow" "J", Cond.constantLong RX5 253 (6364136223846793005), Cond.constantLong RX5 255 (1442695040888963407), Cond.constantLong RX5 257 (31), Cond.methodLink RX5 173 yX4_take, Cond.instanceMethod yX4_take, Cond.selects RX4 yX4_take yX4_take, Cond.initialized RX4, Cond.code yX4_take cX4_take 2 none, Cond.fieldLink RX4 9 "DripEars$Scene" "hearer" "[I", Cond.methodLink RX4 32 arraycopyName, Cond.native arraycopyName, Cond.static arraycopyName, Cond.initialized "java/lang/System", Cond.fieldLink RX4 15 "DripEars$Scene" "knows" "[I", Cond.fieldLink RX4 18 "DripEars$Scene" "voice" "[I", Cond.fieldLink RX4 25 "DripEars$Scene" "dry" "I", Cond.fieldLink RX4 29 "DripEars$Scene" "hour" "I", Cond.methodLink RX5 259 yX5_doByLot, Cond.instanceMethod yX5_doByLot, Cond.selects RX5 yX5_doByLot yX5_doByLot, Cond.initialized RX5]
def wsX5_years_r2 : List Cond := [Cond.code yX5_doByLot cX5_doByLot 2 none, Cond.methodLink RX5 148 yX4_tryLowered, Cond.instanceMethod yX4_tryLowered, Cond.selects RX4 yX4_tryLowered yX4_tryLowered, Cond.code yX4_tryLowered cX4_tryLowered 2 (some .boolean), Cond.methodLink RX4 109 yX4_canBeLowered, Cond.instanceMethod yX4_canBeLowered, Cond.selects RX4 yX4_canBeLowered yX4_canBeLowered, Cond.code yX4_canBeLowered cX4_canBeLowered 2 (some .boolean), Cond.fieldLink RX4 21 "DripEars$Scene" "lane" "LDripEars$Lane;", Cond.methodLink RX4 106 yX2_hasHouse, Cond.instanceMethod yX2_hasHouse, Cond.selects RX2 yX2_hasHouse yX2_hasHouse, Cond.initialized RX2, Cond.code yX2_hasHouse cX2_hasHouse 2 (some .boolean), Cond.fieldLink RX2 30 "DripEars$Lane" "houses" "I", Cond.methodLink RX5 154 yX4_tryRaised, Cond.instanceMethod yX4_tryRaised, Cond.selects RX4 yX4_tryRaised yX4_tryRaised, Cond.code yX4_tryRaised cX4_tryRaised 2 (some .boolean), Cond.methodLink RX4 112 yX4_canBeRaised, Cond.instanceMethod yX4_canBeRaised, Cond.selects RX4 yX4_canBeRaised yX4_canBeRaised, Cond.code yX4_canBeRaised cX4_canBeRaised 2 (some .boolean)]
def wsX5_years_r3 : List Cond := [Cond.methodLink RX5 157 yX4_tryChanged, Cond.instanceMethod yX4_tryChanged, Cond.selects RX4 yX4_tryChanged yX4_tryChanged, Cond.code yX4_tryChanged cX4_tryChanged 5 (some .boolean), Cond.methodLink RX5 164 yX4_tryPlate, Cond.instanceMethod yX4_tryPlate, Cond.selects RX4 yX4_tryPlate yX4_tryPlate, Cond.code yX4_tryPlate cX4_tryPlate 2 (some .boolean), Cond.methodLink RX4 115 yX2_hasNext, Cond.instanceMethod yX2_hasNext, Cond.selects RX2 yX2_hasNext yX2_hasNext, Cond.code yX2_hasNext cX2_hasNext 2 (some .boolean), Cond.methodLink RX5 142 yX4_passHour, Cond.instanceMethod yX4_passHour, Cond.selects RX4 yX4_passHour yX4_passHour, Cond.code yX4_passHour cX4_passHour 1 (some .int), Cond.methodLink RX4 52 yX2_rainAt, Cond.instanceMethod yX2_rainAt, Cond.selects RX2 yX2_rainAt yX2_rainAt, Cond.code yX2_rainAt cX2_rainAt 2 (some .int), Cond.fieldLink RX2 37 "DripEars$Lane" "rains" "I", Cond.fieldLink RX2 27 "DripEars$Lane" "rain" "[I", Cond.methodLink RX4 86 yX4_passHourBy, Cond.instanceMethod yX4_passHourBy]
def wsX5_years_r4 : List Cond := [Cond.selects RX4 yX4_passHourBy yX4_passHourBy, Cond.code yX4_passHourBy cX4_passHourBy 5 (some .int), Cond.fieldLink RX4 89 "DripEars$Lane" "thing" "[I", Cond.methodLink RX4 96 Lib.Math.min.name, Cond.static Lib.Math.min.name, Cond.initialized "java/lang/Math", Cond.code Lib.Math.min.name Lib.Math.min.code 2 (some .int), Cond.methodLink RX4 58 yX2_sayingAt, Cond.instanceMethod yX2_sayingAt, Cond.selects RX2 yX2_sayingAt yX2_sayingAt, Cond.code yX2_sayingAt cX2_sayingAt 2 (some .int), Cond.fieldLink RX2 34 "DripEars$Lane" "sayings" "I", Cond.methodLink RX4 65 yX2_hasSaying, Cond.instanceMethod yX2_hasSaying, Cond.selects RX2 yX2_hasSaying yX2_hasSaying, Cond.code yX2_hasSaying cX2_hasSaying 2 (some .boolean), Cond.methodLink RX4 55 yX4_housesThatHearBy, Cond.instanceMethod yX4_housesThatHearBy, Cond.selects RX4 yX4_housesThatHearBy yX4_housesThatHearBy, Cond.code yX4_housesThatHearBy cX4_housesThatHearBy 10 (some .int), Cond.fieldLink RX4 69 "DripEars$Lane" "place" "[I", Cond.fieldLink RX4 72 "DripEars$Lane" "loud" "[I", Cond.fieldLink RX4 75 "DripEars$Lane" "wall" "[I", Cond.fieldLink RX4 43 "DripEars$Lane" "houses" "I"]
def wsX5_years_r5 : List Cond := [Cond.fieldLink RX4 38 "DripEars$Lane" "kind" "[I", Cond.methodLink RX4 78 Lib.Math.abs.name, Cond.static Lib.Math.abs.name, Cond.code Lib.Math.abs.name Lib.Math.abs.code 1 (some .int), Cond.methodLink RX4 61 yX4_areStrayed, Cond.instanceMethod yX4_areStrayed, Cond.selects RX4 yX4_areStrayed yX4_areStrayed, Cond.code yX4_areStrayed cX4_areStrayed 1 (some .boolean), Cond.methodLink RX4 92 yX4_tellAt, Cond.instanceMethod yX4_tellAt, Cond.selects RX4 yX4_tellAt yX4_tellAt, Cond.code yX4_tellAt cX4_tellAt 5 (some .int), Cond.methodLink RX4 99 yX2_allHouses, Cond.instanceMethod yX2_allHouses, Cond.selects RX2 yX2_allHouses yX2_allHouses, Cond.code yX2_allHouses cX2_allHouses 1 (some .int), Cond.methodLink RX4 103 yX4_knownBy, Cond.instanceMethod yX4_knownBy, Cond.selects RX4 yX4_knownBy yX4_knownBy, Cond.code yX4_knownBy cX4_knownBy 4 (some .int), Cond.methodLink RX4 46 yJ6_bitCount_0f7a4, Cond.static yJ6_bitCount_0f7a4, Cond.initialized RJ6, Cond.code yJ6_bitCount_0f7a4 cJ6_bitCount_0f7a4 1 (some .int)]
def wsX5_years_r6 : List Cond := [Cond.constant RJ6 265 (1431655765), Cond.constant RJ6 266 (858993459), Cond.constant RJ6 267 (252645135), Cond.methodLink RX5 262 yX4_allKnown, Cond.instanceMethod yX4_allKnown, Cond.selects RX4 yX4_allKnown yX4_allKnown, Cond.code yX4_allKnown cX4_allKnown 3 (some .int)]
def wsX5_years : List Cond := .code yX5_years cX5_years 4 (some .int) :: ((wsX5_years_r1 ++ (wsX5_years_r2 ++ (wsX5_years_r3 ++ (wsX5_years_r4 ++ (wsX5_years_r5 ++ wsX5_years_r6))))) ++ wsX50 ++ wsX40 ++ wsX20)
def wsX5_keep : List Cond := .code yX5_keep cX5_keep 2 (some .int) :: ([.fieldLink RX5 15 "DripEars" "kept" "[LDripEars$Scene;", .fieldLink RX5 52 "DripEars" "now" "LDripEars$Scene;", .fieldLink RX5 19 "DripEars" "isKept" "[Z", .fieldLink RX5 265 "DripEars$Scene" "hour" "I", .methodLink RX5 173 yX4_take, .instanceMethod yX4_take, .selects RX4 yX4_take yX4_take, .initialized RX4, .code yX4_take cX4_take 2 none, .fieldLink RX4 9 "DripEars$Scene" "hearer" "[I", .methodLink RX4 32 arraycopyName, .native arraycopyName, .static arraycopyName, .initialized "java/lang/System", .fieldLink RX4 15 "DripEars$Scene" "knows" "[I", .fieldLink RX4 18 "DripEars$Scene" "voice" "[I", .fieldLink RX4 25 "DripEars$Scene" "dry" "I", .fieldLink RX4 29 "DripEars$Scene" "hour" "I"] ++ wsX50 ++ wsX40)
def wsX5_again_r1 : List Cond := [Cond.fieldLink RX5 19 "DripEars" "isKept" "[Z", Cond.fieldLink RX5 52 "DripEars" "now" "LDripEars$Scene;", Cond.fieldLink RX5 15 "DripEars" "kept" "[LDripEars$Scene;", Cond.fieldLink RX5 62 "DripEars" "acts" "LDripEars$Acts;", Cond.fieldLink RX5 265 "DripEars$Scene" "hour" "I", Cond.methodLink RX5 173 yX4_take, Cond.instanceMethod yX4_take, Cond.selects RX4 yX4_take yX4_take, Cond.initialized RX4, Cond.code yX4_take cX4_take 2 none, Cond.fieldLink RX4 9 "DripEars$Scene" "hearer" "[I", Cond.methodLink RX4 32 arraycopyName, Cond.native arraycopyName, Cond.static arraycopyName, Cond.initialized "java/lang/System", Cond.fieldLink RX4 15 "DripEars$Scene" "knows" "[I", Cond.fieldLink RX4 18 "DripEars$Scene" "voice" "[I", Cond.fieldLink RX4 25 "DripEars$Scene" "dry" "I", Cond.fieldLink RX4 29 "DripEars$Scene" "hour" "I", Cond.methodLink RX5 90 yX0_forget, Cond.instanceMethod yX0_forget, Cond.selects RX0 yX0_forget yX0_forget, Cond.initialized RX0, Cond.code yX0_forget cX0_forget 1 none]
def wsX5_again_r2 : List Cond := [Cond.fieldLink RX0 20 "DripEars$Acts" "oldest" "I", Cond.fieldLink RX0 24 "DripEars$Acts" "size" "I"]
def wsX5_again : List Cond := .code yX5_again cX5_again 2 (some .int) :: ((wsX5_again_r1 ++ wsX5_again_r2) ++ wsX50 ++ wsX40 ++ wsX00)
def wsX5_count_r1 : List Cond := [Cond.fieldLink RX5 73 "DripEars" "letters" "I", Cond.fieldLink RX5 38 "DripEars" "told" "LDripEars$Lane;", Cond.fieldLink RX5 93 "DripEars$Lane" "houses" "I", Cond.fieldLink RX5 96 "DripEars$Lane" "sayings" "I", Cond.fieldLink RX5 99 "DripEars$Lane" "rains" "I", Cond.fieldLink RX5 52 "DripEars" "now" "LDripEars$Scene;", Cond.fieldLink RX5 265 "DripEars$Scene" "hour" "I", Cond.fieldLink RX5 271 "DripEars$Scene" "dry" "I", Cond.fieldLink RX5 62 "DripEars" "acts" "LDripEars$Acts;", Cond.fieldLink RX5 167 "DripEars$Acts" "size" "I", Cond.fieldLink RX5 69 "DripEars" "heardSayings" "LDripEars$Heard;", Cond.fieldLink RX5 219 "DripEars$Heard" "size" "I", Cond.methodLink RX5 268 yX2_rainAt, Cond.instanceMethod yX2_rainAt, Cond.selects RX2 yX2_rainAt yX2_rainAt, Cond.initialized RX2, Cond.code yX2_rainAt cX2_rainAt 2 (some .int), Cond.fieldLink RX2 37 "DripEars$Lane" "rains" "I", Cond.fieldLink RX2 27 "DripEars$Lane" "rain" "[I", Cond.methodLink RX5 274 yX4_areStrayed, Cond.instanceMethod yX4_areStrayed, Cond.selects RX4 yX4_areStrayed yX4_areStrayed, Cond.initialized RX4, Cond.code yX4_areStrayed cX4_areStrayed 1 (some .boolean)]
def wsX5_count_r2 : List Cond := [Cond.fieldLink RX4 25 "DripEars$Scene" "dry" "I", Cond.methodLink RX5 198 yX2_allHouses, Cond.instanceMethod yX2_allHouses, Cond.selects RX2 yX2_allHouses yX2_allHouses, Cond.code yX2_allHouses cX2_allHouses 1 (some .int), Cond.fieldLink RX2 30 "DripEars$Lane" "houses" "I", Cond.methodLink RX5 206 yX4_knownBy, Cond.instanceMethod yX4_knownBy, Cond.selects RX4 yX4_knownBy yX4_knownBy, Cond.code yX4_knownBy cX4_knownBy 4 (some .int), Cond.fieldLink RX4 21 "DripEars$Scene" "lane" "LDripEars$Lane;", Cond.fieldLink RX4 43 "DripEars$Lane" "houses" "I", Cond.fieldLink RX4 15 "DripEars$Scene" "knows" "[I", Cond.methodLink RX5 122 yX4_housesThatHear, Cond.instanceMethod yX4_housesThatHear, Cond.selects RX4 yX4_housesThatHear yX4_housesThatHear, Cond.code yX4_housesThatHear cX4_housesThatHear 1 (some .int), Cond.fieldLink RX4 29 "DripEars$Scene" "hour" "I", Cond.methodLink RX4 52 yX2_rainAt, Cond.methodLink RX4 55 yX4_housesThatHearBy, Cond.instanceMethod yX4_housesThatHearBy, Cond.selects RX4 yX4_housesThatHearBy yX4_housesThatHearBy, Cond.code yX4_housesThatHearBy cX4_housesThatHearBy 10 (some .int), Cond.fieldLink RX4 69 "DripEars$Lane" "place" "[I"]
def wsX5_count_r3 : List Cond := [Cond.fieldLink RX4 72 "DripEars$Lane" "loud" "[I", Cond.fieldLink RX4 18 "DripEars$Scene" "voice" "[I", Cond.fieldLink RX4 75 "DripEars$Lane" "wall" "[I", Cond.fieldLink RX4 38 "DripEars$Lane" "kind" "[I", Cond.fieldLink RX4 9 "DripEars$Scene" "hearer" "[I", Cond.methodLink RX4 78 Lib.Math.abs.name, Cond.static Lib.Math.abs.name, Cond.initialized "java/lang/Math", Cond.code Lib.Math.abs.name Lib.Math.abs.code 1 (some .int), Cond.methodLink RX4 58 yX2_sayingAt, Cond.instanceMethod yX2_sayingAt, Cond.selects RX2 yX2_sayingAt yX2_sayingAt, Cond.code yX2_sayingAt cX2_sayingAt 2 (some .int), Cond.fieldLink RX2 34 "DripEars$Lane" "sayings" "I", Cond.methodLink RX4 61 yX4_areStrayed, Cond.methodLink RX4 65 yX2_hasSaying, Cond.instanceMethod yX2_hasSaying, Cond.selects RX2 yX2_hasSaying yX2_hasSaying, Cond.code yX2_hasSaying cX2_hasSaying 2 (some .boolean)]
def wsX5_count : List Cond := .code yX5_count cX5_count 2 (some .int) :: ((wsX5_count_r1 ++ (wsX5_count_r2 ++ wsX5_count_r3)) ++ wsX50 ++ wsX20 ++ wsX40 ++ wsX00 ++ wsX10)
def wsX6_init : List Cond := .code yX6_init cX6_init 1 none :: ([.methodLink RX6 1 objectInit, .instanceMethod objectInit, .code objectInit ⟨#[0xb1]⟩ 1 none, .arrayClass .int, .fieldLink RX6 7 "DripEarsModel" "kind" "[I", .fieldLink RX6 13 "DripEarsModel" "wall" "[I", .fieldLink RX6 16 "DripEarsModel" "saying" "[I", .fieldLink RX6 19 "DripEarsModel" "rain" "[I", .fieldLink RX6 22 "DripEarsModel" "now" "[I", .fieldLink RX6 25 "DripEarsModel" "readHouse" "[I", .fieldLink RX6 28 "DripEarsModel" "readSaying" "[I", .fieldLink RX6 31 "DripEarsModel" "readRain" "[I", .fieldLink RX6 34 "DripEarsModel" "text" "[I", .fieldLink RX6 37 "DripEarsModel" "row" "[I", .fieldLink RX6 40 "DripEarsModel" "heardLoud" "[I", .fieldLink RX6 43 "DripEarsModel" "heardRain" "[I", .fieldLink RX6 46 "DripEarsModel" "heardIs" "[I", .arrayClass .boolean, .fieldLink RX6 49 "DripEarsModel" "isKept" "[Z", .fieldLink RX6 53 "DripEarsModel" "kept" "[I"] ++ wsX60)
def wsX6_in : List Cond := .code yX6_in cX6_in 6 (some .boolean) :: ([])
def wsX6_has : List Cond := .code yX6_has cX6_has 2 (some .boolean) :: ([])
def wsX6_ones : List Cond := .code yX6_ones cX6_ones 3 (some .int) :: ([])
def wsX6_write : List Cond := .code yX6_write cX6_write 2 (some .int) :: ([.constantLong RX6 56 (255), .fieldLink RX6 62 "DripEarsModel" "length" "I", .fieldLink RX6 34 "DripEarsModel" "text" "[I", .methodLink RX6 58 yX6_in, .static yX6_in, .initialized RX6, .code yX6_in cX6_in 6 (some .boolean)] ++ wsX60)
def wsX6_wipe : List Cond := .code yX6_wipe cX6_wipe 2 (some .int) :: ([.fieldLink RX6 62 "DripEarsModel" "length" "I"] ++ wsX60)
def wsX6_figureUpTo : List Cond := .code yX6_figureUpTo cX6_figureUpTo 3 (some .int) :: ([.fieldLink RX6 66 "DripEarsModel" "faultAt" "I", .fieldLink RX6 69 "DripEarsModel" "at" "I", .fieldLink RX6 62 "DripEarsModel" "length" "I", .fieldLink RX6 34 "DripEarsModel" "text" "[I", .methodLink RX6 58 yX6_in, .static yX6_in, .initialized RX6, .code yX6_in cX6_in 6 (some .boolean)] ++ wsX60)
def wsX6_readPart : List Cond := .code yX6_readPart cX6_readPart 2 none :: ([.fieldLink RX6 72 "DripEarsModel" "readHouses" "I", .fieldLink RX6 69 "DripEarsModel" "at" "I", .fieldLink RX6 25 "DripEarsModel" "readHouse" "[I", .fieldLink RX6 75 "DripEarsModel" "readSayings" "I", .fieldLink RX6 28 "DripEarsModel" "readSaying" "[I", .fieldLink RX6 78 "DripEarsModel" "readRains" "I", .fieldLink RX6 31 "DripEarsModel" "readRain" "[I", .fieldLink RX6 66 "DripEarsModel" "faultAt" "I", .methodLink RX6 85 yX6_figureUpTo, .instanceMethod yX6_figureUpTo, .selects RX6 yX6_figureUpTo yX6_figureUpTo, .initialized RX6, .code yX6_figureUpTo cX6_figureUpTo 3 (some .int), .fieldLink RX6 62 "DripEarsModel" "length" "I", .fieldLink RX6 34 "DripEarsModel" "text" "[I", .methodLink RX6 58 yX6_in, .static yX6_in, .code yX6_in cX6_in 6 (some .boolean)] ++ wsX60)
def wsX6_readText : List Cond := .code yX6_readText cX6_readText 1 (some .int) :: ([.fieldLink RX6 69 "DripEarsModel" "at" "I", .fieldLink RX6 66 "DripEarsModel" "faultAt" "I", .fieldLink RX6 72 "DripEarsModel" "readHouses" "I", .fieldLink RX6 75 "DripEarsModel" "readSayings" "I", .fieldLink RX6 78 "DripEarsModel" "readRains" "I", .fieldLink RX6 62 "DripEarsModel" "length" "I", .fieldLink RX6 34 "DripEarsModel" "text" "[I", .methodLink RX6 81 yX6_readPart, .instanceMethod yX6_readPart, .selects RX6 yX6_readPart yX6_readPart, .initialized RX6, .code yX6_readPart cX6_readPart 2 none, .fieldLink RX6 25 "DripEarsModel" "readHouse" "[I", .fieldLink RX6 28 "DripEarsModel" "readSaying" "[I", .fieldLink RX6 31 "DripEarsModel" "readRain" "[I", .methodLink RX6 85 yX6_figureUpTo, .instanceMethod yX6_figureUpTo, .selects RX6 yX6_figureUpTo yX6_figureUpTo, .code yX6_figureUpTo cX6_figureUpTo 3 (some .int), .methodLink RX6 58 yX6_in, .static yX6_in, .code yX6_in cX6_in 6 (some .boolean)] ++ wsX60)
def wsX6_fault_r1 : List Cond := [Cond.methodLink RX6 89 yX6_readText, Cond.instanceMethod yX6_readText, Cond.selects RX6 yX6_readText yX6_readText, Cond.initialized RX6, Cond.code yX6_readText cX6_readText 1 (some .int), Cond.fieldLink RX6 69 "DripEarsModel" "at" "I", Cond.fieldLink RX6 66 "DripEarsModel" "faultAt" "I", Cond.fieldLink RX6 72 "DripEarsModel" "readHouses" "I", Cond.fieldLink RX6 75 "DripEarsModel" "readSayings" "I", Cond.fieldLink RX6 78 "DripEarsModel" "readRains" "I", Cond.fieldLink RX6 62 "DripEarsModel" "length" "I", Cond.fieldLink RX6 34 "DripEarsModel" "text" "[I", Cond.methodLink RX6 81 yX6_readPart, Cond.instanceMethod yX6_readPart, Cond.selects RX6 yX6_readPart yX6_readPart, Cond.code yX6_readPart cX6_readPart 2 none, Cond.fieldLink RX6 25 "DripEarsModel" "readHouse" "[I", Cond.fieldLink RX6 28 "DripEarsModel" "readSaying" "[I", Cond.fieldLink RX6 31 "DripEarsModel" "readRain" "[I", Cond.methodLink RX6 85 yX6_figureUpTo, Cond.instanceMethod yX6_figureUpTo, Cond.selects RX6 yX6_figureUpTo yX6_figureUpTo, Cond.code yX6_figureUpTo cX6_figureUpTo 3 (some .int), Cond.methodLink RX6 58 yX6_in]
def wsX6_fault_r2 : List Cond := [Cond.static yX6_in, Cond.code yX6_in cX6_in 6 (some .boolean)]
def wsX6_fault : List Cond := .code yX6_fault cX6_fault 1 (some .int) :: ((wsX6_fault_r1 ++ wsX6_fault_r2) ++ wsX60)
def wsX6_lane_r1 : List Cond := [Cond.fieldLink RX6 72 "DripEarsModel" "readHouses" "I", Cond.fieldLink RX6 93 "DripEarsModel" "houses" "I", Cond.fieldLink RX6 75 "DripEarsModel" "readSayings" "I", Cond.fieldLink RX6 96 "DripEarsModel" "sayings" "I", Cond.fieldLink RX6 78 "DripEarsModel" "readRains" "I", Cond.fieldLink RX6 99 "DripEarsModel" "rains" "I", Cond.fieldLink RX6 22 "DripEarsModel" "now" "[I", Cond.fieldLink RX6 7 "DripEarsModel" "kind" "[I", Cond.fieldLink RX6 25 "DripEarsModel" "readHouse" "[I", Cond.fieldLink RX6 13 "DripEarsModel" "wall" "[I", Cond.fieldLink RX6 16 "DripEarsModel" "saying" "[I", Cond.fieldLink RX6 28 "DripEarsModel" "readSaying" "[I", Cond.fieldLink RX6 19 "DripEarsModel" "rain" "[I", Cond.fieldLink RX6 31 "DripEarsModel" "readRain" "[I", Cond.fieldLink RX6 102 "DripEarsModel" "acts" "I", Cond.fieldLink RX6 49 "DripEarsModel" "isKept" "[Z", Cond.methodLink RX6 89 yX6_readText, Cond.instanceMethod yX6_readText, Cond.selects RX6 yX6_readText yX6_readText, Cond.initialized RX6, Cond.code yX6_readText cX6_readText 1 (some .int), Cond.fieldLink RX6 69 "DripEarsModel" "at" "I", Cond.fieldLink RX6 66 "DripEarsModel" "faultAt" "I", Cond.fieldLink RX6 62 "DripEarsModel" "length" "I"]
def wsX6_lane_r2 : List Cond := [Cond.fieldLink RX6 34 "DripEarsModel" "text" "[I", Cond.methodLink RX6 81 yX6_readPart, Cond.instanceMethod yX6_readPart, Cond.selects RX6 yX6_readPart yX6_readPart, Cond.code yX6_readPart cX6_readPart 2 none, Cond.methodLink RX6 85 yX6_figureUpTo, Cond.instanceMethod yX6_figureUpTo, Cond.selects RX6 yX6_figureUpTo yX6_figureUpTo, Cond.code yX6_figureUpTo cX6_figureUpTo 3 (some .int), Cond.methodLink RX6 58 yX6_in, Cond.static yX6_in, Cond.code yX6_in cX6_in 6 (some .boolean)]
def wsX6_lane : List Cond := .code yX6_lane cX6_lane 2 (some .int) :: ((wsX6_lane_r1 ++ wsX6_lane_r2) ++ wsX60)
def wsX6_isHouse : List Cond := .code yX6_isHouse cX6_isHouse 2 (some .boolean) :: ([.fieldLink RX6 93 "DripEarsModel" "houses" "I", .methodLink RX6 58 yX6_in, .static yX6_in, .initialized RX6, .code yX6_in cX6_in 6 (some .boolean)] ++ wsX60)
def wsX6_isThing : List Cond := .code yX6_isThing cX6_isThing 1 (some .boolean) :: ([.constantLong RX6 105 (5), .methodLink RX6 58 yX6_in, .static yX6_in, .initialized RX6, .code yX6_in cX6_in 6 (some .boolean)])
def wsX6_rainOn : List Cond := .code yX6_rainOn cX6_rainOn 2 (some .int) :: ([.fieldLink RX6 99 "DripEarsModel" "rains" "I", .fieldLink RX6 19 "DripEarsModel" "rain" "[I", .fieldLink RX6 22 "DripEarsModel" "now" "[I"] ++ wsX60)
def wsX6_sayingOn : List Cond := .code yX6_sayingOn cX6_sayingOn 2 (some .int) :: ([.fieldLink RX6 96 "DripEarsModel" "sayings" "I", .fieldLink RX6 22 "DripEarsModel" "now" "[I"] ++ wsX60)
def wsX6_earOf : List Cond := .code yX6_earOf cX6_earOf 1 (some .int) :: ([])
def wsX6_isStrayed : List Cond := .code yX6_isStrayed cX6_isStrayed 2 (some .boolean) :: ([.fieldLink RX6 22 "DripEarsModel" "now" "[I"] ++ wsX60)
def wsX6_hears : List Cond := .code yX6_hears cX6_hears 9 (some .boolean) :: ([.fieldLink RX6 16 "DripEarsModel" "saying" "[I", .fieldLink RX6 7 "DripEarsModel" "kind" "[I", .fieldLink RX6 22 "DripEarsModel" "now" "[I", .fieldLink RX6 13 "DripEarsModel" "wall" "[I", .methodLink RX6 107 yX6_isStrayed, .instanceMethod yX6_isStrayed, .selects RX6 yX6_isStrayed yX6_isStrayed, .initialized RX6, .code yX6_isStrayed cX6_isStrayed 2 (some .boolean), .methodLink RX6 111 yX6_earOf, .static yX6_earOf, .code yX6_earOf cX6_earOf 1 (some .int)] ++ wsX60)
def wsX6_knownOn : List Cond := .code yX6_knownOn cX6_knownOn 4 (some .int) :: ([.fieldLink RX6 93 "DripEarsModel" "houses" "I", .fieldLink RX6 22 "DripEarsModel" "now" "[I"] ++ wsX60)
def wsX6_hourBy_r1 : List Cond := [Cond.fieldLink RX6 93 "DripEarsModel" "houses" "I", Cond.fieldLink RX6 22 "DripEarsModel" "now" "[I", Cond.fieldLink RX6 16 "DripEarsModel" "saying" "[I", Cond.methodLink RX6 114 yX6_sayingOn, Cond.instanceMethod yX6_sayingOn, Cond.selects RX6 yX6_sayingOn yX6_sayingOn, Cond.initialized RX6, Cond.code yX6_sayingOn cX6_sayingOn 2 (some .int), Cond.fieldLink RX6 96 "DripEarsModel" "sayings" "I", Cond.methodLink RX6 117 yX6_hears, Cond.instanceMethod yX6_hears, Cond.selects RX6 yX6_hears yX6_hears, Cond.code yX6_hears cX6_hears 9 (some .boolean), Cond.fieldLink RX6 7 "DripEarsModel" "kind" "[I", Cond.fieldLink RX6 13 "DripEarsModel" "wall" "[I", Cond.methodLink RX6 107 yX6_isStrayed, Cond.instanceMethod yX6_isStrayed, Cond.selects RX6 yX6_isStrayed yX6_isStrayed, Cond.code yX6_isStrayed cX6_isStrayed 2 (some .boolean), Cond.methodLink RX6 111 yX6_earOf, Cond.static yX6_earOf, Cond.code yX6_earOf cX6_earOf 1 (some .int), Cond.methodLink RX6 121 yX6_has, Cond.static yX6_has]
def wsX6_hourBy_r2 : List Cond := [Cond.code yX6_has cX6_has 2 (some .boolean), Cond.methodLink RX6 125 yX6_knownOn, Cond.instanceMethod yX6_knownOn, Cond.selects RX6 yX6_knownOn yX6_knownOn, Cond.code yX6_knownOn cX6_knownOn 4 (some .int), Cond.methodLink RX6 128 yX6_ones, Cond.static yX6_ones, Cond.code yX6_ones cX6_ones 3 (some .int)]
def wsX6_hourBy : List Cond := .code yX6_hourBy cX6_hourBy 8 (some .int) :: ((wsX6_hourBy_r1 ++ wsX6_hourBy_r2) ++ wsX60)
def wsX6_knowsAt : List Cond := .code yX6_knowsAt cX6_knowsAt 4 (some .int) :: ([.fieldLink RX6 22 "DripEarsModel" "now" "[I"] ++ wsX60)
def wsX6_house_r1 : List Cond := [Cond.fieldLink RX6 13 "DripEarsModel" "wall" "[I", Cond.fieldLink RX6 22 "DripEarsModel" "now" "[I", Cond.fieldLink RX6 7 "DripEarsModel" "kind" "[I", Cond.methodLink RX6 131 yX6_isHouse, Cond.instanceMethod yX6_isHouse, Cond.selects RX6 yX6_isHouse yX6_isHouse, Cond.initialized RX6, Cond.code yX6_isHouse cX6_isHouse 2 (some .boolean), Cond.fieldLink RX6 93 "DripEarsModel" "houses" "I", Cond.methodLink RX6 58 yX6_in, Cond.static yX6_in, Cond.code yX6_in cX6_in 6 (some .boolean), Cond.methodLink RX6 134 yX6_knowsAt, Cond.instanceMethod yX6_knowsAt, Cond.selects RX6 yX6_knowsAt yX6_knowsAt, Cond.code yX6_knowsAt cX6_knowsAt 4 (some .int), Cond.methodLink RX6 114 yX6_sayingOn, Cond.instanceMethod yX6_sayingOn, Cond.selects RX6 yX6_sayingOn yX6_sayingOn, Cond.code yX6_sayingOn cX6_sayingOn 2 (some .int), Cond.fieldLink RX6 96 "DripEarsModel" "sayings" "I", Cond.methodLink RX6 138 yX6_rainOn, Cond.instanceMethod yX6_rainOn, Cond.selects RX6 yX6_rainOn yX6_rainOn]
def wsX6_house_r2 : List Cond := [Cond.code yX6_rainOn cX6_rainOn 2 (some .int), Cond.fieldLink RX6 99 "DripEarsModel" "rains" "I", Cond.fieldLink RX6 19 "DripEarsModel" "rain" "[I", Cond.methodLink RX6 117 yX6_hears, Cond.instanceMethod yX6_hears, Cond.selects RX6 yX6_hears yX6_hears, Cond.code yX6_hears cX6_hears 9 (some .boolean), Cond.fieldLink RX6 16 "DripEarsModel" "saying" "[I", Cond.methodLink RX6 107 yX6_isStrayed, Cond.instanceMethod yX6_isStrayed, Cond.selects RX6 yX6_isStrayed yX6_isStrayed, Cond.code yX6_isStrayed cX6_isStrayed 2 (some .boolean), Cond.methodLink RX6 111 yX6_earOf, Cond.static yX6_earOf, Cond.code yX6_earOf cX6_earOf 1 (some .int)]
def wsX6_house : List Cond := .code yX6_house cX6_house 3 (some .int) :: ((wsX6_house_r1 ++ wsX6_house_r2) ++ wsX60)
def wsX6_saying : List Cond := .code yX6_saying cX6_saying 3 (some .int) :: ([.fieldLink RX6 96 "DripEarsModel" "sayings" "I", .constantLong RX6 141 (2), .fieldLink RX6 16 "DripEarsModel" "saying" "[I", .methodLink RX6 58 yX6_in, .static yX6_in, .initialized RX6, .code yX6_in cX6_in 6 (some .boolean)] ++ wsX60)
def wsX6_keepAct : List Cond := .code yX6_keepAct cX6_keepAct 2 none :: ([.fieldLink RX6 37 "DripEarsModel" "row" "[I", .fieldLink RX6 143 "DripEarsModel" "next" "I", .fieldLink RX6 22 "DripEarsModel" "now" "[I", .fieldLink RX6 102 "DripEarsModel" "acts" "I"] ++ wsX60)
def wsX6_hour_r1 : List Cond := [Cond.methodLink RX6 146 yX6_keepAct, Cond.instanceMethod yX6_keepAct, Cond.selects RX6 yX6_keepAct yX6_keepAct, Cond.initialized RX6, Cond.code yX6_keepAct cX6_keepAct 2 none, Cond.fieldLink RX6 37 "DripEarsModel" "row" "[I", Cond.fieldLink RX6 143 "DripEarsModel" "next" "I", Cond.fieldLink RX6 22 "DripEarsModel" "now" "[I", Cond.fieldLink RX6 102 "DripEarsModel" "acts" "I", Cond.methodLink RX6 138 yX6_rainOn, Cond.instanceMethod yX6_rainOn, Cond.selects RX6 yX6_rainOn yX6_rainOn, Cond.code yX6_rainOn cX6_rainOn 2 (some .int), Cond.fieldLink RX6 99 "DripEarsModel" "rains" "I", Cond.fieldLink RX6 19 "DripEarsModel" "rain" "[I", Cond.methodLink RX6 149 yX6_hourBy, Cond.instanceMethod yX6_hourBy, Cond.selects RX6 yX6_hourBy yX6_hourBy, Cond.code yX6_hourBy cX6_hourBy 8 (some .int), Cond.fieldLink RX6 93 "DripEarsModel" "houses" "I", Cond.fieldLink RX6 16 "DripEarsModel" "saying" "[I", Cond.methodLink RX6 114 yX6_sayingOn, Cond.instanceMethod yX6_sayingOn, Cond.selects RX6 yX6_sayingOn yX6_sayingOn]
def wsX6_hour_r2 : List Cond := [Cond.code yX6_sayingOn cX6_sayingOn 2 (some .int), Cond.fieldLink RX6 96 "DripEarsModel" "sayings" "I", Cond.methodLink RX6 117 yX6_hears, Cond.instanceMethod yX6_hears, Cond.selects RX6 yX6_hears yX6_hears, Cond.code yX6_hears cX6_hears 9 (some .boolean), Cond.fieldLink RX6 7 "DripEarsModel" "kind" "[I", Cond.fieldLink RX6 13 "DripEarsModel" "wall" "[I", Cond.methodLink RX6 107 yX6_isStrayed, Cond.instanceMethod yX6_isStrayed, Cond.selects RX6 yX6_isStrayed yX6_isStrayed, Cond.code yX6_isStrayed cX6_isStrayed 2 (some .boolean), Cond.methodLink RX6 111 yX6_earOf, Cond.static yX6_earOf, Cond.code yX6_earOf cX6_earOf 1 (some .int), Cond.methodLink RX6 121 yX6_has, Cond.static yX6_has, Cond.code yX6_has cX6_has 2 (some .boolean), Cond.methodLink RX6 125 yX6_knownOn, Cond.instanceMethod yX6_knownOn, Cond.selects RX6 yX6_knownOn yX6_knownOn, Cond.code yX6_knownOn cX6_knownOn 4 (some .int), Cond.methodLink RX6 128 yX6_ones, Cond.static yX6_ones]
def wsX6_hour_r3 : List Cond := [Cond.code yX6_ones cX6_ones 3 (some .int)]
def wsX6_hour : List Cond := .code yX6_hour cX6_hour 1 (some .int) :: ((wsX6_hour_r1 ++ (wsX6_hour_r2 ++ wsX6_hour_r3)) ++ wsX60)
def wsX6_lower : List Cond := .code yX6_lower cX6_lower 2 (some .int) :: ([.fieldLink RX6 22 "DripEarsModel" "now" "[I", .methodLink RX6 131 yX6_isHouse, .instanceMethod yX6_isHouse, .selects RX6 yX6_isHouse yX6_isHouse, .initialized RX6, .code yX6_isHouse cX6_isHouse 2 (some .boolean), .fieldLink RX6 93 "DripEarsModel" "houses" "I", .methodLink RX6 58 yX6_in, .static yX6_in, .code yX6_in cX6_in 6 (some .boolean), .methodLink RX6 146 yX6_keepAct, .instanceMethod yX6_keepAct, .selects RX6 yX6_keepAct yX6_keepAct, .code yX6_keepAct cX6_keepAct 2 none, .fieldLink RX6 37 "DripEarsModel" "row" "[I", .fieldLink RX6 143 "DripEarsModel" "next" "I", .fieldLink RX6 102 "DripEarsModel" "acts" "I"] ++ wsX60)
def wsX6_raise : List Cond := .code yX6_raise cX6_raise 2 (some .int) :: ([.fieldLink RX6 22 "DripEarsModel" "now" "[I", .methodLink RX6 131 yX6_isHouse, .instanceMethod yX6_isHouse, .selects RX6 yX6_isHouse yX6_isHouse, .initialized RX6, .code yX6_isHouse cX6_isHouse 2 (some .boolean), .fieldLink RX6 93 "DripEarsModel" "houses" "I", .methodLink RX6 58 yX6_in, .static yX6_in, .code yX6_in cX6_in 6 (some .boolean), .methodLink RX6 146 yX6_keepAct, .instanceMethod yX6_keepAct, .selects RX6 yX6_keepAct yX6_keepAct, .code yX6_keepAct cX6_keepAct 2 none, .fieldLink RX6 37 "DripEarsModel" "row" "[I", .fieldLink RX6 143 "DripEarsModel" "next" "I", .fieldLink RX6 102 "DripEarsModel" "acts" "I"] ++ wsX60)
def wsX6_changeOn : List Cond := .code yX6_changeOn cX6_changeOn 6 none :: ([.fieldLink RX6 22 "DripEarsModel" "now" "[I"] ++ wsX60)
def wsX6_change_r1 : List Cond := [Cond.methodLink RX6 131 yX6_isHouse, Cond.instanceMethod yX6_isHouse, Cond.selects RX6 yX6_isHouse yX6_isHouse, Cond.initialized RX6, Cond.code yX6_isHouse cX6_isHouse 2 (some .boolean), Cond.fieldLink RX6 93 "DripEarsModel" "houses" "I", Cond.methodLink RX6 58 yX6_in, Cond.static yX6_in, Cond.code yX6_in cX6_in 6 (some .boolean), Cond.methodLink RX6 146 yX6_keepAct, Cond.instanceMethod yX6_keepAct, Cond.selects RX6 yX6_keepAct yX6_keepAct, Cond.code yX6_keepAct cX6_keepAct 2 none, Cond.fieldLink RX6 37 "DripEarsModel" "row" "[I", Cond.fieldLink RX6 143 "DripEarsModel" "next" "I", Cond.fieldLink RX6 22 "DripEarsModel" "now" "[I", Cond.fieldLink RX6 102 "DripEarsModel" "acts" "I", Cond.methodLink RX6 152 yX6_changeOn, Cond.instanceMethod yX6_changeOn, Cond.selects RX6 yX6_changeOn yX6_changeOn, Cond.code yX6_changeOn cX6_changeOn 6 none, Cond.methodLink RX6 134 yX6_knowsAt, Cond.instanceMethod yX6_knowsAt, Cond.selects RX6 yX6_knowsAt yX6_knowsAt]
def wsX6_change_r2 : List Cond := [Cond.code yX6_knowsAt cX6_knowsAt 4 (some .int)]
def wsX6_change : List Cond := .code yX6_change cX6_change 3 (some .int) :: ((wsX6_change_r1 ++ wsX6_change_r2) ++ wsX60)
def wsX6_plateOn : List Cond := .code yX6_plateOn cX6_plateOn 4 none :: ([.fieldLink RX6 22 "DripEarsModel" "now" "[I", .methodLink RX6 134 yX6_knowsAt, .instanceMethod yX6_knowsAt, .selects RX6 yX6_knowsAt yX6_knowsAt, .initialized RX6, .code yX6_knowsAt cX6_knowsAt 4 (some .int)] ++ wsX60)
def wsX6_plate_r1 : List Cond := [Cond.methodLink RX6 131 yX6_isHouse, Cond.instanceMethod yX6_isHouse, Cond.selects RX6 yX6_isHouse yX6_isHouse, Cond.initialized RX6, Cond.code yX6_isHouse cX6_isHouse 2 (some .boolean), Cond.fieldLink RX6 93 "DripEarsModel" "houses" "I", Cond.methodLink RX6 58 yX6_in, Cond.static yX6_in, Cond.code yX6_in cX6_in 6 (some .boolean), Cond.methodLink RX6 146 yX6_keepAct, Cond.instanceMethod yX6_keepAct, Cond.selects RX6 yX6_keepAct yX6_keepAct, Cond.code yX6_keepAct cX6_keepAct 2 none, Cond.fieldLink RX6 37 "DripEarsModel" "row" "[I", Cond.fieldLink RX6 143 "DripEarsModel" "next" "I", Cond.fieldLink RX6 22 "DripEarsModel" "now" "[I", Cond.fieldLink RX6 102 "DripEarsModel" "acts" "I", Cond.methodLink RX6 156 yX6_plateOn, Cond.instanceMethod yX6_plateOn, Cond.selects RX6 yX6_plateOn yX6_plateOn, Cond.code yX6_plateOn cX6_plateOn 4 none, Cond.methodLink RX6 134 yX6_knowsAt, Cond.instanceMethod yX6_knowsAt, Cond.selects RX6 yX6_knowsAt yX6_knowsAt]
def wsX6_plate_r2 : List Cond := [Cond.code yX6_knowsAt cX6_knowsAt 4 (some .int)]
def wsX6_plate : List Cond := .code yX6_plate cX6_plate 2 (some .int) :: ((wsX6_plate_r1 ++ wsX6_plate_r2) ++ wsX60)
def wsX6_undo : List Cond := .code yX6_undo cX6_undo 2 (some .int) :: ([.fieldLink RX6 102 "DripEarsModel" "acts" "I", .fieldLink RX6 143 "DripEarsModel" "next" "I", .fieldLink RX6 22 "DripEarsModel" "now" "[I", .fieldLink RX6 37 "DripEarsModel" "row" "[I"] ++ wsX60)
def wsX6_layTrial : List Cond := .code yX6_layTrial cX6_layTrial 2 none :: ([.fieldLink RX6 22 "DripEarsModel" "now" "[I"] ++ wsX60)
def wsX6_goOn_r1 : List Cond := [Cond.methodLink RX6 138 yX6_rainOn, Cond.instanceMethod yX6_rainOn, Cond.selects RX6 yX6_rainOn yX6_rainOn, Cond.initialized RX6, Cond.code yX6_rainOn cX6_rainOn 2 (some .int), Cond.fieldLink RX6 99 "DripEarsModel" "rains" "I", Cond.fieldLink RX6 19 "DripEarsModel" "rain" "[I", Cond.fieldLink RX6 22 "DripEarsModel" "now" "[I", Cond.methodLink RX6 149 yX6_hourBy, Cond.instanceMethod yX6_hourBy, Cond.selects RX6 yX6_hourBy yX6_hourBy, Cond.code yX6_hourBy cX6_hourBy 8 (some .int), Cond.fieldLink RX6 93 "DripEarsModel" "houses" "I", Cond.fieldLink RX6 16 "DripEarsModel" "saying" "[I", Cond.methodLink RX6 114 yX6_sayingOn, Cond.instanceMethod yX6_sayingOn, Cond.selects RX6 yX6_sayingOn yX6_sayingOn, Cond.code yX6_sayingOn cX6_sayingOn 2 (some .int), Cond.fieldLink RX6 96 "DripEarsModel" "sayings" "I", Cond.methodLink RX6 117 yX6_hears, Cond.instanceMethod yX6_hears, Cond.selects RX6 yX6_hears yX6_hears, Cond.code yX6_hears cX6_hears 9 (some .boolean), Cond.fieldLink RX6 7 "DripEarsModel" "kind" "[I"]
def wsX6_goOn_r2 : List Cond := [Cond.fieldLink RX6 13 "DripEarsModel" "wall" "[I", Cond.methodLink RX6 107 yX6_isStrayed, Cond.instanceMethod yX6_isStrayed, Cond.selects RX6 yX6_isStrayed yX6_isStrayed, Cond.code yX6_isStrayed cX6_isStrayed 2 (some .boolean), Cond.methodLink RX6 111 yX6_earOf, Cond.static yX6_earOf, Cond.code yX6_earOf cX6_earOf 1 (some .int), Cond.methodLink RX6 121 yX6_has, Cond.static yX6_has, Cond.code yX6_has cX6_has 2 (some .boolean), Cond.methodLink RX6 125 yX6_knownOn, Cond.instanceMethod yX6_knownOn, Cond.selects RX6 yX6_knownOn yX6_knownOn, Cond.code yX6_knownOn cX6_knownOn 4 (some .int), Cond.methodLink RX6 128 yX6_ones, Cond.static yX6_ones, Cond.code yX6_ones cX6_ones 3 (some .int)]
def wsX6_goOn : List Cond := .code yX6_goOn cX6_goOn 3 none :: ((wsX6_goOn_r1 ++ wsX6_goOn_r2) ++ wsX60)
def wsX6_later_r1 : List Cond := [Cond.constantLong RX6 160 (30), Cond.methodLink RX6 131 yX6_isHouse, Cond.instanceMethod yX6_isHouse, Cond.selects RX6 yX6_isHouse yX6_isHouse, Cond.initialized RX6, Cond.code yX6_isHouse cX6_isHouse 2 (some .boolean), Cond.fieldLink RX6 93 "DripEarsModel" "houses" "I", Cond.methodLink RX6 58 yX6_in, Cond.static yX6_in, Cond.code yX6_in cX6_in 6 (some .boolean), Cond.methodLink RX6 162 yX6_layTrial, Cond.instanceMethod yX6_layTrial, Cond.selects RX6 yX6_layTrial yX6_layTrial, Cond.code yX6_layTrial cX6_layTrial 2 none, Cond.fieldLink RX6 22 "DripEarsModel" "now" "[I", Cond.methodLink RX6 165 yX6_goOn, Cond.instanceMethod yX6_goOn, Cond.selects RX6 yX6_goOn yX6_goOn, Cond.code yX6_goOn cX6_goOn 3 none, Cond.methodLink RX6 138 yX6_rainOn, Cond.instanceMethod yX6_rainOn, Cond.selects RX6 yX6_rainOn yX6_rainOn, Cond.code yX6_rainOn cX6_rainOn 2 (some .int), Cond.fieldLink RX6 99 "DripEarsModel" "rains" "I"]
def wsX6_later_r2 : List Cond := [Cond.fieldLink RX6 19 "DripEarsModel" "rain" "[I", Cond.methodLink RX6 149 yX6_hourBy, Cond.instanceMethod yX6_hourBy, Cond.selects RX6 yX6_hourBy yX6_hourBy, Cond.code yX6_hourBy cX6_hourBy 8 (some .int), Cond.fieldLink RX6 16 "DripEarsModel" "saying" "[I", Cond.methodLink RX6 114 yX6_sayingOn, Cond.instanceMethod yX6_sayingOn, Cond.selects RX6 yX6_sayingOn yX6_sayingOn, Cond.code yX6_sayingOn cX6_sayingOn 2 (some .int), Cond.fieldLink RX6 96 "DripEarsModel" "sayings" "I", Cond.methodLink RX6 117 yX6_hears, Cond.instanceMethod yX6_hears, Cond.selects RX6 yX6_hears yX6_hears, Cond.code yX6_hears cX6_hears 9 (some .boolean), Cond.fieldLink RX6 7 "DripEarsModel" "kind" "[I", Cond.fieldLink RX6 13 "DripEarsModel" "wall" "[I", Cond.methodLink RX6 107 yX6_isStrayed, Cond.instanceMethod yX6_isStrayed, Cond.selects RX6 yX6_isStrayed yX6_isStrayed, Cond.code yX6_isStrayed cX6_isStrayed 2 (some .boolean), Cond.methodLink RX6 111 yX6_earOf, Cond.static yX6_earOf, Cond.code yX6_earOf cX6_earOf 1 (some .int)]
def wsX6_later_r3 : List Cond := [Cond.methodLink RX6 121 yX6_has, Cond.static yX6_has, Cond.code yX6_has cX6_has 2 (some .boolean), Cond.methodLink RX6 125 yX6_knownOn, Cond.instanceMethod yX6_knownOn, Cond.selects RX6 yX6_knownOn yX6_knownOn, Cond.code yX6_knownOn cX6_knownOn 4 (some .int), Cond.methodLink RX6 128 yX6_ones, Cond.static yX6_ones, Cond.code yX6_ones cX6_ones 3 (some .int), Cond.methodLink RX6 134 yX6_knowsAt, Cond.instanceMethod yX6_knowsAt, Cond.selects RX6 yX6_knowsAt yX6_knowsAt, Cond.code yX6_knowsAt cX6_knowsAt 4 (some .int)]
def wsX6_later : List Cond := .code yX6_later cX6_later 3 (some .int) :: ((wsX6_later_r1 ++ (wsX6_later_r2 ++ wsX6_later_r3)) ++ wsX60)
def wsX6_first_r1 : List Cond := [Cond.methodLink RX6 131 yX6_isHouse, Cond.instanceMethod yX6_isHouse, Cond.selects RX6 yX6_isHouse yX6_isHouse, Cond.initialized RX6, Cond.code yX6_isHouse cX6_isHouse 2 (some .boolean), Cond.fieldLink RX6 93 "DripEarsModel" "houses" "I", Cond.methodLink RX6 58 yX6_in, Cond.static yX6_in, Cond.code yX6_in cX6_in 6 (some .boolean), Cond.methodLink RX6 168 yX6_isThing, Cond.static yX6_isThing, Cond.code yX6_isThing cX6_isThing 1 (some .boolean), Cond.constantLong RX6 105 (5), Cond.methodLink RX6 162 yX6_layTrial, Cond.instanceMethod yX6_layTrial, Cond.selects RX6 yX6_layTrial yX6_layTrial, Cond.code yX6_layTrial cX6_layTrial 2 none, Cond.fieldLink RX6 22 "DripEarsModel" "now" "[I", Cond.methodLink RX6 134 yX6_knowsAt, Cond.instanceMethod yX6_knowsAt, Cond.selects RX6 yX6_knowsAt yX6_knowsAt, Cond.code yX6_knowsAt cX6_knowsAt 4 (some .int), Cond.methodLink RX6 121 yX6_has, Cond.static yX6_has]
def wsX6_first_r2 : List Cond := [Cond.code yX6_has cX6_has 2 (some .boolean), Cond.methodLink RX6 165 yX6_goOn, Cond.instanceMethod yX6_goOn, Cond.selects RX6 yX6_goOn yX6_goOn, Cond.code yX6_goOn cX6_goOn 3 none, Cond.methodLink RX6 138 yX6_rainOn, Cond.instanceMethod yX6_rainOn, Cond.selects RX6 yX6_rainOn yX6_rainOn, Cond.code yX6_rainOn cX6_rainOn 2 (some .int), Cond.fieldLink RX6 99 "DripEarsModel" "rains" "I", Cond.fieldLink RX6 19 "DripEarsModel" "rain" "[I", Cond.methodLink RX6 149 yX6_hourBy, Cond.instanceMethod yX6_hourBy, Cond.selects RX6 yX6_hourBy yX6_hourBy, Cond.code yX6_hourBy cX6_hourBy 8 (some .int), Cond.fieldLink RX6 16 "DripEarsModel" "saying" "[I", Cond.methodLink RX6 114 yX6_sayingOn, Cond.instanceMethod yX6_sayingOn, Cond.selects RX6 yX6_sayingOn yX6_sayingOn, Cond.code yX6_sayingOn cX6_sayingOn 2 (some .int), Cond.fieldLink RX6 96 "DripEarsModel" "sayings" "I", Cond.methodLink RX6 117 yX6_hears, Cond.instanceMethod yX6_hears, Cond.selects RX6 yX6_hears yX6_hears]
def wsX6_first_r3 : List Cond := [Cond.code yX6_hears cX6_hears 9 (some .boolean), Cond.fieldLink RX6 7 "DripEarsModel" "kind" "[I", Cond.fieldLink RX6 13 "DripEarsModel" "wall" "[I", Cond.methodLink RX6 107 yX6_isStrayed, Cond.instanceMethod yX6_isStrayed, Cond.selects RX6 yX6_isStrayed yX6_isStrayed, Cond.code yX6_isStrayed cX6_isStrayed 2 (some .boolean), Cond.methodLink RX6 111 yX6_earOf, Cond.static yX6_earOf, Cond.code yX6_earOf cX6_earOf 1 (some .int), Cond.methodLink RX6 125 yX6_knownOn, Cond.instanceMethod yX6_knownOn, Cond.selects RX6 yX6_knownOn yX6_knownOn, Cond.code yX6_knownOn cX6_knownOn 4 (some .int), Cond.methodLink RX6 128 yX6_ones, Cond.static yX6_ones, Cond.code yX6_ones cX6_ones 3 (some .int)]
def wsX6_first : List Cond := .code yX6_first cX6_first 4 (some .int) :: ((wsX6_first_r1 ++ (wsX6_first_r2 ++ wsX6_first_r3)) ++ wsX60)
def wsX6_loweredBy_r1 : List Cond := [Cond.fieldLink RX6 93 "DripEarsModel" "houses" "I", Cond.fieldLink RX6 22 "DripEarsModel" "now" "[I", Cond.methodLink RX6 162 yX6_layTrial, Cond.instanceMethod yX6_layTrial, Cond.selects RX6 yX6_layTrial yX6_layTrial, Cond.initialized RX6, Cond.code yX6_layTrial cX6_layTrial 2 none, Cond.methodLink RX6 165 yX6_goOn, Cond.instanceMethod yX6_goOn, Cond.selects RX6 yX6_goOn yX6_goOn, Cond.code yX6_goOn cX6_goOn 3 none, Cond.methodLink RX6 138 yX6_rainOn, Cond.instanceMethod yX6_rainOn, Cond.selects RX6 yX6_rainOn yX6_rainOn, Cond.code yX6_rainOn cX6_rainOn 2 (some .int), Cond.fieldLink RX6 99 "DripEarsModel" "rains" "I", Cond.fieldLink RX6 19 "DripEarsModel" "rain" "[I", Cond.methodLink RX6 149 yX6_hourBy, Cond.instanceMethod yX6_hourBy, Cond.selects RX6 yX6_hourBy yX6_hourBy, Cond.code yX6_hourBy cX6_hourBy 8 (some .int), Cond.fieldLink RX6 16 "DripEarsModel" "saying" "[I", Cond.methodLink RX6 114 yX6_sayingOn, Cond.instanceMethod yX6_sayingOn]
def wsX6_loweredBy_r2 : List Cond := [Cond.selects RX6 yX6_sayingOn yX6_sayingOn, Cond.code yX6_sayingOn cX6_sayingOn 2 (some .int), Cond.fieldLink RX6 96 "DripEarsModel" "sayings" "I", Cond.methodLink RX6 117 yX6_hears, Cond.instanceMethod yX6_hears, Cond.selects RX6 yX6_hears yX6_hears, Cond.code yX6_hears cX6_hears 9 (some .boolean), Cond.fieldLink RX6 7 "DripEarsModel" "kind" "[I", Cond.fieldLink RX6 13 "DripEarsModel" "wall" "[I", Cond.methodLink RX6 107 yX6_isStrayed, Cond.instanceMethod yX6_isStrayed, Cond.selects RX6 yX6_isStrayed yX6_isStrayed, Cond.code yX6_isStrayed cX6_isStrayed 2 (some .boolean), Cond.methodLink RX6 111 yX6_earOf, Cond.static yX6_earOf, Cond.code yX6_earOf cX6_earOf 1 (some .int), Cond.methodLink RX6 121 yX6_has, Cond.static yX6_has, Cond.code yX6_has cX6_has 2 (some .boolean), Cond.methodLink RX6 125 yX6_knownOn, Cond.instanceMethod yX6_knownOn, Cond.selects RX6 yX6_knownOn yX6_knownOn, Cond.code yX6_knownOn cX6_knownOn 4 (some .int), Cond.methodLink RX6 128 yX6_ones]
def wsX6_loweredBy_r3 : List Cond := [Cond.static yX6_ones, Cond.code yX6_ones cX6_ones 3 (some .int), Cond.methodLink RX6 134 yX6_knowsAt, Cond.instanceMethod yX6_knowsAt, Cond.selects RX6 yX6_knowsAt yX6_knowsAt, Cond.code yX6_knowsAt cX6_knowsAt 4 (some .int)]
def wsX6_loweredBy : List Cond := .code yX6_loweredBy cX6_loweredBy 8 (some .int) :: ((wsX6_loweredBy_r1 ++ (wsX6_loweredBy_r2 ++ wsX6_loweredBy_r3)) ++ wsX60)
def wsX6_figuresOf : List Cond := .code yX6_figuresOf cX6_figuresOf 6 (some .int) :: ([.fieldLink RX6 93 "DripEarsModel" "houses" "I"] ++ wsX60)
def wsX6_keeps_r1 : List Cond := [Cond.constantLong RX6 171 (12), Cond.fieldLink RX6 93 "DripEarsModel" "houses" "I", Cond.methodLink RX6 131 yX6_isHouse, Cond.instanceMethod yX6_isHouse, Cond.selects RX6 yX6_isHouse yX6_isHouse, Cond.initialized RX6, Cond.code yX6_isHouse cX6_isHouse 2 (some .boolean), Cond.methodLink RX6 58 yX6_in, Cond.static yX6_in, Cond.code yX6_in cX6_in 6 (some .boolean), Cond.methodLink RX6 168 yX6_isThing, Cond.static yX6_isThing, Cond.code yX6_isThing cX6_isThing 1 (some .boolean), Cond.constantLong RX6 105 (5), Cond.methodLink RX6 173 yX6_loweredBy, Cond.instanceMethod yX6_loweredBy, Cond.selects RX6 yX6_loweredBy yX6_loweredBy, Cond.code yX6_loweredBy cX6_loweredBy 8 (some .int), Cond.fieldLink RX6 22 "DripEarsModel" "now" "[I", Cond.methodLink RX6 162 yX6_layTrial, Cond.instanceMethod yX6_layTrial, Cond.selects RX6 yX6_layTrial yX6_layTrial, Cond.code yX6_layTrial cX6_layTrial 2 none, Cond.methodLink RX6 165 yX6_goOn]
def wsX6_keeps_r2 : List Cond := [Cond.instanceMethod yX6_goOn, Cond.selects RX6 yX6_goOn yX6_goOn, Cond.code yX6_goOn cX6_goOn 3 none, Cond.methodLink RX6 138 yX6_rainOn, Cond.instanceMethod yX6_rainOn, Cond.selects RX6 yX6_rainOn yX6_rainOn, Cond.code yX6_rainOn cX6_rainOn 2 (some .int), Cond.fieldLink RX6 99 "DripEarsModel" "rains" "I", Cond.fieldLink RX6 19 "DripEarsModel" "rain" "[I", Cond.methodLink RX6 149 yX6_hourBy, Cond.instanceMethod yX6_hourBy, Cond.selects RX6 yX6_hourBy yX6_hourBy, Cond.code yX6_hourBy cX6_hourBy 8 (some .int), Cond.fieldLink RX6 16 "DripEarsModel" "saying" "[I", Cond.methodLink RX6 114 yX6_sayingOn, Cond.instanceMethod yX6_sayingOn, Cond.selects RX6 yX6_sayingOn yX6_sayingOn, Cond.code yX6_sayingOn cX6_sayingOn 2 (some .int), Cond.fieldLink RX6 96 "DripEarsModel" "sayings" "I", Cond.methodLink RX6 117 yX6_hears, Cond.instanceMethod yX6_hears, Cond.selects RX6 yX6_hears yX6_hears, Cond.code yX6_hears cX6_hears 9 (some .boolean), Cond.fieldLink RX6 7 "DripEarsModel" "kind" "[I"]
def wsX6_keeps_r3 : List Cond := [Cond.fieldLink RX6 13 "DripEarsModel" "wall" "[I", Cond.methodLink RX6 107 yX6_isStrayed, Cond.instanceMethod yX6_isStrayed, Cond.selects RX6 yX6_isStrayed yX6_isStrayed, Cond.code yX6_isStrayed cX6_isStrayed 2 (some .boolean), Cond.methodLink RX6 111 yX6_earOf, Cond.static yX6_earOf, Cond.code yX6_earOf cX6_earOf 1 (some .int), Cond.methodLink RX6 121 yX6_has, Cond.static yX6_has, Cond.code yX6_has cX6_has 2 (some .boolean), Cond.methodLink RX6 125 yX6_knownOn, Cond.instanceMethod yX6_knownOn, Cond.selects RX6 yX6_knownOn yX6_knownOn, Cond.code yX6_knownOn cX6_knownOn 4 (some .int), Cond.methodLink RX6 128 yX6_ones, Cond.static yX6_ones, Cond.code yX6_ones cX6_ones 3 (some .int), Cond.methodLink RX6 134 yX6_knowsAt, Cond.instanceMethod yX6_knowsAt, Cond.selects RX6 yX6_knowsAt yX6_knowsAt, Cond.code yX6_knowsAt cX6_knowsAt 4 (some .int), Cond.methodLink RX6 177 yX6_figuresOf, Cond.instanceMethod yX6_figuresOf]
def wsX6_keeps_r4 : List Cond := [Cond.selects RX6 yX6_figuresOf yX6_figuresOf, Cond.code yX6_figuresOf cX6_figuresOf 6 (some .int)]
def wsX6_keeps : List Cond := .code yX6_keeps cX6_keeps 10 (some .int) :: ((wsX6_keeps_r1 ++ (wsX6_keeps_r2 ++ (wsX6_keeps_r3 ++ wsX6_keeps_r4))) ++ wsX60)
def wsX6_knownBy : List Cond := .code yX6_knownBy cX6_knownBy 4 (some .int) :: ([.fieldLink RX6 93 "DripEarsModel" "houses" "I", .methodLink RX6 121 yX6_has, .static yX6_has, .initialized RX6, .code yX6_has cX6_has 2 (some .boolean), .methodLink RX6 134 yX6_knowsAt, .instanceMethod yX6_knowsAt, .selects RX6 yX6_knowsAt yX6_knowsAt, .code yX6_knowsAt cX6_knowsAt 4 (some .int), .fieldLink RX6 22 "DripEarsModel" "now" "[I"] ++ wsX60)
def wsX6_tells : List Cond := .code yX6_tells cX6_tells 6 (some .int) :: ([.constantLong RX6 180 (63), .fieldLink RX6 93 "DripEarsModel" "houses" "I", .methodLink RX6 58 yX6_in, .static yX6_in, .initialized RX6, .code yX6_in cX6_in 6 (some .boolean), .methodLink RX6 128 yX6_ones, .static yX6_ones, .code yX6_ones cX6_ones 3 (some .int), .methodLink RX6 182 yX6_knownBy, .instanceMethod yX6_knownBy, .selects RX6 yX6_knownBy yX6_knownBy, .code yX6_knownBy cX6_knownBy 4 (some .int), .methodLink RX6 121 yX6_has, .static yX6_has, .code yX6_has cX6_has 2 (some .boolean), .methodLink RX6 134 yX6_knowsAt, .instanceMethod yX6_knowsAt, .selects RX6 yX6_knowsAt yX6_knowsAt, .code yX6_knowsAt cX6_knowsAt 4 (some .int), .fieldLink RX6 22 "DripEarsModel" "now" "[I"] ++ wsX60)
def wsX6_tryThing_r1 : List Cond := [Cond.fieldLink RX6 22 "DripEarsModel" "now" "[I", Cond.methodLink RX6 165 yX6_goOn, Cond.instanceMethod yX6_goOn, Cond.selects RX6 yX6_goOn yX6_goOn, Cond.initialized RX6, Cond.code yX6_goOn cX6_goOn 3 none, Cond.methodLink RX6 138 yX6_rainOn, Cond.instanceMethod yX6_rainOn, Cond.selects RX6 yX6_rainOn yX6_rainOn, Cond.code yX6_rainOn cX6_rainOn 2 (some .int), Cond.fieldLink RX6 99 "DripEarsModel" "rains" "I", Cond.fieldLink RX6 19 "DripEarsModel" "rain" "[I", Cond.methodLink RX6 149 yX6_hourBy, Cond.instanceMethod yX6_hourBy, Cond.selects RX6 yX6_hourBy yX6_hourBy, Cond.code yX6_hourBy cX6_hourBy 8 (some .int), Cond.fieldLink RX6 93 "DripEarsModel" "houses" "I", Cond.fieldLink RX6 16 "DripEarsModel" "saying" "[I", Cond.methodLink RX6 114 yX6_sayingOn, Cond.instanceMethod yX6_sayingOn, Cond.selects RX6 yX6_sayingOn yX6_sayingOn, Cond.code yX6_sayingOn cX6_sayingOn 2 (some .int), Cond.fieldLink RX6 96 "DripEarsModel" "sayings" "I", Cond.methodLink RX6 117 yX6_hears]
def wsX6_tryThing_r2 : List Cond := [Cond.instanceMethod yX6_hears, Cond.selects RX6 yX6_hears yX6_hears, Cond.code yX6_hears cX6_hears 9 (some .boolean), Cond.fieldLink RX6 7 "DripEarsModel" "kind" "[I", Cond.fieldLink RX6 13 "DripEarsModel" "wall" "[I", Cond.methodLink RX6 107 yX6_isStrayed, Cond.instanceMethod yX6_isStrayed, Cond.selects RX6 yX6_isStrayed yX6_isStrayed, Cond.code yX6_isStrayed cX6_isStrayed 2 (some .boolean), Cond.methodLink RX6 111 yX6_earOf, Cond.static yX6_earOf, Cond.code yX6_earOf cX6_earOf 1 (some .int), Cond.methodLink RX6 121 yX6_has, Cond.static yX6_has, Cond.code yX6_has cX6_has 2 (some .boolean), Cond.methodLink RX6 125 yX6_knownOn, Cond.instanceMethod yX6_knownOn, Cond.selects RX6 yX6_knownOn yX6_knownOn, Cond.code yX6_knownOn cX6_knownOn 4 (some .int), Cond.methodLink RX6 128 yX6_ones, Cond.static yX6_ones, Cond.code yX6_ones cX6_ones 3 (some .int), Cond.methodLink RX6 131 yX6_isHouse, Cond.instanceMethod yX6_isHouse]
def wsX6_tryThing_r3 : List Cond := [Cond.selects RX6 yX6_isHouse yX6_isHouse, Cond.code yX6_isHouse cX6_isHouse 2 (some .boolean), Cond.methodLink RX6 58 yX6_in, Cond.static yX6_in, Cond.code yX6_in cX6_in 6 (some .boolean), Cond.methodLink RX6 152 yX6_changeOn, Cond.instanceMethod yX6_changeOn, Cond.selects RX6 yX6_changeOn yX6_changeOn, Cond.code yX6_changeOn cX6_changeOn 6 none, Cond.methodLink RX6 156 yX6_plateOn, Cond.instanceMethod yX6_plateOn, Cond.selects RX6 yX6_plateOn yX6_plateOn, Cond.code yX6_plateOn cX6_plateOn 4 none, Cond.methodLink RX6 134 yX6_knowsAt, Cond.instanceMethod yX6_knowsAt, Cond.selects RX6 yX6_knowsAt yX6_knowsAt, Cond.code yX6_knowsAt cX6_knowsAt 4 (some .int), Cond.methodLink RX6 168 yX6_isThing, Cond.static yX6_isThing, Cond.code yX6_isThing cX6_isThing 1 (some .boolean), Cond.constantLong RX6 105 (5)]
def wsX6_tryThing : List Cond := .code yX6_tryThing cX6_tryThing 8 (some .boolean) :: ((wsX6_tryThing_r1 ++ (wsX6_tryThing_r2 ++ wsX6_tryThing_r3)) ++ wsX60)
def wsX6_thousandTo : List Cond := .code yX6_thousandTo cX6_thousandTo 4 (some .long) :: ([.constantLong RX6 185 (1000)])
def wsX6_judge_r1 : List Cond := [Cond.constantLong RX6 187 (4), Cond.constantLong RX6 185 (1000), Cond.methodLink RX6 58 yX6_in, Cond.static yX6_in, Cond.initialized RX6, Cond.code yX6_in cX6_in 6 (some .boolean), Cond.methodLink RX6 189 yX6_thousandTo, Cond.static yX6_thousandTo, Cond.code yX6_thousandTo cX6_thousandTo 4 (some .long), Cond.methodLink RX6 162 yX6_layTrial, Cond.instanceMethod yX6_layTrial, Cond.selects RX6 yX6_layTrial yX6_layTrial, Cond.code yX6_layTrial cX6_layTrial 2 none, Cond.fieldLink RX6 22 "DripEarsModel" "now" "[I", Cond.methodLink RX6 193 yX6_tryThing, Cond.instanceMethod yX6_tryThing, Cond.selects RX6 yX6_tryThing yX6_tryThing, Cond.code yX6_tryThing cX6_tryThing 8 (some .boolean), Cond.methodLink RX6 165 yX6_goOn, Cond.instanceMethod yX6_goOn, Cond.selects RX6 yX6_goOn yX6_goOn, Cond.code yX6_goOn cX6_goOn 3 none, Cond.methodLink RX6 138 yX6_rainOn, Cond.instanceMethod yX6_rainOn]
def wsX6_judge_r2 : List Cond := [Cond.selects RX6 yX6_rainOn yX6_rainOn, Cond.code yX6_rainOn cX6_rainOn 2 (some .int), Cond.fieldLink RX6 99 "DripEarsModel" "rains" "I", Cond.fieldLink RX6 19 "DripEarsModel" "rain" "[I", Cond.methodLink RX6 149 yX6_hourBy, Cond.instanceMethod yX6_hourBy, Cond.selects RX6 yX6_hourBy yX6_hourBy, Cond.code yX6_hourBy cX6_hourBy 8 (some .int), Cond.fieldLink RX6 93 "DripEarsModel" "houses" "I", Cond.fieldLink RX6 16 "DripEarsModel" "saying" "[I", Cond.methodLink RX6 114 yX6_sayingOn, Cond.instanceMethod yX6_sayingOn, Cond.selects RX6 yX6_sayingOn yX6_sayingOn, Cond.code yX6_sayingOn cX6_sayingOn 2 (some .int), Cond.fieldLink RX6 96 "DripEarsModel" "sayings" "I", Cond.methodLink RX6 117 yX6_hears, Cond.instanceMethod yX6_hears, Cond.selects RX6 yX6_hears yX6_hears, Cond.code yX6_hears cX6_hears 9 (some .boolean), Cond.fieldLink RX6 7 "DripEarsModel" "kind" "[I", Cond.fieldLink RX6 13 "DripEarsModel" "wall" "[I", Cond.methodLink RX6 107 yX6_isStrayed, Cond.instanceMethod yX6_isStrayed, Cond.selects RX6 yX6_isStrayed yX6_isStrayed]
def wsX6_judge_r3 : List Cond := [Cond.code yX6_isStrayed cX6_isStrayed 2 (some .boolean), Cond.methodLink RX6 111 yX6_earOf, Cond.static yX6_earOf, Cond.code yX6_earOf cX6_earOf 1 (some .int), Cond.methodLink RX6 121 yX6_has, Cond.static yX6_has, Cond.code yX6_has cX6_has 2 (some .boolean), Cond.methodLink RX6 125 yX6_knownOn, Cond.instanceMethod yX6_knownOn, Cond.selects RX6 yX6_knownOn yX6_knownOn, Cond.code yX6_knownOn cX6_knownOn 4 (some .int), Cond.methodLink RX6 128 yX6_ones, Cond.static yX6_ones, Cond.code yX6_ones cX6_ones 3 (some .int), Cond.methodLink RX6 131 yX6_isHouse, Cond.instanceMethod yX6_isHouse, Cond.selects RX6 yX6_isHouse yX6_isHouse, Cond.code yX6_isHouse cX6_isHouse 2 (some .boolean), Cond.methodLink RX6 152 yX6_changeOn, Cond.instanceMethod yX6_changeOn, Cond.selects RX6 yX6_changeOn yX6_changeOn, Cond.code yX6_changeOn cX6_changeOn 6 none, Cond.methodLink RX6 156 yX6_plateOn, Cond.instanceMethod yX6_plateOn]
def wsX6_judge_r4 : List Cond := [Cond.selects RX6 yX6_plateOn yX6_plateOn, Cond.code yX6_plateOn cX6_plateOn 4 none, Cond.methodLink RX6 134 yX6_knowsAt, Cond.instanceMethod yX6_knowsAt, Cond.selects RX6 yX6_knowsAt yX6_knowsAt, Cond.code yX6_knowsAt cX6_knowsAt 4 (some .int), Cond.methodLink RX6 168 yX6_isThing, Cond.static yX6_isThing, Cond.code yX6_isThing cX6_isThing 1 (some .boolean), Cond.constantLong RX6 105 (5)]
def wsX6_judge : List Cond := .code yX6_judge cX6_judge 6 (some .int) :: ((wsX6_judge_r1 ++ (wsX6_judge_r2 ++ (wsX6_judge_r3 ++ wsX6_judge_r4))) ++ wsX60)
def wsX6_hear : List Cond := .code yX6_hear cX6_hear 4 (some .int) :: ([.constantLong RX6 197 (9), .fieldLink RX6 199 "DripEarsModel" "heard" "I", .fieldLink RX6 40 "DripEarsModel" "heardLoud" "[I", .fieldLink RX6 43 "DripEarsModel" "heardRain" "[I", .fieldLink RX6 46 "DripEarsModel" "heardIs" "[I", .methodLink RX6 58 yX6_in, .static yX6_in, .initialized RX6, .code yX6_in cX6_in 6 (some .boolean)] ++ wsX60)
def wsX6_unhear : List Cond := .code yX6_unhear cX6_unhear 2 (some .int) :: ([.fieldLink RX6 199 "DripEarsModel" "heard" "I"] ++ wsX60)
def wsX6_ears : List Cond := .code yX6_ears cX6_ears 8 (some .int) :: ([.fieldLink RX6 199 "DripEarsModel" "heard" "I", .fieldLink RX6 40 "DripEarsModel" "heardLoud" "[I", .fieldLink RX6 43 "DripEarsModel" "heardRain" "[I", .fieldLink RX6 46 "DripEarsModel" "heardIs" "[I", .methodLink RX6 58 yX6_in, .static yX6_in, .initialized RX6, .code yX6_in cX6_in 6 (some .boolean), .methodLink RX6 111 yX6_earOf, .static yX6_earOf, .code yX6_earOf cX6_earOf 1 (some .int)] ++ wsX60)
def wsX6_factorial : List Cond := .code yX6_factorial cX6_factorial 3 (some .int) :: ([])
def wsX6_common : List Cond := .code yX6_common cX6_common 5 (some .int) :: ([])
def wsX6_share_r1 : List Cond := [Cond.fieldLink RX6 93 "DripEarsModel" "houses" "I", Cond.methodLink RX6 131 yX6_isHouse, Cond.instanceMethod yX6_isHouse, Cond.selects RX6 yX6_isHouse yX6_isHouse, Cond.initialized RX6, Cond.code yX6_isHouse cX6_isHouse 2 (some .boolean), Cond.methodLink RX6 58 yX6_in, Cond.static yX6_in, Cond.code yX6_in cX6_in 6 (some .boolean), Cond.methodLink RX6 121 yX6_has, Cond.static yX6_has, Cond.code yX6_has cX6_has 2 (some .boolean), Cond.methodLink RX6 128 yX6_ones, Cond.static yX6_ones, Cond.code yX6_ones cX6_ones 3 (some .int), Cond.methodLink RX6 202 yX6_factorial, Cond.static yX6_factorial, Cond.code yX6_factorial cX6_factorial 3 (some .int), Cond.methodLink RX6 182 yX6_knownBy, Cond.instanceMethod yX6_knownBy, Cond.selects RX6 yX6_knownBy yX6_knownBy, Cond.code yX6_knownBy cX6_knownBy 4 (some .int), Cond.methodLink RX6 134 yX6_knowsAt, Cond.instanceMethod yX6_knowsAt]
def wsX6_share_r2 : List Cond := [Cond.selects RX6 yX6_knowsAt yX6_knowsAt, Cond.code yX6_knowsAt cX6_knowsAt 4 (some .int), Cond.fieldLink RX6 22 "DripEarsModel" "now" "[I", Cond.methodLink RX6 205 yX6_common, Cond.static yX6_common, Cond.code yX6_common cX6_common 5 (some .int)]
def wsX6_share : List Cond := .code yX6_share cX6_share 6 (some .int) :: ((wsX6_share_r1 ++ wsX6_share_r2) ++ wsX60)
def wsX6_gain_r1 : List Cond := [Cond.fieldLink RX6 22 "DripEarsModel" "now" "[I", Cond.methodLink RX6 162 yX6_layTrial, Cond.instanceMethod yX6_layTrial, Cond.selects RX6 yX6_layTrial yX6_layTrial, Cond.initialized RX6, Cond.code yX6_layTrial cX6_layTrial 2 none, Cond.methodLink RX6 165 yX6_goOn, Cond.instanceMethod yX6_goOn, Cond.selects RX6 yX6_goOn yX6_goOn, Cond.code yX6_goOn cX6_goOn 3 none, Cond.methodLink RX6 138 yX6_rainOn, Cond.instanceMethod yX6_rainOn, Cond.selects RX6 yX6_rainOn yX6_rainOn, Cond.code yX6_rainOn cX6_rainOn 2 (some .int), Cond.fieldLink RX6 99 "DripEarsModel" "rains" "I", Cond.fieldLink RX6 19 "DripEarsModel" "rain" "[I", Cond.methodLink RX6 149 yX6_hourBy, Cond.instanceMethod yX6_hourBy, Cond.selects RX6 yX6_hourBy yX6_hourBy, Cond.code yX6_hourBy cX6_hourBy 8 (some .int), Cond.fieldLink RX6 93 "DripEarsModel" "houses" "I", Cond.fieldLink RX6 16 "DripEarsModel" "saying" "[I", Cond.methodLink RX6 114 yX6_sayingOn, Cond.instanceMethod yX6_sayingOn]
def wsX6_gain_r2 : List Cond := [Cond.selects RX6 yX6_sayingOn yX6_sayingOn, Cond.code yX6_sayingOn cX6_sayingOn 2 (some .int), Cond.fieldLink RX6 96 "DripEarsModel" "sayings" "I", Cond.methodLink RX6 117 yX6_hears, Cond.instanceMethod yX6_hears, Cond.selects RX6 yX6_hears yX6_hears, Cond.code yX6_hears cX6_hears 9 (some .boolean), Cond.fieldLink RX6 7 "DripEarsModel" "kind" "[I", Cond.fieldLink RX6 13 "DripEarsModel" "wall" "[I", Cond.methodLink RX6 107 yX6_isStrayed, Cond.instanceMethod yX6_isStrayed, Cond.selects RX6 yX6_isStrayed yX6_isStrayed, Cond.code yX6_isStrayed cX6_isStrayed 2 (some .boolean), Cond.methodLink RX6 111 yX6_earOf, Cond.static yX6_earOf, Cond.code yX6_earOf cX6_earOf 1 (some .int), Cond.methodLink RX6 121 yX6_has, Cond.static yX6_has, Cond.code yX6_has cX6_has 2 (some .boolean), Cond.methodLink RX6 125 yX6_knownOn, Cond.instanceMethod yX6_knownOn, Cond.selects RX6 yX6_knownOn yX6_knownOn, Cond.code yX6_knownOn cX6_knownOn 4 (some .int), Cond.methodLink RX6 128 yX6_ones]
def wsX6_gain_r3 : List Cond := [Cond.static yX6_ones, Cond.code yX6_ones cX6_ones 3 (some .int), Cond.methodLink RX6 134 yX6_knowsAt, Cond.instanceMethod yX6_knowsAt, Cond.selects RX6 yX6_knowsAt yX6_knowsAt, Cond.code yX6_knowsAt cX6_knowsAt 4 (some .int)]
def wsX6_gain : List Cond := .code yX6_gain cX6_gain 5 (some .int) :: ((wsX6_gain_r1 ++ (wsX6_gain_r2 ++ wsX6_gain_r3)) ++ wsX60)
def wsX6_isRest_r1 : List Cond := [Cond.methodLink RX6 208 yX6_gain, Cond.instanceMethod yX6_gain, Cond.selects RX6 yX6_gain yX6_gain, Cond.initialized RX6, Cond.code yX6_gain cX6_gain 5 (some .int), Cond.fieldLink RX6 22 "DripEarsModel" "now" "[I", Cond.methodLink RX6 162 yX6_layTrial, Cond.instanceMethod yX6_layTrial, Cond.selects RX6 yX6_layTrial yX6_layTrial, Cond.code yX6_layTrial cX6_layTrial 2 none, Cond.methodLink RX6 165 yX6_goOn, Cond.instanceMethod yX6_goOn, Cond.selects RX6 yX6_goOn yX6_goOn, Cond.code yX6_goOn cX6_goOn 3 none, Cond.methodLink RX6 138 yX6_rainOn, Cond.instanceMethod yX6_rainOn, Cond.selects RX6 yX6_rainOn yX6_rainOn, Cond.code yX6_rainOn cX6_rainOn 2 (some .int), Cond.fieldLink RX6 99 "DripEarsModel" "rains" "I", Cond.fieldLink RX6 19 "DripEarsModel" "rain" "[I", Cond.methodLink RX6 149 yX6_hourBy, Cond.instanceMethod yX6_hourBy, Cond.selects RX6 yX6_hourBy yX6_hourBy, Cond.code yX6_hourBy cX6_hourBy 8 (some .int)]
def wsX6_isRest_r2 : List Cond := [Cond.fieldLink RX6 93 "DripEarsModel" "houses" "I", Cond.fieldLink RX6 16 "DripEarsModel" "saying" "[I", Cond.methodLink RX6 114 yX6_sayingOn, Cond.instanceMethod yX6_sayingOn, Cond.selects RX6 yX6_sayingOn yX6_sayingOn, Cond.code yX6_sayingOn cX6_sayingOn 2 (some .int), Cond.fieldLink RX6 96 "DripEarsModel" "sayings" "I", Cond.methodLink RX6 117 yX6_hears, Cond.instanceMethod yX6_hears, Cond.selects RX6 yX6_hears yX6_hears, Cond.code yX6_hears cX6_hears 9 (some .boolean), Cond.fieldLink RX6 7 "DripEarsModel" "kind" "[I", Cond.fieldLink RX6 13 "DripEarsModel" "wall" "[I", Cond.methodLink RX6 107 yX6_isStrayed, Cond.instanceMethod yX6_isStrayed, Cond.selects RX6 yX6_isStrayed yX6_isStrayed, Cond.code yX6_isStrayed cX6_isStrayed 2 (some .boolean), Cond.methodLink RX6 111 yX6_earOf, Cond.static yX6_earOf, Cond.code yX6_earOf cX6_earOf 1 (some .int), Cond.methodLink RX6 121 yX6_has, Cond.static yX6_has, Cond.code yX6_has cX6_has 2 (some .boolean), Cond.methodLink RX6 125 yX6_knownOn]
def wsX6_isRest_r3 : List Cond := [Cond.instanceMethod yX6_knownOn, Cond.selects RX6 yX6_knownOn yX6_knownOn, Cond.code yX6_knownOn cX6_knownOn 4 (some .int), Cond.methodLink RX6 128 yX6_ones, Cond.static yX6_ones, Cond.code yX6_ones cX6_ones 3 (some .int), Cond.methodLink RX6 134 yX6_knowsAt, Cond.instanceMethod yX6_knowsAt, Cond.selects RX6 yX6_knowsAt yX6_knowsAt, Cond.code yX6_knowsAt cX6_knowsAt 4 (some .int)]
def wsX6_isRest : List Cond := .code yX6_isRest cX6_isRest 5 (some .boolean) :: ((wsX6_isRest_r1 ++ (wsX6_isRest_r2 ++ wsX6_isRest_r3)) ++ wsX60)
def wsX6_rests_r1 : List Cond := [Cond.methodLink RX6 131 yX6_isHouse, Cond.instanceMethod yX6_isHouse, Cond.selects RX6 yX6_isHouse yX6_isHouse, Cond.initialized RX6, Cond.code yX6_isHouse cX6_isHouse 2 (some .boolean), Cond.fieldLink RX6 93 "DripEarsModel" "houses" "I", Cond.methodLink RX6 58 yX6_in, Cond.static yX6_in, Cond.code yX6_in cX6_in 6 (some .boolean), Cond.methodLink RX6 211 yX6_isRest, Cond.instanceMethod yX6_isRest, Cond.selects RX6 yX6_isRest yX6_isRest, Cond.code yX6_isRest cX6_isRest 5 (some .boolean), Cond.methodLink RX6 208 yX6_gain, Cond.instanceMethod yX6_gain, Cond.selects RX6 yX6_gain yX6_gain, Cond.code yX6_gain cX6_gain 5 (some .int), Cond.fieldLink RX6 22 "DripEarsModel" "now" "[I", Cond.methodLink RX6 162 yX6_layTrial, Cond.instanceMethod yX6_layTrial, Cond.selects RX6 yX6_layTrial yX6_layTrial, Cond.code yX6_layTrial cX6_layTrial 2 none, Cond.methodLink RX6 165 yX6_goOn, Cond.instanceMethod yX6_goOn]
def wsX6_rests_r2 : List Cond := [Cond.selects RX6 yX6_goOn yX6_goOn, Cond.code yX6_goOn cX6_goOn 3 none, Cond.methodLink RX6 138 yX6_rainOn, Cond.instanceMethod yX6_rainOn, Cond.selects RX6 yX6_rainOn yX6_rainOn, Cond.code yX6_rainOn cX6_rainOn 2 (some .int), Cond.fieldLink RX6 99 "DripEarsModel" "rains" "I", Cond.fieldLink RX6 19 "DripEarsModel" "rain" "[I", Cond.methodLink RX6 149 yX6_hourBy, Cond.instanceMethod yX6_hourBy, Cond.selects RX6 yX6_hourBy yX6_hourBy, Cond.code yX6_hourBy cX6_hourBy 8 (some .int), Cond.fieldLink RX6 16 "DripEarsModel" "saying" "[I", Cond.methodLink RX6 114 yX6_sayingOn, Cond.instanceMethod yX6_sayingOn, Cond.selects RX6 yX6_sayingOn yX6_sayingOn, Cond.code yX6_sayingOn cX6_sayingOn 2 (some .int), Cond.fieldLink RX6 96 "DripEarsModel" "sayings" "I", Cond.methodLink RX6 117 yX6_hears, Cond.instanceMethod yX6_hears, Cond.selects RX6 yX6_hears yX6_hears, Cond.code yX6_hears cX6_hears 9 (some .boolean), Cond.fieldLink RX6 7 "DripEarsModel" "kind" "[I", Cond.fieldLink RX6 13 "DripEarsModel" "wall" "[I"]
def wsX6_rests_r3 : List Cond := [Cond.methodLink RX6 107 yX6_isStrayed, Cond.instanceMethod yX6_isStrayed, Cond.selects RX6 yX6_isStrayed yX6_isStrayed, Cond.code yX6_isStrayed cX6_isStrayed 2 (some .boolean), Cond.methodLink RX6 111 yX6_earOf, Cond.static yX6_earOf, Cond.code yX6_earOf cX6_earOf 1 (some .int), Cond.methodLink RX6 121 yX6_has, Cond.static yX6_has, Cond.code yX6_has cX6_has 2 (some .boolean), Cond.methodLink RX6 125 yX6_knownOn, Cond.instanceMethod yX6_knownOn, Cond.selects RX6 yX6_knownOn yX6_knownOn, Cond.code yX6_knownOn cX6_knownOn 4 (some .int), Cond.methodLink RX6 128 yX6_ones, Cond.static yX6_ones, Cond.code yX6_ones cX6_ones 3 (some .int), Cond.methodLink RX6 134 yX6_knowsAt, Cond.instanceMethod yX6_knowsAt, Cond.selects RX6 yX6_knowsAt yX6_knowsAt, Cond.code yX6_knowsAt cX6_knowsAt 4 (some .int)]
def wsX6_rests : List Cond := .code yX6_rests cX6_rests 7 (some .int) :: ((wsX6_rests_r1 ++ (wsX6_rests_r2 ++ wsX6_rests_r3)) ++ wsX60)
def wsX6_dries_r1 : List Cond := [Cond.constantLong RX6 214 (6), Cond.constantLong RX6 216 (10), Cond.methodLink RX6 131 yX6_isHouse, Cond.instanceMethod yX6_isHouse, Cond.selects RX6 yX6_isHouse yX6_isHouse, Cond.initialized RX6, Cond.code yX6_isHouse cX6_isHouse 2 (some .boolean), Cond.fieldLink RX6 93 "DripEarsModel" "houses" "I", Cond.methodLink RX6 58 yX6_in, Cond.static yX6_in, Cond.code yX6_in cX6_in 6 (some .boolean), Cond.methodLink RX6 168 yX6_isThing, Cond.static yX6_isThing, Cond.code yX6_isThing cX6_isThing 1 (some .boolean), Cond.constantLong RX6 105 (5), Cond.methodLink RX6 162 yX6_layTrial, Cond.instanceMethod yX6_layTrial, Cond.selects RX6 yX6_layTrial yX6_layTrial, Cond.code yX6_layTrial cX6_layTrial 2 none, Cond.fieldLink RX6 22 "DripEarsModel" "now" "[I", Cond.methodLink RX6 121 yX6_has, Cond.static yX6_has, Cond.code yX6_has cX6_has 2 (some .boolean), Cond.methodLink RX6 138 yX6_rainOn]
def wsX6_dries_r2 : List Cond := [Cond.instanceMethod yX6_rainOn, Cond.selects RX6 yX6_rainOn yX6_rainOn, Cond.code yX6_rainOn cX6_rainOn 2 (some .int), Cond.fieldLink RX6 99 "DripEarsModel" "rains" "I", Cond.fieldLink RX6 19 "DripEarsModel" "rain" "[I", Cond.methodLink RX6 149 yX6_hourBy, Cond.instanceMethod yX6_hourBy, Cond.selects RX6 yX6_hourBy yX6_hourBy, Cond.code yX6_hourBy cX6_hourBy 8 (some .int), Cond.fieldLink RX6 16 "DripEarsModel" "saying" "[I", Cond.methodLink RX6 114 yX6_sayingOn, Cond.instanceMethod yX6_sayingOn, Cond.selects RX6 yX6_sayingOn yX6_sayingOn, Cond.code yX6_sayingOn cX6_sayingOn 2 (some .int), Cond.fieldLink RX6 96 "DripEarsModel" "sayings" "I", Cond.methodLink RX6 117 yX6_hears, Cond.instanceMethod yX6_hears, Cond.selects RX6 yX6_hears yX6_hears, Cond.code yX6_hears cX6_hears 9 (some .boolean), Cond.fieldLink RX6 7 "DripEarsModel" "kind" "[I", Cond.fieldLink RX6 13 "DripEarsModel" "wall" "[I", Cond.methodLink RX6 107 yX6_isStrayed, Cond.instanceMethod yX6_isStrayed, Cond.selects RX6 yX6_isStrayed yX6_isStrayed]
def wsX6_dries_r3 : List Cond := [Cond.code yX6_isStrayed cX6_isStrayed 2 (some .boolean), Cond.methodLink RX6 111 yX6_earOf, Cond.static yX6_earOf, Cond.code yX6_earOf cX6_earOf 1 (some .int), Cond.methodLink RX6 125 yX6_knownOn, Cond.instanceMethod yX6_knownOn, Cond.selects RX6 yX6_knownOn yX6_knownOn, Cond.code yX6_knownOn cX6_knownOn 4 (some .int), Cond.methodLink RX6 128 yX6_ones, Cond.static yX6_ones, Cond.code yX6_ones cX6_ones 3 (some .int), Cond.methodLink RX6 134 yX6_knowsAt, Cond.instanceMethod yX6_knowsAt, Cond.selects RX6 yX6_knowsAt yX6_knowsAt, Cond.code yX6_knowsAt cX6_knowsAt 4 (some .int), Cond.methodLink RX6 205 yX6_common, Cond.static yX6_common, Cond.code yX6_common cX6_common 5 (some .int)]
def wsX6_dries : List Cond := .code yX6_dries cX6_dries 11 (some .int) :: ((wsX6_dries_r1 ++ (wsX6_dries_r2 ++ wsX6_dries_r3)) ++ wsX60)
def wsX6_seed : List Cond := .code yX6_seed cX6_seed 5 (some .long) :: ([.fieldLink RX6 218 "DripEarsModel" "seed" "J"] ++ wsX60)
def wsX6_knownTogether : List Cond := .code yX6_knownTogether cX6_knownTogether 3 (some .int) :: ([.fieldLink RX6 93 "DripEarsModel" "houses" "I", .fieldLink RX6 22 "DripEarsModel" "now" "[I", .methodLink RX6 128 yX6_ones, .static yX6_ones, .initialized RX6, .code yX6_ones cX6_ones 3 (some .int)] ++ wsX60)
def wsX6_years_r1 : List Cond := [Cond.constantLong RX6 160 (30), Cond.fieldLink RX6 218 "DripEarsModel" "seed" "J", Cond.constantLong RX6 222 (6364136223846793005), Cond.constantLong RX6 224 (1442695040888963407), Cond.constantLong RX6 226 (32), Cond.methodLink RX6 58 yX6_in, Cond.static yX6_in, Cond.initialized RX6, Cond.code yX6_in cX6_in 6 (some .boolean), Cond.methodLink RX6 162 yX6_layTrial, Cond.instanceMethod yX6_layTrial, Cond.selects RX6 yX6_layTrial yX6_layTrial, Cond.code yX6_layTrial cX6_layTrial 2 none, Cond.fieldLink RX6 22 "DripEarsModel" "now" "[I", Cond.methodLink RX6 165 yX6_goOn, Cond.instanceMethod yX6_goOn, Cond.selects RX6 yX6_goOn yX6_goOn, Cond.code yX6_goOn cX6_goOn 3 none, Cond.methodLink RX6 138 yX6_rainOn, Cond.instanceMethod yX6_rainOn, Cond.selects RX6 yX6_rainOn yX6_rainOn, Cond.code yX6_rainOn cX6_rainOn 2 (some .int), Cond.fieldLink RX6 99 "DripEarsModel" "rains" "I", Cond.fieldLink RX6 19 "DripEarsModel" "rain" "[I"]
def wsX6_years_r2 : List Cond := [Cond.methodLink RX6 149 yX6_hourBy, Cond.instanceMethod yX6_hourBy, Cond.selects RX6 yX6_hourBy yX6_hourBy, Cond.code yX6_hourBy cX6_hourBy 8 (some .int), Cond.fieldLink RX6 93 "DripEarsModel" "houses" "I", Cond.fieldLink RX6 16 "DripEarsModel" "saying" "[I", Cond.methodLink RX6 114 yX6_sayingOn, Cond.instanceMethod yX6_sayingOn, Cond.selects RX6 yX6_sayingOn yX6_sayingOn, Cond.code yX6_sayingOn cX6_sayingOn 2 (some .int), Cond.fieldLink RX6 96 "DripEarsModel" "sayings" "I", Cond.methodLink RX6 117 yX6_hears, Cond.instanceMethod yX6_hears, Cond.selects RX6 yX6_hears yX6_hears, Cond.code yX6_hears cX6_hears 9 (some .boolean), Cond.fieldLink RX6 7 "DripEarsModel" "kind" "[I", Cond.fieldLink RX6 13 "DripEarsModel" "wall" "[I", Cond.methodLink RX6 107 yX6_isStrayed, Cond.instanceMethod yX6_isStrayed, Cond.selects RX6 yX6_isStrayed yX6_isStrayed, Cond.code yX6_isStrayed cX6_isStrayed 2 (some .boolean), Cond.methodLink RX6 111 yX6_earOf, Cond.static yX6_earOf, Cond.code yX6_earOf cX6_earOf 1 (some .int)]
def wsX6_years_r3 : List Cond := [Cond.methodLink RX6 121 yX6_has, Cond.static yX6_has, Cond.code yX6_has cX6_has 2 (some .boolean), Cond.methodLink RX6 125 yX6_knownOn, Cond.instanceMethod yX6_knownOn, Cond.selects RX6 yX6_knownOn yX6_knownOn, Cond.code yX6_knownOn cX6_knownOn 4 (some .int), Cond.methodLink RX6 128 yX6_ones, Cond.static yX6_ones, Cond.code yX6_ones cX6_ones 3 (some .int), Cond.methodLink RX6 193 yX6_tryThing, Cond.instanceMethod yX6_tryThing, Cond.selects RX6 yX6_tryThing yX6_tryThing, Cond.code yX6_tryThing cX6_tryThing 8 (some .boolean), Cond.methodLink RX6 131 yX6_isHouse, Cond.instanceMethod yX6_isHouse, Cond.selects RX6 yX6_isHouse yX6_isHouse, Cond.code yX6_isHouse cX6_isHouse 2 (some .boolean), Cond.methodLink RX6 152 yX6_changeOn, Cond.instanceMethod yX6_changeOn, Cond.selects RX6 yX6_changeOn yX6_changeOn, Cond.code yX6_changeOn cX6_changeOn 6 none, Cond.methodLink RX6 156 yX6_plateOn, Cond.instanceMethod yX6_plateOn]
def wsX6_years_r4 : List Cond := [Cond.selects RX6 yX6_plateOn yX6_plateOn, Cond.code yX6_plateOn cX6_plateOn 4 none, Cond.methodLink RX6 134 yX6_knowsAt, Cond.instanceMethod yX6_knowsAt, Cond.selects RX6 yX6_knowsAt yX6_knowsAt, Cond.code yX6_knowsAt cX6_knowsAt 4 (some .int), Cond.methodLink RX6 168 yX6_isThing, Cond.static yX6_isThing, Cond.code yX6_isThing cX6_isThing 1 (some .boolean), Cond.constantLong RX6 105 (5), Cond.methodLink RX6 228 yX6_knownTogether, Cond.instanceMethod yX6_knownTogether, Cond.selects RX6 yX6_knownTogether yX6_knownTogether, Cond.code yX6_knownTogether cX6_knownTogether 3 (some .int)]
def wsX6_years : List Cond := .code yX6_years cX6_years 5 (some .int) :: ((wsX6_years_r1 ++ (wsX6_years_r2 ++ (wsX6_years_r3 ++ wsX6_years_r4))) ++ wsX60)
def wsX6_keep : List Cond := .code yX6_keep cX6_keep 3 (some .int) :: ([.fieldLink RX6 49 "DripEarsModel" "isKept" "[Z", .fieldLink RX6 53 "DripEarsModel" "kept" "[I", .fieldLink RX6 22 "DripEarsModel" "now" "[I", .methodLink RX6 58 yX6_in, .static yX6_in, .initialized RX6, .code yX6_in cX6_in 6 (some .boolean)] ++ wsX60)
def wsX6_again : List Cond := .code yX6_again cX6_again 3 (some .int) :: ([.fieldLink RX6 49 "DripEarsModel" "isKept" "[Z", .fieldLink RX6 22 "DripEarsModel" "now" "[I", .fieldLink RX6 53 "DripEarsModel" "kept" "[I", .fieldLink RX6 102 "DripEarsModel" "acts" "I", .methodLink RX6 58 yX6_in, .static yX6_in, .initialized RX6, .code yX6_in cX6_in 6 (some .boolean)] ++ wsX60)
def wsX6_hearingHouses_r1 : List Cond := [Cond.fieldLink RX6 93 "DripEarsModel" "houses" "I", Cond.methodLink RX6 114 yX6_sayingOn, Cond.instanceMethod yX6_sayingOn, Cond.selects RX6 yX6_sayingOn yX6_sayingOn, Cond.initialized RX6, Cond.code yX6_sayingOn cX6_sayingOn 2 (some .int), Cond.fieldLink RX6 96 "DripEarsModel" "sayings" "I", Cond.fieldLink RX6 22 "DripEarsModel" "now" "[I", Cond.methodLink RX6 138 yX6_rainOn, Cond.instanceMethod yX6_rainOn, Cond.selects RX6 yX6_rainOn yX6_rainOn, Cond.code yX6_rainOn cX6_rainOn 2 (some .int), Cond.fieldLink RX6 99 "DripEarsModel" "rains" "I", Cond.fieldLink RX6 19 "DripEarsModel" "rain" "[I", Cond.methodLink RX6 117 yX6_hears, Cond.instanceMethod yX6_hears, Cond.selects RX6 yX6_hears yX6_hears, Cond.code yX6_hears cX6_hears 9 (some .boolean), Cond.fieldLink RX6 16 "DripEarsModel" "saying" "[I", Cond.fieldLink RX6 7 "DripEarsModel" "kind" "[I", Cond.fieldLink RX6 13 "DripEarsModel" "wall" "[I", Cond.methodLink RX6 107 yX6_isStrayed, Cond.instanceMethod yX6_isStrayed, Cond.selects RX6 yX6_isStrayed yX6_isStrayed]
def wsX6_hearingHouses_r2 : List Cond := [Cond.code yX6_isStrayed cX6_isStrayed 2 (some .boolean), Cond.methodLink RX6 111 yX6_earOf, Cond.static yX6_earOf, Cond.code yX6_earOf cX6_earOf 1 (some .int)]
def wsX6_hearingHouses : List Cond := .code yX6_hearingHouses cX6_hearingHouses 3 (some .int) :: ((wsX6_hearingHouses_r1 ++ wsX6_hearingHouses_r2) ++ wsX60)
def wsX6_count_r1 : List Cond := [Cond.fieldLink RX6 62 "DripEarsModel" "length" "I", Cond.fieldLink RX6 93 "DripEarsModel" "houses" "I", Cond.fieldLink RX6 96 "DripEarsModel" "sayings" "I", Cond.fieldLink RX6 99 "DripEarsModel" "rains" "I", Cond.fieldLink RX6 22 "DripEarsModel" "now" "[I", Cond.fieldLink RX6 102 "DripEarsModel" "acts" "I", Cond.fieldLink RX6 199 "DripEarsModel" "heard" "I", Cond.methodLink RX6 138 yX6_rainOn, Cond.instanceMethod yX6_rainOn, Cond.selects RX6 yX6_rainOn yX6_rainOn, Cond.initialized RX6, Cond.code yX6_rainOn cX6_rainOn 2 (some .int), Cond.fieldLink RX6 19 "DripEarsModel" "rain" "[I", Cond.methodLink RX6 107 yX6_isStrayed, Cond.instanceMethod yX6_isStrayed, Cond.selects RX6 yX6_isStrayed yX6_isStrayed, Cond.code yX6_isStrayed cX6_isStrayed 2 (some .boolean), Cond.methodLink RX6 125 yX6_knownOn, Cond.instanceMethod yX6_knownOn, Cond.selects RX6 yX6_knownOn yX6_knownOn, Cond.code yX6_knownOn cX6_knownOn 4 (some .int), Cond.methodLink RX6 231 yX6_hearingHouses, Cond.instanceMethod yX6_hearingHouses, Cond.selects RX6 yX6_hearingHouses yX6_hearingHouses]
def wsX6_count_r2 : List Cond := [Cond.code yX6_hearingHouses cX6_hearingHouses 3 (some .int), Cond.methodLink RX6 114 yX6_sayingOn, Cond.instanceMethod yX6_sayingOn, Cond.selects RX6 yX6_sayingOn yX6_sayingOn, Cond.code yX6_sayingOn cX6_sayingOn 2 (some .int), Cond.methodLink RX6 117 yX6_hears, Cond.instanceMethod yX6_hears, Cond.selects RX6 yX6_hears yX6_hears, Cond.code yX6_hears cX6_hears 9 (some .boolean), Cond.fieldLink RX6 16 "DripEarsModel" "saying" "[I", Cond.fieldLink RX6 7 "DripEarsModel" "kind" "[I", Cond.fieldLink RX6 13 "DripEarsModel" "wall" "[I", Cond.methodLink RX6 111 yX6_earOf, Cond.static yX6_earOf, Cond.code yX6_earOf cX6_earOf 1 (some .int)]
def wsX6_count : List Cond := .code yX6_count cX6_count 2 (some .int) :: ((wsX6_count_r1 ++ wsX6_count_r2) ++ wsX60)
def wsJ9_abs_0f7a4 : List Cond := .code yJ9_abs_0f7a4 cJ9_abs_0f7a4 1 (some .int) :: ([])
def wsJ9_min_7cf53 : List Cond := .code yJ9_min_7cf53 cJ9_min_7cf53 2 (some .int) :: ([])
def wsL_law_r1 : List Cond := [Cond.classLink RL 7 RX5, Cond.instantiable RX5 15, Cond.initialized RX5, Cond.classLink RL 10 RX6, Cond.instantiable RX6 28, Cond.initialized RX6, Cond.constantLong RL 81 (4294967295), Cond.methodLink RL 9 yX5_init, Cond.instanceMethod yX5_init, Cond.code yX5_init cX5_init 2 none, Cond.methodLink RX5 1 objectInit, Cond.instanceMethod objectInit, Cond.code objectInit ⟨#[0xb1]⟩ 1 none, Cond.arrayClass .int, Cond.fieldLink RX5 9 "DripEars" "text" "[I", Cond.classLink RX5 13 RX4, Cond.fieldLink RX5 15 "DripEars" "kept" "[LDripEars$Scene;", Cond.arrayClass .boolean, Cond.fieldLink RX5 19 "DripEars" "isKept" "[Z", Cond.fieldLink RX5 23 "DripEars" "doings" "[I", Cond.fieldLink RX5 26 "DripEars" "lowerings" "[I", Cond.fieldLink RX5 29 "DripEars" "oneHas" "[I", Cond.fieldLink RX5 32 "DripEars" "otherHas" "[I", Cond.classLink RX5 35 RX2]
def wsL_law_r2 : List Cond := [Cond.instantiable RX2 9, Cond.initialized RX2, Cond.fieldLink RX5 38 "DripEars" "told" "LDripEars$Lane;", Cond.classLink RX5 42 RX3, Cond.instantiable RX3 5, Cond.initialized RX3, Cond.fieldLink RX5 45 "DripEars" "reader" "LDripEars$Reader;", Cond.instantiable RX4 6, Cond.initialized RX4, Cond.fieldLink RX5 52 "DripEars" "now" "LDripEars$Scene;", Cond.fieldLink RX5 56 "DripEars" "trial" "LDripEars$Scene;", Cond.classLink RX5 59 RX0, Cond.instantiable RX0 3, Cond.initialized RX0, Cond.fieldLink RX5 62 "DripEars" "acts" "LDripEars$Acts;", Cond.classLink RX5 66 RX1, Cond.instantiable RX1 4, Cond.initialized RX1, Cond.fieldLink RX5 69 "DripEars" "heardSayings" "LDripEars$Heard;", Cond.instanceMethod yX2_init, Cond.code yX2_init cX2_init 1 none, Cond.methodLink RX2 3 objectInit, Cond.fieldLink RX2 9 "DripEars$Lane" "wall" "[I", Cond.fieldLink RX2 15 "DripEars$Lane" "kind" "[I"]
def wsL_law_r3 : List Cond := [Cond.fieldLink RX2 18 "DripEars$Lane" "place" "[I", Cond.fieldLink RX2 21 "DripEars$Lane" "thing" "[I", Cond.fieldLink RX2 24 "DripEars$Lane" "loud" "[I", Cond.fieldLink RX2 27 "DripEars$Lane" "rain" "[I", Cond.instanceMethod yX3_init, Cond.code yX3_init cX3_init 1 none, Cond.methodLink RX3 3 objectInit, Cond.classLink RX3 9 RX2, Cond.fieldLink RX3 12 "DripEars$Reader" "draft" "LDripEars$Lane;", Cond.fieldLink RX3 18 "DripEars$Reader" "figures" "[I", Cond.methodLink RX5 49 yX4_init, Cond.instanceMethod yX4_init, Cond.code yX4_init cX4_init 2 none, Cond.methodLink RX4 3 objectInit, Cond.fieldLink RX4 9 "DripEars$Scene" "hearer" "[I", Cond.fieldLink RX4 15 "DripEars$Scene" "knows" "[I", Cond.fieldLink RX4 18 "DripEars$Scene" "voice" "[I", Cond.fieldLink RX4 21 "DripEars$Scene" "lane" "LDripEars$Lane;", Cond.methodLink RX5 61 yX0_init, Cond.instanceMethod yX0_init, Cond.code yX0_init cX0_init 3 none, Cond.methodLink RX0 3 objectInit, Cond.classLink RX0 9 RX4, Cond.fieldLink RX0 11 "DripEars$Acts" "ahead" "[LDripEars$Scene;"]
def wsL_law_r4 : List Cond := [Cond.methodLink RX0 17 yX4_init, Cond.instanceMethod yX1_init, Cond.code yX1_init cX1_init 1 none, Cond.methodLink RX1 3 objectInit, Cond.fieldLink RX1 9 "DripEars$Heard" "loud" "[I", Cond.fieldLink RX1 15 "DripEars$Heard" "rain" "[I", Cond.fieldLink RX1 18 "DripEars$Heard" "was" "[Z", Cond.methodLink RL 12 yX6_init, Cond.instanceMethod yX6_init, Cond.code yX6_init cX6_init 1 none, Cond.methodLink RX6 1 objectInit, Cond.fieldLink RX6 7 "DripEarsModel" "kind" "[I", Cond.fieldLink RX6 13 "DripEarsModel" "wall" "[I", Cond.fieldLink RX6 16 "DripEarsModel" "saying" "[I", Cond.fieldLink RX6 19 "DripEarsModel" "rain" "[I", Cond.fieldLink RX6 22 "DripEarsModel" "now" "[I", Cond.fieldLink RX6 25 "DripEarsModel" "readHouse" "[I", Cond.fieldLink RX6 28 "DripEarsModel" "readSaying" "[I", Cond.fieldLink RX6 31 "DripEarsModel" "readRain" "[I", Cond.fieldLink RX6 34 "DripEarsModel" "text" "[I", Cond.fieldLink RX6 37 "DripEarsModel" "row" "[I", Cond.fieldLink RX6 40 "DripEarsModel" "heardLoud" "[I", Cond.fieldLink RX6 43 "DripEarsModel" "heardRain" "[I", Cond.fieldLink RX6 46 "DripEarsModel" "heardIs" "[I"]
def wsL_law_r5 : List Cond := [Cond.fieldLink RX6 49 "DripEarsModel" "isKept" "[Z", Cond.fieldLink RX6 53 "DripEarsModel" "kept" "[I", Cond.methodLink RL 13 yX5_write, Cond.instanceMethod yX5_write, Cond.selects RX5 yX5_write yX5_write, Cond.code yX5_write cX5_write 2 (some .int), Cond.fieldLink RX5 73 "DripEars" "letters" "I", Cond.methodLink RL 17 yX6_write, Cond.instanceMethod yX6_write, Cond.selects RX6 yX6_write yX6_write, Cond.code yX6_write cX6_write 2 (some .int), Cond.constantLong RX6 56 (255), Cond.fieldLink RX6 62 "DripEarsModel" "length" "I", Cond.methodLink RX6 58 yX6_in, Cond.static yX6_in, Cond.code yX6_in cX6_in 6 (some .boolean), Cond.methodLink RL 18 yX5_wipe, Cond.instanceMethod yX5_wipe, Cond.selects RX5 yX5_wipe yX5_wipe, Cond.code yX5_wipe cX5_wipe 2 (some .int), Cond.methodLink RL 22 yX6_wipe, Cond.instanceMethod yX6_wipe, Cond.selects RX6 yX6_wipe yX6_wipe, Cond.code yX6_wipe cX6_wipe 2 (some .int)]
def wsL_law_r6 : List Cond := [Cond.methodLink RL 23 yX5_fault, Cond.instanceMethod yX5_fault, Cond.selects RX5 yX5_fault yX5_fault, Cond.code yX5_fault cX5_fault 1 (some .int), Cond.methodLink RX5 77 yX3_firstFault, Cond.instanceMethod yX3_firstFault, Cond.selects RX3 yX3_firstFault yX3_firstFault, Cond.code yX3_firstFault cX3_firstFault 4 (some .int), Cond.fieldLink RX3 25 "DripEars$Reader" "begun" "Z", Cond.fieldLink RX3 29 "DripEars$Reader" "part" "I", Cond.methodLink RX3 22 yX2_clear, Cond.instanceMethod yX2_clear, Cond.selects RX2 yX2_clear yX2_clear, Cond.code yX2_clear cX2_clear 1 none, Cond.fieldLink RX2 30 "DripEars$Lane" "houses" "I", Cond.fieldLink RX2 34 "DripEars$Lane" "sayings" "I", Cond.fieldLink RX2 37 "DripEars$Lane" "rains" "I", Cond.methodLink RX3 33 yX3_accepts, Cond.instanceMethod yX3_accepts, Cond.selects RX3 yX3_accepts yX3_accepts, Cond.code yX3_accepts cX3_accepts 3 (some .boolean), Cond.fieldLink RX3 44 "DripEars$Reader" "figuresRead" "I", Cond.methodLink RX3 37 yX3_opensPart, Cond.instanceMethod yX3_opensPart]
def wsL_law_r7 : List Cond := [Cond.selects RX3 yX3_opensPart yX3_opensPart, Cond.code yX3_opensPart cX3_opensPart 3 (some .boolean), Cond.fieldLink RX3 50 "DripEars$Lane" "houses" "I", Cond.fieldLink RX3 53 "DripEars$Lane" "sayings" "I", Cond.fieldLink RX3 56 "DripEars$Lane" "rains" "I", Cond.methodLink RX3 40 yX3_figureLimit, Cond.instanceMethod yX3_figureLimit, Cond.selects RX3 yX3_figureLimit yX3_figureLimit, Cond.code yX3_figureLimit cX3_figureLimit 1 (some .int), Cond.methodLink RX3 47 yX3_closePartIfWhole, Cond.instanceMethod yX3_closePartIfWhole, Cond.selects RX3 yX3_closePartIfWhole yX3_closePartIfWhole, Cond.code yX3_closePartIfWhole cX3_closePartIfWhole 1 none, Cond.methodLink RX3 59 yX2_addHouse, Cond.instanceMethod yX2_addHouse, Cond.selects RX2 yX2_addHouse yX2_addHouse, Cond.code yX2_addHouse cX2_addHouse 3 none, Cond.methodLink RX3 63 yX2_addSaying, Cond.instanceMethod yX2_addSaying, Cond.selects RX2 yX2_addSaying yX2_addSaying, Cond.code yX2_addSaying cX2_addSaying 4 none, Cond.methodLink RX3 67 yX2_addRain, Cond.instanceMethod yX2_addRain, Cond.selects RX2 yX2_addRain yX2_addRain]
def wsL_law_r8 : List Cond := [Cond.code yX2_addRain cX2_addRain 2 none, Cond.methodLink RL 26 yX6_fault, Cond.instanceMethod yX6_fault, Cond.selects RX6 yX6_fault yX6_fault, Cond.code yX6_fault cX6_fault 1 (some .int), Cond.methodLink RX6 89 yX6_readText, Cond.instanceMethod yX6_readText, Cond.selects RX6 yX6_readText yX6_readText, Cond.code yX6_readText cX6_readText 1 (some .int), Cond.fieldLink RX6 69 "DripEarsModel" "at" "I", Cond.fieldLink RX6 66 "DripEarsModel" "faultAt" "I", Cond.fieldLink RX6 72 "DripEarsModel" "readHouses" "I", Cond.fieldLink RX6 75 "DripEarsModel" "readSayings" "I", Cond.fieldLink RX6 78 "DripEarsModel" "readRains" "I", Cond.methodLink RX6 81 yX6_readPart, Cond.instanceMethod yX6_readPart, Cond.selects RX6 yX6_readPart yX6_readPart, Cond.code yX6_readPart cX6_readPart 2 none, Cond.methodLink RX6 85 yX6_figureUpTo, Cond.instanceMethod yX6_figureUpTo, Cond.selects RX6 yX6_figureUpTo yX6_figureUpTo, Cond.code yX6_figureUpTo cX6_figureUpTo 3 (some .int), Cond.methodLink RL 27 yX5_lane, Cond.instanceMethod yX5_lane]
def wsL_law_r9 : List Cond := [Cond.selects RX5 yX5_lane yX5_lane, Cond.code yX5_lane cX5_lane 2 (some .int), Cond.fieldLink RX5 81 "DripEars$Reader" "draft" "LDripEars$Lane;", Cond.fieldLink RX5 93 "DripEars$Lane" "houses" "I", Cond.fieldLink RX5 96 "DripEars$Lane" "sayings" "I", Cond.fieldLink RX5 99 "DripEars$Lane" "rains" "I", Cond.methodLink RX5 84 yX2_take, Cond.instanceMethod yX2_take, Cond.selects RX2 yX2_take yX2_take, Cond.code yX2_take cX2_take 2 none, Cond.methodLink RX2 40 arraycopyName, Cond.native arraycopyName, Cond.static arraycopyName, Cond.initialized "java/lang/System", Cond.methodLink RX5 87 yX4_begin, Cond.instanceMethod yX4_begin, Cond.selects RX4 yX4_begin yX4_begin, Cond.code yX4_begin cX4_begin 2 none, Cond.fieldLink RX4 25 "DripEars$Scene" "dry" "I", Cond.fieldLink RX4 29 "DripEars$Scene" "hour" "I", Cond.methodLink RX5 90 yX0_forget, Cond.instanceMethod yX0_forget, Cond.selects RX0 yX0_forget yX0_forget, Cond.code yX0_forget cX0_forget 1 none]
def wsL_law_r10 : List Cond := [Cond.fieldLink RX0 20 "DripEars$Acts" "oldest" "I", Cond.fieldLink RX0 24 "DripEars$Acts" "size" "I", Cond.methodLink RL 30 yX6_lane, Cond.instanceMethod yX6_lane, Cond.selects RX6 yX6_lane yX6_lane, Cond.code yX6_lane cX6_lane 2 (some .int), Cond.fieldLink RX6 93 "DripEarsModel" "houses" "I", Cond.fieldLink RX6 96 "DripEarsModel" "sayings" "I", Cond.fieldLink RX6 99 "DripEarsModel" "rains" "I", Cond.fieldLink RX6 102 "DripEarsModel" "acts" "I", Cond.methodLink RL 31 yX5_house, Cond.instanceMethod yX5_house, Cond.selects RX5 yX5_house yX5_house, Cond.code yX5_house cX5_house 3 (some .int), Cond.fieldLink RX5 106 "DripEars$Lane" "wall" "[I", Cond.fieldLink RX5 109 "DripEars$Scene" "voice" "[I", Cond.fieldLink RX5 116 "DripEars$Scene" "knows" "[I", Cond.fieldLink RX5 119 "DripEars$Scene" "hearer" "[I", Cond.methodLink RX5 102 yX2_hasHouse, Cond.instanceMethod yX2_hasHouse, Cond.selects RX2 yX2_hasHouse yX2_hasHouse, Cond.code yX2_hasHouse cX2_hasHouse 2 (some .boolean), Cond.methodLink RX5 112 yX4_kindAt, Cond.instanceMethod yX4_kindAt]
def wsL_law_r11 : List Cond := [Cond.selects RX4 yX4_kindAt yX4_kindAt, Cond.code yX4_kindAt cX4_kindAt 2 (some .int), Cond.fieldLink RX4 38 "DripEars$Lane" "kind" "[I", Cond.methodLink RX5 122 yX4_housesThatHear, Cond.instanceMethod yX4_housesThatHear, Cond.selects RX4 yX4_housesThatHear yX4_housesThatHear, Cond.code yX4_housesThatHear cX4_housesThatHear 1 (some .int), Cond.methodLink RX4 52 yX2_rainAt, Cond.instanceMethod yX2_rainAt, Cond.selects RX2 yX2_rainAt yX2_rainAt, Cond.code yX2_rainAt cX2_rainAt 2 (some .int), Cond.methodLink RX4 55 yX4_housesThatHearBy, Cond.instanceMethod yX4_housesThatHearBy, Cond.selects RX4 yX4_housesThatHearBy yX4_housesThatHearBy, Cond.code yX4_housesThatHearBy cX4_housesThatHearBy 10 (some .int), Cond.fieldLink RX4 69 "DripEars$Lane" "place" "[I", Cond.fieldLink RX4 72 "DripEars$Lane" "loud" "[I", Cond.fieldLink RX4 75 "DripEars$Lane" "wall" "[I", Cond.fieldLink RX4 43 "DripEars$Lane" "houses" "I", Cond.methodLink RX4 78 Lib.Math.abs.name, Cond.static Lib.Math.abs.name, Cond.initialized "java/lang/Math", Cond.code Lib.Math.abs.name Lib.Math.abs.code 1 (some .int), Cond.methodLink RX4 58 yX2_sayingAt]
def wsL_law_r12 : List Cond := [Cond.instanceMethod yX2_sayingAt, Cond.selects RX2 yX2_sayingAt yX2_sayingAt, Cond.code yX2_sayingAt cX2_sayingAt 2 (some .int), Cond.methodLink RX4 61 yX4_areStrayed, Cond.instanceMethod yX4_areStrayed, Cond.selects RX4 yX4_areStrayed yX4_areStrayed, Cond.code yX4_areStrayed cX4_areStrayed 1 (some .boolean), Cond.methodLink RX4 65 yX2_hasSaying, Cond.instanceMethod yX2_hasSaying, Cond.selects RX2 yX2_hasSaying yX2_hasSaying, Cond.code yX2_hasSaying cX2_hasSaying 2 (some .boolean), Cond.methodLink RL 35 yX6_house, Cond.instanceMethod yX6_house, Cond.selects RX6 yX6_house yX6_house, Cond.code yX6_house cX6_house 3 (some .int), Cond.methodLink RX6 131 yX6_isHouse, Cond.instanceMethod yX6_isHouse, Cond.selects RX6 yX6_isHouse yX6_isHouse, Cond.code yX6_isHouse cX6_isHouse 2 (some .boolean), Cond.methodLink RX6 134 yX6_knowsAt, Cond.instanceMethod yX6_knowsAt, Cond.selects RX6 yX6_knowsAt yX6_knowsAt, Cond.code yX6_knowsAt cX6_knowsAt 4 (some .int), Cond.methodLink RX6 114 yX6_sayingOn]
def wsL_law_r13 : List Cond := [Cond.instanceMethod yX6_sayingOn, Cond.selects RX6 yX6_sayingOn yX6_sayingOn, Cond.code yX6_sayingOn cX6_sayingOn 2 (some .int), Cond.methodLink RX6 138 yX6_rainOn, Cond.instanceMethod yX6_rainOn, Cond.selects RX6 yX6_rainOn yX6_rainOn, Cond.code yX6_rainOn cX6_rainOn 2 (some .int), Cond.methodLink RX6 117 yX6_hears, Cond.instanceMethod yX6_hears, Cond.selects RX6 yX6_hears yX6_hears, Cond.code yX6_hears cX6_hears 9 (some .boolean), Cond.methodLink RX6 107 yX6_isStrayed, Cond.instanceMethod yX6_isStrayed, Cond.selects RX6 yX6_isStrayed yX6_isStrayed, Cond.code yX6_isStrayed cX6_isStrayed 2 (some .boolean), Cond.methodLink RX6 111 yX6_earOf, Cond.static yX6_earOf, Cond.code yX6_earOf cX6_earOf 1 (some .int), Cond.methodLink RL 36 yX5_saying, Cond.instanceMethod yX5_saying, Cond.selects RX5 yX5_saying yX5_saying, Cond.code yX5_saying cX5_saying 3 (some .int), Cond.fieldLink RX5 129 "DripEars$Lane" "place" "[I", Cond.fieldLink RX5 132 "DripEars$Lane" "thing" "[I"]
def wsL_law_r14 : List Cond := [Cond.fieldLink RX5 135 "DripEars$Lane" "loud" "[I", Cond.methodLink RX5 126 yX2_hasSaying, Cond.methodLink RL 39 yX6_saying, Cond.instanceMethod yX6_saying, Cond.selects RX6 yX6_saying yX6_saying, Cond.code yX6_saying cX6_saying 3 (some .int), Cond.constantLong RX6 141 (2), Cond.methodLink RL 40 yX5_hour, Cond.instanceMethod yX5_hour, Cond.selects RX5 yX5_hour yX5_hour, Cond.code yX5_hour cX5_hour 1 (some .int), Cond.methodLink RX5 138 yX0_note, Cond.instanceMethod yX0_note, Cond.selects RX0 yX0_note yX0_note, Cond.code yX0_note cX0_note 2 none, Cond.methodLink RX0 27 yX4_take, Cond.instanceMethod yX4_take, Cond.selects RX4 yX4_take yX4_take, Cond.code yX4_take cX4_take 2 none, Cond.methodLink RX4 32 arraycopyName, Cond.methodLink RX5 142 yX4_passHour, Cond.instanceMethod yX4_passHour, Cond.selects RX4 yX4_passHour yX4_passHour, Cond.code yX4_passHour cX4_passHour 1 (some .int)]
def wsL_law_r15 : List Cond := [Cond.methodLink RX4 86 yX4_passHourBy, Cond.instanceMethod yX4_passHourBy, Cond.selects RX4 yX4_passHourBy yX4_passHourBy, Cond.code yX4_passHourBy cX4_passHourBy 5 (some .int), Cond.fieldLink RX4 89 "DripEars$Lane" "thing" "[I", Cond.methodLink RX4 96 Lib.Math.min.name, Cond.static Lib.Math.min.name, Cond.code Lib.Math.min.name Lib.Math.min.code 2 (some .int), Cond.methodLink RX4 92 yX4_tellAt, Cond.instanceMethod yX4_tellAt, Cond.selects RX4 yX4_tellAt yX4_tellAt, Cond.code yX4_tellAt cX4_tellAt 5 (some .int), Cond.methodLink RX4 99 yX2_allHouses, Cond.instanceMethod yX2_allHouses, Cond.selects RX2 yX2_allHouses yX2_allHouses, Cond.code yX2_allHouses cX2_allHouses 1 (some .int), Cond.methodLink RX4 103 yX4_knownBy, Cond.instanceMethod yX4_knownBy, Cond.selects RX4 yX4_knownBy yX4_knownBy, Cond.code yX4_knownBy cX4_knownBy 4 (some .int), Cond.methodLink RX4 46 yJ6_bitCount_0f7a4, Cond.static yJ6_bitCount_0f7a4, Cond.initialized RJ6, Cond.code yJ6_bitCount_0f7a4 cJ6_bitCount_0f7a4 1 (some .int)]
def wsL_law_r16 : List Cond := [Cond.constant RJ6 265 (1431655765), Cond.constant RJ6 266 (858993459), Cond.constant RJ6 267 (252645135), Cond.methodLink RL 43 yX6_hour, Cond.instanceMethod yX6_hour, Cond.selects RX6 yX6_hour yX6_hour, Cond.code yX6_hour cX6_hour 1 (some .int), Cond.methodLink RX6 146 yX6_keepAct, Cond.instanceMethod yX6_keepAct, Cond.selects RX6 yX6_keepAct yX6_keepAct, Cond.code yX6_keepAct cX6_keepAct 2 none, Cond.fieldLink RX6 143 "DripEarsModel" "next" "I", Cond.methodLink RX6 149 yX6_hourBy, Cond.instanceMethod yX6_hourBy, Cond.selects RX6 yX6_hourBy yX6_hourBy, Cond.code yX6_hourBy cX6_hourBy 8 (some .int), Cond.methodLink RX6 121 yX6_has, Cond.static yX6_has, Cond.code yX6_has cX6_has 2 (some .boolean), Cond.methodLink RX6 125 yX6_knownOn, Cond.instanceMethod yX6_knownOn, Cond.selects RX6 yX6_knownOn yX6_knownOn, Cond.code yX6_knownOn cX6_knownOn 4 (some .int), Cond.methodLink RX6 128 yX6_ones]
def wsL_law_r17 : List Cond := [Cond.static yX6_ones, Cond.code yX6_ones cX6_ones 3 (some .int), Cond.methodLink RL 44 yX5_lower, Cond.instanceMethod yX5_lower, Cond.selects RX5 yX5_lower yX5_lower, Cond.code yX5_lower cX5_lower 2 (some .int), Cond.methodLink RX5 145 yX4_canBeLowered, Cond.instanceMethod yX4_canBeLowered, Cond.selects RX4 yX4_canBeLowered yX4_canBeLowered, Cond.code yX4_canBeLowered cX4_canBeLowered 2 (some .boolean), Cond.methodLink RX4 106 yX2_hasHouse, Cond.methodLink RX5 148 yX4_tryLowered, Cond.instanceMethod yX4_tryLowered, Cond.selects RX4 yX4_tryLowered yX4_tryLowered, Cond.code yX4_tryLowered cX4_tryLowered 2 (some .boolean), Cond.methodLink RX4 109 yX4_canBeLowered, Cond.methodLink RL 47 yX6_lower, Cond.instanceMethod yX6_lower, Cond.selects RX6 yX6_lower yX6_lower, Cond.code yX6_lower cX6_lower 2 (some .int), Cond.methodLink RL 48 yX5_raise, Cond.instanceMethod yX5_raise, Cond.selects RX5 yX5_raise yX5_raise, Cond.code yX5_raise cX5_raise 2 (some .int)]
def wsL_law_r18 : List Cond := [Cond.methodLink RX5 151 yX4_canBeRaised, Cond.instanceMethod yX4_canBeRaised, Cond.selects RX4 yX4_canBeRaised yX4_canBeRaised, Cond.code yX4_canBeRaised cX4_canBeRaised 2 (some .boolean), Cond.methodLink RX5 154 yX4_tryRaised, Cond.instanceMethod yX4_tryRaised, Cond.selects RX4 yX4_tryRaised yX4_tryRaised, Cond.code yX4_tryRaised cX4_tryRaised 2 (some .boolean), Cond.methodLink RX4 112 yX4_canBeRaised, Cond.methodLink RL 51 yX6_raise, Cond.instanceMethod yX6_raise, Cond.selects RX6 yX6_raise yX6_raise, Cond.code yX6_raise cX6_raise 2 (some .int), Cond.methodLink RL 52 yX5_change, Cond.instanceMethod yX5_change, Cond.selects RX5 yX5_change yX5_change, Cond.code yX5_change cX5_change 3 (some .int), Cond.methodLink RX5 157 yX4_tryChanged, Cond.instanceMethod yX4_tryChanged, Cond.selects RX4 yX4_tryChanged yX4_tryChanged, Cond.code yX4_tryChanged cX4_tryChanged 5 (some .boolean), Cond.methodLink RL 55 yX6_change, Cond.instanceMethod yX6_change, Cond.selects RX6 yX6_change yX6_change]
def wsL_law_r19 : List Cond := [Cond.code yX6_change cX6_change 3 (some .int), Cond.methodLink RX6 152 yX6_changeOn, Cond.instanceMethod yX6_changeOn, Cond.selects RX6 yX6_changeOn yX6_changeOn, Cond.code yX6_changeOn cX6_changeOn 6 none, Cond.methodLink RL 56 yX5_plate, Cond.instanceMethod yX5_plate, Cond.selects RX5 yX5_plate yX5_plate, Cond.code yX5_plate cX5_plate 2 (some .int), Cond.methodLink RX5 161 yX2_hasNext, Cond.instanceMethod yX2_hasNext, Cond.selects RX2 yX2_hasNext yX2_hasNext, Cond.code yX2_hasNext cX2_hasNext 2 (some .boolean), Cond.methodLink RX5 164 yX4_tryPlate, Cond.instanceMethod yX4_tryPlate, Cond.selects RX4 yX4_tryPlate yX4_tryPlate, Cond.code yX4_tryPlate cX4_tryPlate 2 (some .boolean), Cond.methodLink RX4 115 yX2_hasNext, Cond.methodLink RL 59 yX6_plate, Cond.instanceMethod yX6_plate, Cond.selects RX6 yX6_plate yX6_plate, Cond.code yX6_plate cX6_plate 2 (some .int), Cond.methodLink RX6 156 yX6_plateOn, Cond.instanceMethod yX6_plateOn]
def wsL_law_r20 : List Cond := [Cond.selects RX6 yX6_plateOn yX6_plateOn, Cond.code yX6_plateOn cX6_plateOn 4 none, Cond.methodLink RL 60 yX5_undo, Cond.instanceMethod yX5_undo, Cond.selects RX5 yX5_undo yX5_undo, Cond.code yX5_undo cX5_undo 1 (some .int), Cond.fieldLink RX5 167 "DripEars$Acts" "size" "I", Cond.methodLink RX5 170 yX0_takeBack, Cond.instanceMethod yX0_takeBack, Cond.selects RX0 yX0_takeBack yX0_takeBack, Cond.code yX0_takeBack cX0_takeBack 2 none, Cond.methodLink RL 63 yX6_undo, Cond.instanceMethod yX6_undo, Cond.selects RX6 yX6_undo yX6_undo, Cond.code yX6_undo cX6_undo 2 (some .int), Cond.methodLink RL 64 yX5_later, Cond.instanceMethod yX5_later, Cond.selects RX5 yX5_later yX5_later, Cond.code yX5_later cX5_later 3 (some .int), Cond.methodLink RX5 173 yX4_take, Cond.methodLink RX5 175 yX4_passHours, Cond.instanceMethod yX4_passHours, Cond.selects RX4 yX4_passHours yX4_passHours, Cond.code yX4_passHours cX4_passHours 3 none]
def wsL_law_r21 : List Cond := [Cond.methodLink RL 67 yX6_later, Cond.instanceMethod yX6_later, Cond.selects RX6 yX6_later yX6_later, Cond.code yX6_later cX6_later 3 (some .int), Cond.constantLong RX6 160 (30), Cond.methodLink RX6 162 yX6_layTrial, Cond.instanceMethod yX6_layTrial, Cond.selects RX6 yX6_layTrial yX6_layTrial, Cond.code yX6_layTrial cX6_layTrial 2 none, Cond.methodLink RX6 165 yX6_goOn, Cond.instanceMethod yX6_goOn, Cond.selects RX6 yX6_goOn yX6_goOn, Cond.code yX6_goOn cX6_goOn 3 none, Cond.methodLink RL 68 yX5_first, Cond.instanceMethod yX5_first, Cond.selects RX5 yX5_first yX5_first, Cond.code yX5_first cX5_first 4 (some .int), Cond.methodLink RX5 179 yX5_isThing, Cond.static yX5_isThing, Cond.code yX5_isThing cX5_isThing 1 (some .boolean), Cond.methodLink RX5 182 yX4_knowsThing, Cond.instanceMethod yX4_knowsThing, Cond.selects RX4 yX4_knowsThing yX4_knowsThing, Cond.code yX4_knowsThing cX4_knowsThing 3 (some .boolean)]
def wsL_law_r22 : List Cond := [Cond.methodLink RL 71 yX6_first, Cond.instanceMethod yX6_first, Cond.selects RX6 yX6_first yX6_first, Cond.code yX6_first cX6_first 4 (some .int), Cond.methodLink RX6 168 yX6_isThing, Cond.static yX6_isThing, Cond.code yX6_isThing cX6_isThing 1 (some .boolean), Cond.constantLong RX6 105 (5), Cond.methodLink RL 72 yX5_keeps, Cond.instanceMethod yX5_keeps, Cond.selects RX5 yX5_keeps yX5_keeps, Cond.code yX5_keeps cX5_keeps 5 (some .int), Cond.methodLink RX5 185 yX5_isZeroOrOne, Cond.static yX5_isZeroOrOne, Cond.code yX5_isZeroOrOne cX5_isZeroOrOne 1 (some .boolean), Cond.methodLink RX5 188 yX5_fillFewestLowerings, Cond.instanceMethod yX5_fillFewestLowerings, Cond.selects RX5 yX5_fillFewestLowerings yX5_fillFewestLowerings, Cond.code yX5_fillFewestLowerings cX5_fillFewestLowerings 8 (some .boolean), Cond.methodLink RX5 282 Lib.Math.min.name, Cond.methodLink RX5 287 yX5_isKeptFrom, Cond.instanceMethod yX5_isKeptFrom, Cond.selects RX5 yX5_isKeptFrom yX5_isKeptFrom, Cond.code yX5_isKeptFrom cX5_isKeptFrom 5 (some .boolean)]
def wsL_law_r23 : List Cond := [Cond.methodLink RX5 192 yX5_sumOfLowerings, Cond.instanceMethod yX5_sumOfLowerings, Cond.selects RX5 yX5_sumOfLowerings yX5_sumOfLowerings, Cond.code yX5_sumOfLowerings cX5_sumOfLowerings 3 (some .int), Cond.methodLink RX5 195 yX5_figuresOfLowerings, Cond.instanceMethod yX5_figuresOfLowerings, Cond.selects RX5 yX5_figuresOfLowerings yX5_figuresOfLowerings, Cond.code yX5_figuresOfLowerings cX5_figuresOfLowerings 3 (some .int), Cond.methodLink RL 76 yX6_keeps, Cond.instanceMethod yX6_keeps, Cond.selects RX6 yX6_keeps yX6_keeps, Cond.code yX6_keeps cX6_keeps 10 (some .int), Cond.constantLong RX6 171 (12), Cond.methodLink RX6 173 yX6_loweredBy, Cond.instanceMethod yX6_loweredBy, Cond.selects RX6 yX6_loweredBy yX6_loweredBy, Cond.code yX6_loweredBy cX6_loweredBy 8 (some .int), Cond.methodLink RX6 177 yX6_figuresOf, Cond.instanceMethod yX6_figuresOf, Cond.selects RX6 yX6_figuresOf yX6_figuresOf, Cond.code yX6_figuresOf cX6_figuresOf 6 (some .int), Cond.methodLink RL 77 yX5_tells, Cond.instanceMethod yX5_tells, Cond.selects RX5 yX5_tells yX5_tells]
def wsL_law_r24 : List Cond := [Cond.code yX5_tells cX5_tells 6 (some .int), Cond.methodLink RX5 198 yX2_allHouses, Cond.methodLink RX5 201 yJ6_bitCount_0f7a4, Cond.methodLink RX5 206 yX4_knownBy, Cond.methodLink RL 80 yX6_tells, Cond.instanceMethod yX6_tells, Cond.selects RX6 yX6_tells yX6_tells, Cond.code yX6_tells cX6_tells 6 (some .int), Cond.constantLong RX6 180 (63), Cond.methodLink RX6 182 yX6_knownBy, Cond.instanceMethod yX6_knownBy, Cond.selects RX6 yX6_knownBy yX6_knownBy, Cond.code yX6_knownBy cX6_knownBy 4 (some .int), Cond.methodLink RL 83 yX5_judge, Cond.instanceMethod yX5_judge, Cond.selects RX5 yX5_judge yX5_judge, Cond.code yX5_judge cX5_judge 6 (some .int), Cond.methodLink RX5 209 yX5_fillDoings, Cond.instanceMethod yX5_fillDoings, Cond.selects RX5 yX5_fillDoings yX5_fillDoings, Cond.code yX5_fillDoings cX5_fillDoings 7 (some .boolean), Cond.constantLong RX5 290 (10), Cond.methodLink RX5 213 yX5_comesAbout, Cond.instanceMethod yX5_comesAbout]
def wsL_law_r25 : List Cond := [Cond.selects RX5 yX5_comesAbout yX5_comesAbout, Cond.code yX5_comesAbout cX5_comesAbout 4 (some .boolean), Cond.fieldLink RX5 271 "DripEars$Scene" "dry" "I", Cond.methodLink RL 87 yX6_judge, Cond.instanceMethod yX6_judge, Cond.selects RX6 yX6_judge yX6_judge, Cond.code yX6_judge cX6_judge 6 (some .int), Cond.constantLong RX6 187 (4), Cond.constantLong RX6 185 (1000), Cond.methodLink RX6 189 yX6_thousandTo, Cond.static yX6_thousandTo, Cond.code yX6_thousandTo cX6_thousandTo 4 (some .long), Cond.methodLink RX6 193 yX6_tryThing, Cond.instanceMethod yX6_tryThing, Cond.selects RX6 yX6_tryThing yX6_tryThing, Cond.code yX6_tryThing cX6_tryThing 8 (some .boolean), Cond.methodLink RL 88 yX5_hear, Cond.instanceMethod yX5_hear, Cond.selects RX5 yX5_hear yX5_hear, Cond.code yX5_hear cX5_hear 4 (some .int), Cond.fieldLink RX5 219 "DripEars$Heard" "size" "I", Cond.methodLink RX5 216 yX5_isFigure, Cond.static yX5_isFigure, Cond.code yX5_isFigure cX5_isFigure 1 (some .boolean)]
def wsL_law_r26 : List Cond := [Cond.methodLink RX5 220 yX1_add, Cond.instanceMethod yX1_add, Cond.selects RX1 yX1_add yX1_add, Cond.code yX1_add cX1_add 4 none, Cond.fieldLink RX1 22 "DripEars$Heard" "size" "I", Cond.methodLink RL 92 yX6_hear, Cond.instanceMethod yX6_hear, Cond.selects RX6 yX6_hear yX6_hear, Cond.code yX6_hear cX6_hear 4 (some .int), Cond.constantLong RX6 197 (9), Cond.fieldLink RX6 199 "DripEarsModel" "heard" "I", Cond.methodLink RL 93 yX5_unhear, Cond.instanceMethod yX5_unhear, Cond.selects RX5 yX5_unhear yX5_unhear, Cond.code yX5_unhear cX5_unhear 2 (some .int), Cond.methodLink RL 96 yX6_unhear, Cond.instanceMethod yX6_unhear, Cond.selects RX6 yX6_unhear yX6_unhear, Cond.code yX6_unhear cX6_unhear 2 (some .int), Cond.methodLink RL 97 yX5_ears, Cond.instanceMethod yX5_ears, Cond.selects RX5 yX5_ears yX5_ears, Cond.code yX5_ears cX5_ears 6 (some .int), Cond.methodLink RX5 224 yX1_fits]
def wsL_law_r27 : List Cond := [Cond.instanceMethod yX1_fits, Cond.selects RX1 yX1_fits yX1_fits, Cond.code yX1_fits cX1_fits 5 (some .boolean), Cond.methodLink RL 100 yX6_ears, Cond.instanceMethod yX6_ears, Cond.selects RX6 yX6_ears yX6_ears, Cond.code yX6_ears cX6_ears 8 (some .int), Cond.methodLink RL 101 yX5_share, Cond.instanceMethod yX5_share, Cond.selects RX5 yX5_share yX5_share, Cond.code yX5_share cX5_share 6 (some .int), Cond.methodLink RX5 227 yX4_knowersOf, Cond.instanceMethod yX4_knowersOf, Cond.selects RX4 yX4_knowersOf yX4_knowersOf, Cond.code yX4_knowersOf cX4_knowersOf 4 (some .int), Cond.methodLink RX5 230 yX5_fraction, Cond.static yX5_fraction, Cond.code yX5_fraction cX5_fraction 4 (some .int), Cond.methodLink RX5 278 yX5_greatestDivisor, Cond.static yX5_greatestDivisor, Cond.code yX5_greatestDivisor cX5_greatestDivisor 6 (some .int), Cond.methodLink RL 105 yX6_share, Cond.instanceMethod yX6_share, Cond.selects RX6 yX6_share yX6_share]
def wsL_law_r28 : List Cond := [Cond.code yX6_share cX6_share 6 (some .int), Cond.methodLink RX6 202 yX6_factorial, Cond.static yX6_factorial, Cond.code yX6_factorial cX6_factorial 3 (some .int), Cond.methodLink RX6 205 yX6_common, Cond.static yX6_common, Cond.code yX6_common cX6_common 5 (some .int), Cond.methodLink RL 106 yX5_rests, Cond.instanceMethod yX5_rests, Cond.selects RX5 yX5_rests yX5_rests, Cond.code yX5_rests cX5_rests 7 (some .int), Cond.methodLink RX5 234 yX5_fillChoices, Cond.instanceMethod yX5_fillChoices, Cond.selects RX5 yX5_fillChoices yX5_fillChoices, Cond.code yX5_fillChoices cX5_fillChoices 6 none, Cond.methodLink RL 109 yX6_rests, Cond.instanceMethod yX6_rests, Cond.selects RX6 yX6_rests yX6_rests, Cond.code yX6_rests cX6_rests 7 (some .int), Cond.methodLink RX6 211 yX6_isRest, Cond.instanceMethod yX6_isRest, Cond.selects RX6 yX6_isRest yX6_isRest, Cond.code yX6_isRest cX6_isRest 5 (some .boolean), Cond.methodLink RX6 208 yX6_gain]
def wsL_law_r29 : List Cond := [Cond.instanceMethod yX6_gain, Cond.selects RX6 yX6_gain yX6_gain, Cond.code yX6_gain cX6_gain 5 (some .int), Cond.methodLink RL 110 yX5_dries, Cond.instanceMethod yX5_dries, Cond.selects RX5 yX5_dries yX5_dries, Cond.code yX5_dries cX5_dries 9 (some .int), Cond.methodLink RX5 238 yX5_weightOf, Cond.static yX5_weightOf, Cond.code yX5_weightOf cX5_weightOf 5 (some .int), Cond.methodLink RX5 242 yX5_knowsBehind, Cond.instanceMethod yX5_knowsBehind, Cond.selects RX5 yX5_knowsBehind yX5_knowsBehind, Cond.code yX5_knowsBehind cX5_knowsBehind 7 (some .boolean), Cond.fieldLink RX5 265 "DripEars$Scene" "hour" "I", Cond.methodLink RX5 268 yX2_rainAt, Cond.methodLink RX5 292 yX4_passHourBy, Cond.methodLink RX5 246 yX5_tenToThe, Cond.static yX5_tenToThe, Cond.code yX5_tenToThe cX5_tenToThe 3 (some .int), Cond.methodLink RL 114 yX6_dries, Cond.instanceMethod yX6_dries, Cond.selects RX6 yX6_dries yX6_dries, Cond.code yX6_dries cX6_dries 11 (some .int)]
def wsL_law_r30 : List Cond := [Cond.constantLong RX6 214 (6), Cond.constantLong RX6 216 (10), Cond.methodLink RL 115 yX5_seed, Cond.instanceMethod yX5_seed, Cond.selects RX5 yX5_seed yX5_seed, Cond.code yX5_seed cX5_seed 5 (some .long), Cond.fieldLink RX5 249 "DripEars" "seedNow" "J", Cond.methodLink RL 119 yX6_seed, Cond.instanceMethod yX6_seed, Cond.selects RX6 yX6_seed yX6_seed, Cond.code yX6_seed cX6_seed 5 (some .long), Cond.fieldLink RX6 218 "DripEarsModel" "seed" "J", Cond.methodLink RL 120 yX5_years, Cond.instanceMethod yX5_years, Cond.selects RX5 yX5_years yX5_years, Cond.code yX5_years cX5_years 4 (some .int), Cond.constantLong RX5 253 (6364136223846793005), Cond.constantLong RX5 255 (1442695040888963407), Cond.constantLong RX5 257 (31), Cond.methodLink RX5 259 yX5_doByLot, Cond.instanceMethod yX5_doByLot, Cond.selects RX5 yX5_doByLot yX5_doByLot, Cond.code yX5_doByLot cX5_doByLot 2 none, Cond.methodLink RX5 262 yX4_allKnown]
def wsL_law_r31 : List Cond := [Cond.instanceMethod yX4_allKnown, Cond.selects RX4 yX4_allKnown yX4_allKnown, Cond.code yX4_allKnown cX4_allKnown 3 (some .int), Cond.methodLink RL 123 yX6_years, Cond.instanceMethod yX6_years, Cond.selects RX6 yX6_years yX6_years, Cond.code yX6_years cX6_years 5 (some .int), Cond.constantLong RX6 222 (6364136223846793005), Cond.constantLong RX6 224 (1442695040888963407), Cond.constantLong RX6 226 (32), Cond.methodLink RX6 228 yX6_knownTogether, Cond.instanceMethod yX6_knownTogether, Cond.selects RX6 yX6_knownTogether yX6_knownTogether, Cond.code yX6_knownTogether cX6_knownTogether 3 (some .int), Cond.methodLink RL 124 yX5_keep, Cond.instanceMethod yX5_keep, Cond.selects RX5 yX5_keep yX5_keep, Cond.code yX5_keep cX5_keep 2 (some .int), Cond.methodLink RL 127 yX6_keep, Cond.instanceMethod yX6_keep, Cond.selects RX6 yX6_keep yX6_keep, Cond.code yX6_keep cX6_keep 3 (some .int), Cond.methodLink RL 128 yX5_again, Cond.instanceMethod yX5_again]
def wsL_law_r32 : List Cond := [Cond.selects RX5 yX5_again yX5_again, Cond.code yX5_again cX5_again 2 (some .int), Cond.methodLink RL 131 yX6_again, Cond.instanceMethod yX6_again, Cond.selects RX6 yX6_again yX6_again, Cond.code yX6_again cX6_again 3 (some .int), Cond.methodLink RL 132 yX5_count, Cond.instanceMethod yX5_count, Cond.selects RX5 yX5_count yX5_count, Cond.code yX5_count cX5_count 2 (some .int), Cond.methodLink RX5 274 yX4_areStrayed, Cond.methodLink RL 135 yX6_count, Cond.instanceMethod yX6_count, Cond.selects RX6 yX6_count yX6_count, Cond.code yX6_count cX6_count 2 (some .int), Cond.methodLink RX6 231 yX6_hearingHouses, Cond.instanceMethod yX6_hearingHouses, Cond.selects RX6 yX6_hearingHouses yX6_hearingHouses, Cond.code yX6_hearingHouses cX6_hearingHouses 3 (some .int)]
def wsL_law : List Cond := (wsL_law_r1 ++ (wsL_law_r2 ++ (wsL_law_r3 ++ (wsL_law_r4 ++ (wsL_law_r5 ++ (wsL_law_r6 ++ (wsL_law_r7 ++ (wsL_law_r8 ++ (wsL_law_r9 ++ (wsL_law_r10 ++ (wsL_law_r11 ++ (wsL_law_r12 ++ (wsL_law_r13 ++ (wsL_law_r14 ++ (wsL_law_r15 ++ (wsL_law_r16 ++ (wsL_law_r17 ++ (wsL_law_r18 ++ (wsL_law_r19 ++ (wsL_law_r20 ++ (wsL_law_r21 ++ (wsL_law_r22 ++ (wsL_law_r23 ++ (wsL_law_r24 ++ (wsL_law_r25 ++ (wsL_law_r26 ++ (wsL_law_r27 ++ (wsL_law_r28 ++ (wsL_law_r29 ++ (wsL_law_r30 ++ (wsL_law_r31 ++ wsL_law_r32))))))))))))))))))))))))))))))) ++ wsX50 ++ wsX60 ++ wsX20 ++ wsX30 ++ wsX40 ++ wsX00 ++ wsX10 ++ ([] : List Cond)
theorem inlX0 : ∀ w ∈ wsX00, w ∈ wsL_law := fun _ h => List.mem_append_left _ (List.mem_append_left _ (List.mem_append_right _ h))
theorem inlX1 : ∀ w ∈ wsX10, w ∈ wsL_law := fun _ h => List.mem_append_left _ (List.mem_append_right _ h)
theorem inlX2 : ∀ w ∈ wsX20, w ∈ wsL_law := fun _ h => List.mem_append_left _ (List.mem_append_left _ (List.mem_append_left _ (List.mem_append_left _ (List.mem_append_left _ (List.mem_append_right _ h)))))
theorem inlX3 : ∀ w ∈ wsX30, w ∈ wsL_law := fun _ h => List.mem_append_left _ (List.mem_append_left _ (List.mem_append_left _ (List.mem_append_left _ (List.mem_append_right _ h))))
theorem inlX4 : ∀ w ∈ wsX40, w ∈ wsL_law := fun _ h => List.mem_append_left _ (List.mem_append_left _ (List.mem_append_left _ (List.mem_append_right _ h)))
theorem inlX5 : ∀ w ∈ wsX50, w ∈ wsL_law := fun _ h => List.mem_append_left _ (List.mem_append_left _ (List.mem_append_left _ (List.mem_append_left _ (List.mem_append_left _ (List.mem_append_left _ (List.mem_append_left _ (List.mem_append_right _ h)))))))
theorem inlX6 : ∀ w ∈ wsX60, w ∈ wsL_law := fun _ h => List.mem_append_left _ (List.mem_append_left _ (List.mem_append_left _ (List.mem_append_left _ (List.mem_append_left _ (List.mem_append_left _ (List.mem_append_right _ h))))))
set_option maxRecDepth 20000 in
theorem ggX0_init_X4_init : GoodIn wsX0_init wsX4_init := goodIn_r _ [10, 11, 2, 3, 12, 13, 14, 15, 16, 20, 21, 22, 23, 24, 25] (by decide +kernel) (by decide +kernel)
set_option maxRecDepth 20000 in
theorem gX0_init_X4_init : GoodIn wsX0_init (wsX4_init) := ggX0_init_X4_init
end
section
theorem dX0_init_0 : decode cX0_init 0 = .ok (.aload_n 0, 1) := by decide +kernel
theorem dX0_init_1 : decode cX0_init 1 = .ok (.invokespecial 3, 3) := by decide +kernel
theorem dX0_init_4 : decode cX0_init 4 = .ok (.aload_n 0, 1) := by decide +kernel
theorem dX0_init_5 : decode cX0_init 5 = .ok (.bipush 14, 2) := by decide +kernel
theorem dX0_init_7 : decode cX0_init 7 = .ok (.anewarray 9, 3) := by decide +kernel
theorem dX0_init_10 : decode cX0_init 10 = .ok (.putfield 11, 3) := by decide +kernel
theorem dX0_init_13 : decode cX0_init 13 = .ok (.iconst 0, 1) := by decide +kernel
theorem dX0_init_14 : decode cX0_init 14 = .ok (.istore_n 2, 1) := by decide +kernel
theorem dX0_init_15 : decode cX0_init 15 = .ok (.iload_n 2, 1) := by decide +kernel
theorem dX0_init_16 : decode cX0_init 16 = .ok (.bipush 14, 2) := by decide +kernel
theorem dX0_init_18 : decode cX0_init 18 = .ok (.if_icmp .ge 23, 3) := by decide +kernel
theorem dX0_init_21 : decode cX0_init 21 = .ok (.aload_n 0, 1) := by decide +kernel
theorem dX0_init_22 : decode cX0_init 22 = .ok (.getfield 11, 3) := by decide +kernel
theorem dX0_init_25 : decode cX0_init 25 = .ok (.iload_n 2, 1) := by decide +kernel
theorem dX0_init_26 : decode cX0_init 26 = .ok (.new 9, 3) := by decide +kernel
theorem dX0_init_29 : decode cX0_init 29 = .ok (.dup, 1) := by decide +kernel
theorem dX0_init_30 : decode cX0_init 30 = .ok (.aload_n 1, 1) := by decide +kernel
theorem dX0_init_31 : decode cX0_init 31 = .ok (.invokespecial 17, 3) := by decide +kernel
theorem dX0_init_34 : decode cX0_init 34 = .ok (.aastore, 1) := by decide +kernel
theorem dX0_init_35 : decode cX0_init 35 = .ok (.iinc 2 1, 3) := by decide +kernel
theorem dX0_init_38 : decode cX0_init 38 = .ok (.goto (-23), 3) := by decide +kernel
theorem dX0_init_41 : decode cX0_init 41 = .ok (.return_, 1) := by decide +kernel
theorem dX0_forget_0 : decode cX0_forget 0 = .ok (.aload_n 0, 1) := by decide +kernel
theorem dX0_forget_1 : decode cX0_forget 1 = .ok (.iconst 0, 1) := by decide +kernel
theorem dX0_forget_2 : decode cX0_forget 2 = .ok (.putfield 20, 3) := by decide +kernel
theorem dX0_forget_5 : decode cX0_forget 5 = .ok (.aload_n 0, 1) := by decide +kernel
theorem dX0_forget_6 : decode cX0_forget 6 = .ok (.iconst 0, 1) := by decide +kernel
theorem dX0_forget_7 : decode cX0_forget 7 = .ok (.putfield 24, 3) := by decide +kernel
theorem dX0_forget_10 : decode cX0_forget 10 = .ok (.return_, 1) := by decide +kernel
set_option maxRecDepth 20000 in
theorem ggX0_note_X4_take : GoodIn wsX0_note wsX4_take := goodIn_r _ [8, 9, 10, 11, 12, 13, 14, 15, 16, 17, 21, 22, 23, 24, 25, 26] (by decide +kernel) (by decide +kernel)
set_option maxRecDepth 20000 in
theorem gX0_note_X4_take : GoodIn wsX0_note (wsV RX0 27 RX4 yX4_take wsX4_take) := goodIn_app (goodIn_of _ (by decide +kernel)) ggX0_note_X4_take
theorem dX0_note_0 : decode cX0_note 0 = .ok (.aload_n 0, 1) := by decide +kernel
theorem dX0_note_1 : decode cX0_note 1 = .ok (.getfield 11, 3) := by decide +kernel
theorem dX0_note_4 : decode cX0_note 4 = .ok (.aload_n 0, 1) := by decide +kernel
theorem dX0_note_5 : decode cX0_note 5 = .ok (.getfield 20, 3) := by decide +kernel
theorem dX0_note_8 : decode cX0_note 8 = .ok (.aload_n 0, 1) := by decide +kernel
theorem dX0_note_9 : decode cX0_note 9 = .ok (.getfield 24, 3) := by decide +kernel
theorem dX0_note_12 : decode cX0_note 12 = .ok (.iadd, 1) := by decide +kernel
theorem dX0_note_13 : decode cX0_note 13 = .ok (.bipush 14, 2) := by decide +kernel
theorem dX0_note_15 : decode cX0_note 15 = .ok (.irem, 1) := by decide +kernel
theorem dX0_note_16 : decode cX0_note 16 = .ok (.aaload, 1) := by decide +kernel
theorem dX0_note_17 : decode cX0_note 17 = .ok (.aload_n 1, 1) := by decide +kernel
theorem dX0_note_18 : decode cX0_note 18 = .ok (.invokevirtual 27, 3) := by decide +kernel
theorem dX0_note_21 : decode cX0_note 21 = .ok (.aload_n 0, 1) := by decide +kernel
theorem dX0_note_22 : decode cX0_note 22 = .ok (.getfield 24, 3) := by decide +kernel
theorem dX0_note_25 : decode cX0_note 25 = .ok (.bipush 14, 2) := by decide +kernel
theorem dX0_note_27 : decode cX0_note 27 = .ok (.if_icmp .ge 16, 3) := by decide +kernel
theorem dX0_note_30 : decode cX0_note 30 = .ok (.aload_n 0, 1) := by decide +kernel
theorem dX0_note_31 : decode cX0_note 31 = .ok (.dup, 1) := by decide +kernel
theorem dX0_note_32 : decode cX0_note 32 = .ok (.getfield 24, 3) := by decide +kernel
theorem dX0_note_35 : decode cX0_note 35 = .ok (.iconst 1, 1) := by decide +kernel
theorem dX0_note_36 : decode cX0_note 36 = .ok (.iadd, 1) := by decide +kernel
theorem dX0_note_37 : decode cX0_note 37 = .ok (.putfield 24, 3) := by decide +kernel
theorem dX0_note_40 : decode cX0_note 40 = .ok (.goto 16, 3) := by decide +kernel
theorem dX0_note_43 : decode cX0_note 43 = .ok (.aload_n 0, 1) := by decide +kernel
theorem dX0_note_44 : decode cX0_note 44 = .ok (.aload_n 0, 1) := by decide +kernel
theorem dX0_note_45 : decode cX0_note 45 = .ok (.getfield 20, 3) := by decide +kernel
theorem dX0_note_48 : decode cX0_note 48 = .ok (.iconst 1, 1) := by decide +kernel
theorem dX0_note_49 : decode cX0_note 49 = .ok (.iadd, 1) := by decide +kernel
theorem dX0_note_50 : decode cX0_note 50 = .ok (.bipush 14, 2) := by decide +kernel
theorem dX0_note_52 : decode cX0_note 52 = .ok (.irem, 1) := by decide +kernel
theorem dX0_note_53 : decode cX0_note 53 = .ok (.putfield 20, 3) := by decide +kernel
theorem dX0_note_56 : decode cX0_note 56 = .ok (.return_, 1) := by decide +kernel
set_option maxRecDepth 20000 in
theorem ggX0_takeBack_X4_take : GoodIn wsX0_takeBack wsX4_take := goodIn_r _ [8, 9, 10, 11, 12, 13, 14, 15, 16, 17, 21, 22, 23, 24, 25, 26] (by decide +kernel) (by decide +kernel)
set_option maxRecDepth 20000 in
theorem gX0_takeBack_X4_take : GoodIn wsX0_takeBack (wsV RX0 27 RX4 yX4_take wsX4_take) := goodIn_app (goodIn_of _ (by decide +kernel)) ggX0_takeBack_X4_take
theorem dX0_takeBack_0 : decode cX0_takeBack 0 = .ok (.aload_n 0, 1) := by decide +kernel
theorem dX0_takeBack_1 : decode cX0_takeBack 1 = .ok (.getfield 24, 3) := by decide +kernel
theorem dX0_takeBack_4 : decode cX0_takeBack 4 = .ok (.ifCond .le 34, 3) := by decide +kernel
theorem dX0_takeBack_7 : decode cX0_takeBack 7 = .ok (.aload_n 0, 1) := by decide +kernel
theorem dX0_takeBack_8 : decode cX0_takeBack 8 = .ok (.dup, 1) := by decide +kernel
theorem dX0_takeBack_9 : decode cX0_takeBack 9 = .ok (.getfield 24, 3) := by decide +kernel
theorem dX0_takeBack_12 : decode cX0_takeBack 12 = .ok (.iconst 1, 1) := by decide +kernel
theorem dX0_takeBack_13 : decode cX0_takeBack 13 = .ok (.isub, 1) := by decide +kernel
theorem dX0_takeBack_14 : decode cX0_takeBack 14 = .ok (.putfield 24, 3) := by decide +kernel
theorem dX0_takeBack_17 : decode cX0_takeBack 17 = .ok (.aload_n 1, 1) := by decide +kernel
theorem dX0_takeBack_18 : decode cX0_takeBack 18 = .ok (.aload_n 0, 1) := by decide +kernel
theorem dX0_takeBack_19 : decode cX0_takeBack 19 = .ok (.getfield 11, 3) := by decide +kernel
theorem dX0_takeBack_22 : decode cX0_takeBack 22 = .ok (.aload_n 0, 1) := by decide +kernel
theorem dX0_takeBack_23 : decode cX0_takeBack 23 = .ok (.getfield 20, 3) := by decide +kernel
theorem dX0_takeBack_26 : decode cX0_takeBack 26 = .ok (.aload_n 0, 1) := by decide +kernel
theorem dX0_takeBack_27 : decode cX0_takeBack 27 = .ok (.getfield 24, 3) := by decide +kernel
theorem dX0_takeBack_30 : decode cX0_takeBack 30 = .ok (.iadd, 1) := by decide +kernel
theorem dX0_takeBack_31 : decode cX0_takeBack 31 = .ok (.bipush 14, 2) := by decide +kernel
theorem dX0_takeBack_33 : decode cX0_takeBack 33 = .ok (.irem, 1) := by decide +kernel
theorem dX0_takeBack_34 : decode cX0_takeBack 34 = .ok (.aaload, 1) := by decide +kernel
theorem dX0_takeBack_35 : decode cX0_takeBack 35 = .ok (.invokevirtual 27, 3) := by decide +kernel
theorem dX0_takeBack_38 : decode cX0_takeBack 38 = .ok (.return_, 1) := by decide +kernel
theorem dX1_init_0 : decode cX1_init 0 = .ok (.aload_n 0, 1) := by decide +kernel
theorem dX1_init_1 : decode cX1_init 1 = .ok (.invokespecial 3, 3) := by decide +kernel
theorem dX1_init_4 : decode cX1_init 4 = .ok (.aload_n 0, 1) := by decide +kernel
theorem dX1_init_5 : decode cX1_init 5 = .ok (.bipush 6, 2) := by decide +kernel
theorem dX1_init_7 : decode cX1_init 7 = .ok (.newarray .int, 2) := by decide +kernel
theorem dX1_init_9 : decode cX1_init 9 = .ok (.putfield 9, 3) := by decide +kernel
theorem dX1_init_12 : decode cX1_init 12 = .ok (.aload_n 0, 1) := by decide +kernel
theorem dX1_init_13 : decode cX1_init 13 = .ok (.bipush 6, 2) := by decide +kernel
theorem dX1_init_15 : decode cX1_init 15 = .ok (.newarray .int, 2) := by decide +kernel
theorem dX1_init_17 : decode cX1_init 17 = .ok (.putfield 15, 3) := by decide +kernel
theorem dX1_init_20 : decode cX1_init 20 = .ok (.aload_n 0, 1) := by decide +kernel
theorem dX1_init_21 : decode cX1_init 21 = .ok (.bipush 6, 2) := by decide +kernel
theorem dX1_init_23 : decode cX1_init 23 = .ok (.newarray .boolean, 2) := by decide +kernel
theorem dX1_init_25 : decode cX1_init 25 = .ok (.putfield 18, 3) := by decide +kernel
theorem dX1_init_28 : decode cX1_init 28 = .ok (.return_, 1) := by decide +kernel
theorem dX1_add_0 : decode cX1_add 0 = .ok (.aload_n 0, 1) := by decide +kernel
theorem dX1_add_1 : decode cX1_add 1 = .ok (.getfield 22, 3) := by decide +kernel
theorem dX1_add_4 : decode cX1_add 4 = .ok (.bipush 6, 2) := by decide +kernel
theorem dX1_add_6 : decode cX1_add 6 = .ok (.if_icmp .ge 43, 3) := by decide +kernel
theorem dX1_add_9 : decode cX1_add 9 = .ok (.aload_n 0, 1) := by decide +kernel
theorem dX1_add_10 : decode cX1_add 10 = .ok (.getfield 9, 3) := by decide +kernel
theorem dX1_add_13 : decode cX1_add 13 = .ok (.aload_n 0, 1) := by decide +kernel
theorem dX1_add_14 : decode cX1_add 14 = .ok (.getfield 22, 3) := by decide +kernel
theorem dX1_add_17 : decode cX1_add 17 = .ok (.iload_n 1, 1) := by decide +kernel
theorem dX1_add_18 : decode cX1_add 18 = .ok (.iastore, 1) := by decide +kernel
theorem dX1_add_19 : decode cX1_add 19 = .ok (.aload_n 0, 1) := by decide +kernel
theorem dX1_add_20 : decode cX1_add 20 = .ok (.getfield 15, 3) := by decide +kernel
theorem dX1_add_23 : decode cX1_add 23 = .ok (.aload_n 0, 1) := by decide +kernel
theorem dX1_add_24 : decode cX1_add 24 = .ok (.getfield 22, 3) := by decide +kernel
theorem dX1_add_27 : decode cX1_add 27 = .ok (.iload_n 2, 1) := by decide +kernel
theorem dX1_add_28 : decode cX1_add 28 = .ok (.iastore, 1) := by decide +kernel
theorem dX1_add_29 : decode cX1_add 29 = .ok (.aload_n 0, 1) := by decide +kernel
theorem dX1_add_30 : decode cX1_add 30 = .ok (.getfield 18, 3) := by decide +kernel
theorem dX1_add_33 : decode cX1_add 33 = .ok (.aload_n 0, 1) := by decide +kernel
theorem dX1_add_34 : decode cX1_add 34 = .ok (.getfield 22, 3) := by decide +kernel
theorem dX1_add_37 : decode cX1_add 37 = .ok (.iload_n 3, 1) := by decide +kernel
theorem dX1_add_38 : decode cX1_add 38 = .ok (.bastore, 1) := by decide +kernel
theorem dX1_add_39 : decode cX1_add 39 = .ok (.aload_n 0, 1) := by decide +kernel
theorem dX1_add_40 : decode cX1_add 40 = .ok (.dup, 1) := by decide +kernel
theorem dX1_add_41 : decode cX1_add 41 = .ok (.getfield 22, 3) := by decide +kernel
theorem dX1_add_44 : decode cX1_add 44 = .ok (.iconst 1, 1) := by decide +kernel
theorem dX1_add_45 : decode cX1_add 45 = .ok (.iadd, 1) := by decide +kernel
theorem dX1_add_46 : decode cX1_add 46 = .ok (.putfield 22, 3) := by decide +kernel
theorem dX1_add_49 : decode cX1_add 49 = .ok (.return_, 1) := by decide +kernel
theorem dX1_fits_0 : decode cX1_fits 0 = .ok (.iconst 0, 1) := by decide +kernel
theorem dX1_fits_1 : decode cX1_fits 1 = .ok (.istore_n 3, 1) := by decide +kernel
theorem dX1_fits_2 : decode cX1_fits 2 = .ok (.iload_n 3, 1) := by decide +kernel
theorem dX1_fits_3 : decode cX1_fits 3 = .ok (.aload_n 0, 1) := by decide +kernel
theorem dX1_fits_4 : decode cX1_fits 4 = .ok (.getfield 22, 3) := by decide +kernel
theorem dX1_fits_7 : decode cX1_fits 7 = .ok (.if_icmp .ge 52, 3) := by decide +kernel
theorem dX1_fits_10 : decode cX1_fits 10 = .ok (.aload_n 0, 1) := by decide +kernel
theorem dX1_fits_11 : decode cX1_fits 11 = .ok (.getfield 9, 3) := by decide +kernel
theorem dX1_fits_14 : decode cX1_fits 14 = .ok (.iload_n 3, 1) := by decide +kernel
theorem dX1_fits_15 : decode cX1_fits 15 = .ok (.iaload, 1) := by decide +kernel
theorem dX1_fits_16 : decode cX1_fits 16 = .ok (.getstatic 26, 3) := by decide +kernel
theorem dX1_fits_19 : decode cX1_fits 19 = .ok (.iload_n 1, 1) := by decide +kernel
theorem dX1_fits_20 : decode cX1_fits 20 = .ok (.iaload, 1) := by decide +kernel
theorem dX1_fits_21 : decode cX1_fits 21 = .ok (.iadd, 1) := by decide +kernel
theorem dX1_fits_22 : decode cX1_fits 22 = .ok (.iload_n 2, 1) := by decide +kernel
theorem dX1_fits_23 : decode cX1_fits 23 = .ok (.aload_n 0, 1) := by decide +kernel
theorem dX1_fits_24 : decode cX1_fits 24 = .ok (.getfield 15, 3) := by decide +kernel
theorem dX1_fits_27 : decode cX1_fits 27 = .ok (.iload_n 3, 1) := by decide +kernel
theorem dX1_fits_28 : decode cX1_fits 28 = .ok (.iaload, 1) := by decide +kernel
theorem dX1_fits_29 : decode cX1_fits 29 = .ok (.iadd, 1) := by decide +kernel
theorem dX1_fits_30 : decode cX1_fits 30 = .ok (.if_icmp .le 7, 3) := by decide +kernel
theorem dX1_fits_33 : decode cX1_fits 33 = .ok (.iconst 1, 1) := by decide +kernel
theorem dX1_fits_34 : decode cX1_fits 34 = .ok (.goto 4, 3) := by decide +kernel
theorem dX1_fits_37 : decode cX1_fits 37 = .ok (.iconst 0, 1) := by decide +kernel
theorem dX1_fits_38 : decode cX1_fits 38 = .ok (.istore 4, 2) := by decide +kernel
theorem dX1_fits_40 : decode cX1_fits 40 = .ok (.iload 4, 2) := by decide +kernel
theorem dX1_fits_42 : decode cX1_fits 42 = .ok (.aload_n 0, 1) := by decide +kernel
theorem dX1_fits_43 : decode cX1_fits 43 = .ok (.getfield 18, 3) := by decide +kernel
theorem dX1_fits_46 : decode cX1_fits 46 = .ok (.iload_n 3, 1) := by decide +kernel
theorem dX1_fits_47 : decode cX1_fits 47 = .ok (.baload, 1) := by decide +kernel
theorem dX1_fits_48 : decode cX1_fits 48 = .ok (.if_icmp .eq 5, 3) := by decide +kernel
theorem dX1_fits_51 : decode cX1_fits 51 = .ok (.iconst 0, 1) := by decide +kernel
theorem dX1_fits_52 : decode cX1_fits 52 = .ok (.ireturn, 1) := by decide +kernel
theorem dX1_fits_53 : decode cX1_fits 53 = .ok (.iinc 3 1, 3) := by decide +kernel
theorem dX1_fits_56 : decode cX1_fits 56 = .ok (.goto (-54), 3) := by decide +kernel
theorem dX1_fits_59 : decode cX1_fits 59 = .ok (.iconst 1, 1) := by decide +kernel
theorem dX1_fits_60 : decode cX1_fits 60 = .ok (.ireturn, 1) := by decide +kernel
theorem dX2_init_0 : decode cX2_init 0 = .ok (.aload_n 0, 1) := by decide +kernel
theorem dX2_init_1 : decode cX2_init 1 = .ok (.invokespecial 3, 3) := by decide +kernel
theorem dX2_init_4 : decode cX2_init 4 = .ok (.aload_n 0, 1) := by decide +kernel
theorem dX2_init_5 : decode cX2_init 5 = .ok (.iconst 5, 1) := by decide +kernel
theorem dX2_init_6 : decode cX2_init 6 = .ok (.newarray .int, 2) := by decide +kernel
theorem dX2_init_8 : decode cX2_init 8 = .ok (.putfield 9, 3) := by decide +kernel
theorem dX2_init_11 : decode cX2_init 11 = .ok (.aload_n 0, 1) := by decide +kernel
theorem dX2_init_12 : decode cX2_init 12 = .ok (.iconst 5, 1) := by decide +kernel
theorem dX2_init_13 : decode cX2_init 13 = .ok (.newarray .int, 2) := by decide +kernel
theorem dX2_init_15 : decode cX2_init 15 = .ok (.putfield 15, 3) := by decide +kernel
theorem dX2_init_18 : decode cX2_init 18 = .ok (.aload_n 0, 1) := by decide +kernel
theorem dX2_init_19 : decode cX2_init 19 = .ok (.bipush 8, 2) := by decide +kernel
theorem dX2_init_21 : decode cX2_init 21 = .ok (.newarray .int, 2) := by decide +kernel
theorem dX2_init_23 : decode cX2_init 23 = .ok (.putfield 18, 3) := by decide +kernel
theorem dX2_init_26 : decode cX2_init 26 = .ok (.aload_n 0, 1) := by decide +kernel
theorem dX2_init_27 : decode cX2_init 27 = .ok (.bipush 8, 2) := by decide +kernel
theorem dX2_init_29 : decode cX2_init 29 = .ok (.newarray .int, 2) := by decide +kernel
theorem dX2_init_31 : decode cX2_init 31 = .ok (.putfield 21, 3) := by decide +kernel
theorem dX2_init_34 : decode cX2_init 34 = .ok (.aload_n 0, 1) := by decide +kernel
theorem dX2_init_35 : decode cX2_init 35 = .ok (.bipush 8, 2) := by decide +kernel
theorem dX2_init_37 : decode cX2_init 37 = .ok (.newarray .int, 2) := by decide +kernel
theorem dX2_init_39 : decode cX2_init 39 = .ok (.putfield 24, 3) := by decide +kernel
theorem dX2_init_42 : decode cX2_init 42 = .ok (.aload_n 0, 1) := by decide +kernel
theorem dX2_init_43 : decode cX2_init 43 = .ok (.iconst 4, 1) := by decide +kernel
theorem dX2_init_44 : decode cX2_init 44 = .ok (.newarray .int, 2) := by decide +kernel
theorem dX2_init_46 : decode cX2_init 46 = .ok (.putfield 27, 3) := by decide +kernel
theorem dX2_init_49 : decode cX2_init 49 = .ok (.return_, 1) := by decide +kernel
theorem dX2_clear_0 : decode cX2_clear 0 = .ok (.aload_n 0, 1) := by decide +kernel
theorem dX2_clear_1 : decode cX2_clear 1 = .ok (.iconst 0, 1) := by decide +kernel
theorem dX2_clear_2 : decode cX2_clear 2 = .ok (.putfield 30, 3) := by decide +kernel
theorem dX2_clear_5 : decode cX2_clear 5 = .ok (.aload_n 0, 1) := by decide +kernel
theorem dX2_clear_6 : decode cX2_clear 6 = .ok (.iconst 0, 1) := by decide +kernel
theorem dX2_clear_7 : decode cX2_clear 7 = .ok (.putfield 34, 3) := by decide +kernel
theorem dX2_clear_10 : decode cX2_clear 10 = .ok (.aload_n 0, 1) := by decide +kernel
theorem dX2_clear_11 : decode cX2_clear 11 = .ok (.iconst 0, 1) := by decide +kernel
theorem dX2_clear_12 : decode cX2_clear 12 = .ok (.putfield 37, 3) := by decide +kernel
theorem dX2_clear_15 : decode cX2_clear 15 = .ok (.return_, 1) := by decide +kernel
theorem dX2_take_0 : decode cX2_take 0 = .ok (.aload_n 0, 1) := by decide +kernel
theorem dX2_take_1 : decode cX2_take 1 = .ok (.aload_n 1, 1) := by decide +kernel
theorem dX2_take_2 : decode cX2_take 2 = .ok (.getfield 30, 3) := by decide +kernel
theorem dX2_take_5 : decode cX2_take 5 = .ok (.putfield 30, 3) := by decide +kernel
theorem dX2_take_8 : decode cX2_take 8 = .ok (.aload_n 0, 1) := by decide +kernel
theorem dX2_take_9 : decode cX2_take 9 = .ok (.aload_n 1, 1) := by decide +kernel
theorem dX2_take_10 : decode cX2_take 10 = .ok (.getfield 34, 3) := by decide +kernel
theorem dX2_take_13 : decode cX2_take 13 = .ok (.putfield 34, 3) := by decide +kernel
theorem dX2_take_16 : decode cX2_take 16 = .ok (.aload_n 0, 1) := by decide +kernel
theorem dX2_take_17 : decode cX2_take 17 = .ok (.aload_n 1, 1) := by decide +kernel
theorem dX2_take_18 : decode cX2_take 18 = .ok (.getfield 37, 3) := by decide +kernel
theorem dX2_take_21 : decode cX2_take 21 = .ok (.putfield 37, 3) := by decide +kernel
theorem dX2_take_24 : decode cX2_take 24 = .ok (.aload_n 1, 1) := by decide +kernel
theorem dX2_take_25 : decode cX2_take 25 = .ok (.getfield 9, 3) := by decide +kernel
theorem dX2_take_28 : decode cX2_take 28 = .ok (.iconst 0, 1) := by decide +kernel
theorem dX2_take_29 : decode cX2_take 29 = .ok (.aload_n 0, 1) := by decide +kernel
theorem dX2_take_30 : decode cX2_take 30 = .ok (.getfield 9, 3) := by decide +kernel
theorem dX2_take_33 : decode cX2_take 33 = .ok (.iconst 0, 1) := by decide +kernel
theorem dX2_take_34 : decode cX2_take 34 = .ok (.iconst 5, 1) := by decide +kernel
theorem dX2_take_35 : decode cX2_take 35 = .ok (.invokestatic 40, 3) := by decide +kernel
theorem dX2_take_38 : decode cX2_take 38 = .ok (.aload_n 1, 1) := by decide +kernel
theorem dX2_take_39 : decode cX2_take 39 = .ok (.getfield 15, 3) := by decide +kernel
theorem dX2_take_42 : decode cX2_take 42 = .ok (.iconst 0, 1) := by decide +kernel
theorem dX2_take_43 : decode cX2_take 43 = .ok (.aload_n 0, 1) := by decide +kernel
theorem dX2_take_44 : decode cX2_take 44 = .ok (.getfield 15, 3) := by decide +kernel
theorem dX2_take_47 : decode cX2_take 47 = .ok (.iconst 0, 1) := by decide +kernel
theorem dX2_take_48 : decode cX2_take 48 = .ok (.iconst 5, 1) := by decide +kernel
theorem dX2_take_49 : decode cX2_take 49 = .ok (.invokestatic 40, 3) := by decide +kernel
theorem dX2_take_52 : decode cX2_take 52 = .ok (.aload_n 1, 1) := by decide +kernel
theorem dX2_take_53 : decode cX2_take 53 = .ok (.getfield 18, 3) := by decide +kernel
theorem dX2_take_56 : decode cX2_take 56 = .ok (.iconst 0, 1) := by decide +kernel
theorem dX2_take_57 : decode cX2_take 57 = .ok (.aload_n 0, 1) := by decide +kernel
theorem dX2_take_58 : decode cX2_take 58 = .ok (.getfield 18, 3) := by decide +kernel
theorem dX2_take_61 : decode cX2_take 61 = .ok (.iconst 0, 1) := by decide +kernel
theorem dX2_take_62 : decode cX2_take 62 = .ok (.bipush 8, 2) := by decide +kernel
theorem dX2_take_64 : decode cX2_take 64 = .ok (.invokestatic 40, 3) := by decide +kernel
theorem dX2_take_67 : decode cX2_take 67 = .ok (.aload_n 1, 1) := by decide +kernel
theorem dX2_take_68 : decode cX2_take 68 = .ok (.getfield 21, 3) := by decide +kernel
theorem dX2_take_71 : decode cX2_take 71 = .ok (.iconst 0, 1) := by decide +kernel
theorem dX2_take_72 : decode cX2_take 72 = .ok (.aload_n 0, 1) := by decide +kernel
theorem dX2_take_73 : decode cX2_take 73 = .ok (.getfield 21, 3) := by decide +kernel
theorem dX2_take_76 : decode cX2_take 76 = .ok (.iconst 0, 1) := by decide +kernel
theorem dX2_take_77 : decode cX2_take 77 = .ok (.bipush 8, 2) := by decide +kernel
theorem dX2_take_79 : decode cX2_take 79 = .ok (.invokestatic 40, 3) := by decide +kernel
theorem dX2_take_82 : decode cX2_take 82 = .ok (.aload_n 1, 1) := by decide +kernel
theorem dX2_take_83 : decode cX2_take 83 = .ok (.getfield 24, 3) := by decide +kernel
theorem dX2_take_86 : decode cX2_take 86 = .ok (.iconst 0, 1) := by decide +kernel
theorem dX2_take_87 : decode cX2_take 87 = .ok (.aload_n 0, 1) := by decide +kernel
theorem dX2_take_88 : decode cX2_take 88 = .ok (.getfield 24, 3) := by decide +kernel
theorem dX2_take_91 : decode cX2_take 91 = .ok (.iconst 0, 1) := by decide +kernel
theorem dX2_take_92 : decode cX2_take 92 = .ok (.bipush 8, 2) := by decide +kernel
theorem dX2_take_94 : decode cX2_take 94 = .ok (.invokestatic 40, 3) := by decide +kernel
theorem dX2_take_97 : decode cX2_take 97 = .ok (.aload_n 1, 1) := by decide +kernel
theorem dX2_take_98 : decode cX2_take 98 = .ok (.getfield 27, 3) := by decide +kernel
theorem dX2_take_101 : decode cX2_take 101 = .ok (.iconst 0, 1) := by decide +kernel
theorem dX2_take_102 : decode cX2_take 102 = .ok (.aload_n 0, 1) := by decide +kernel
theorem dX2_take_103 : decode cX2_take 103 = .ok (.getfield 27, 3) := by decide +kernel
theorem dX2_take_106 : decode cX2_take 106 = .ok (.iconst 0, 1) := by decide +kernel
theorem dX2_take_107 : decode cX2_take 107 = .ok (.iconst 4, 1) := by decide +kernel
theorem dX2_take_108 : decode cX2_take 108 = .ok (.invokestatic 40, 3) := by decide +kernel
theorem dX2_take_111 : decode cX2_take 111 = .ok (.return_, 1) := by decide +kernel
theorem dX2_hasHouse_0 : decode cX2_hasHouse 0 = .ok (.iload_n 1, 1) := by decide +kernel
theorem dX2_hasHouse_1 : decode cX2_hasHouse 1 = .ok (.ifCond .lt 15, 3) := by decide +kernel
theorem dX2_hasHouse_4 : decode cX2_hasHouse 4 = .ok (.iload_n 1, 1) := by decide +kernel
theorem dX2_hasHouse_5 : decode cX2_hasHouse 5 = .ok (.aload_n 0, 1) := by decide +kernel
theorem dX2_hasHouse_6 : decode cX2_hasHouse 6 = .ok (.getfield 30, 3) := by decide +kernel
theorem dX2_hasHouse_9 : decode cX2_hasHouse 9 = .ok (.if_icmp .ge 7, 3) := by decide +kernel
theorem dX2_hasHouse_12 : decode cX2_hasHouse 12 = .ok (.iconst 1, 1) := by decide +kernel
theorem dX2_hasHouse_13 : decode cX2_hasHouse 13 = .ok (.goto 4, 3) := by decide +kernel
theorem dX2_hasHouse_16 : decode cX2_hasHouse 16 = .ok (.iconst 0, 1) := by decide +kernel
theorem dX2_hasHouse_17 : decode cX2_hasHouse 17 = .ok (.ireturn, 1) := by decide +kernel
theorem dX2_hasNext_0 : decode cX2_hasNext 0 = .ok (.iload_n 1, 1) := by decide +kernel
theorem dX2_hasNext_1 : decode cX2_hasNext 1 = .ok (.ifCond .lt 17, 3) := by decide +kernel
theorem dX2_hasNext_4 : decode cX2_hasNext 4 = .ok (.iload_n 1, 1) := by decide +kernel
theorem dX2_hasNext_5 : decode cX2_hasNext 5 = .ok (.aload_n 0, 1) := by decide +kernel
theorem dX2_hasNext_6 : decode cX2_hasNext 6 = .ok (.getfield 30, 3) := by decide +kernel
theorem dX2_hasNext_9 : decode cX2_hasNext 9 = .ok (.iconst 1, 1) := by decide +kernel
theorem dX2_hasNext_10 : decode cX2_hasNext 10 = .ok (.isub, 1) := by decide +kernel
theorem dX2_hasNext_11 : decode cX2_hasNext 11 = .ok (.if_icmp .ge 7, 3) := by decide +kernel
theorem dX2_hasNext_14 : decode cX2_hasNext 14 = .ok (.iconst 1, 1) := by decide +kernel
theorem dX2_hasNext_15 : decode cX2_hasNext 15 = .ok (.goto 4, 3) := by decide +kernel
theorem dX2_hasNext_18 : decode cX2_hasNext 18 = .ok (.iconst 0, 1) := by decide +kernel
theorem dX2_hasNext_19 : decode cX2_hasNext 19 = .ok (.ireturn, 1) := by decide +kernel
theorem dX2_allHouses_0 : decode cX2_allHouses 0 = .ok (.iconst 1, 1) := by decide +kernel
theorem dX2_allHouses_1 : decode cX2_allHouses 1 = .ok (.aload_n 0, 1) := by decide +kernel
theorem dX2_allHouses_2 : decode cX2_allHouses 2 = .ok (.getfield 30, 3) := by decide +kernel
theorem dX2_allHouses_5 : decode cX2_allHouses 5 = .ok (.ishl, 1) := by decide +kernel
theorem dX2_allHouses_6 : decode cX2_allHouses 6 = .ok (.iconst 1, 1) := by decide +kernel
theorem dX2_allHouses_7 : decode cX2_allHouses 7 = .ok (.isub, 1) := by decide +kernel
theorem dX2_allHouses_8 : decode cX2_allHouses 8 = .ok (.ireturn, 1) := by decide +kernel
theorem dX2_hasSaying_0 : decode cX2_hasSaying 0 = .ok (.iload_n 1, 1) := by decide +kernel
theorem dX2_hasSaying_1 : decode cX2_hasSaying 1 = .ok (.ifCond .lt 15, 3) := by decide +kernel
theorem dX2_hasSaying_4 : decode cX2_hasSaying 4 = .ok (.iload_n 1, 1) := by decide +kernel
theorem dX2_hasSaying_5 : decode cX2_hasSaying 5 = .ok (.aload_n 0, 1) := by decide +kernel
theorem dX2_hasSaying_6 : decode cX2_hasSaying 6 = .ok (.getfield 34, 3) := by decide +kernel
theorem dX2_hasSaying_9 : decode cX2_hasSaying 9 = .ok (.if_icmp .ge 7, 3) := by decide +kernel
theorem dX2_hasSaying_12 : decode cX2_hasSaying 12 = .ok (.iconst 1, 1) := by decide +kernel
theorem dX2_hasSaying_13 : decode cX2_hasSaying 13 = .ok (.goto 4, 3) := by decide +kernel
theorem dX2_hasSaying_16 : decode cX2_hasSaying 16 = .ok (.iconst 0, 1) := by decide +kernel
theorem dX2_hasSaying_17 : decode cX2_hasSaying 17 = .ok (.ireturn, 1) := by decide +kernel
theorem dX2_sayingAt_0 : decode cX2_sayingAt 0 = .ok (.aload_n 0, 1) := by decide +kernel
theorem dX2_sayingAt_1 : decode cX2_sayingAt 1 = .ok (.getfield 34, 3) := by decide +kernel
theorem dX2_sayingAt_4 : decode cX2_sayingAt 4 = .ok (.ifCond .le 12, 3) := by decide +kernel
theorem dX2_sayingAt_7 : decode cX2_sayingAt 7 = .ok (.iload_n 1, 1) := by decide +kernel
theorem dX2_sayingAt_8 : decode cX2_sayingAt 8 = .ok (.aload_n 0, 1) := by decide +kernel
theorem dX2_sayingAt_9 : decode cX2_sayingAt 9 = .ok (.getfield 34, 3) := by decide +kernel
theorem dX2_sayingAt_12 : decode cX2_sayingAt 12 = .ok (.irem, 1) := by decide +kernel
theorem dX2_sayingAt_13 : decode cX2_sayingAt 13 = .ok (.goto 5, 3) := by decide +kernel
theorem dX2_sayingAt_16 : decode cX2_sayingAt 16 = .ok (.bipush (-9), 2) := by decide +kernel
theorem dX2_sayingAt_18 : decode cX2_sayingAt 18 = .ok (.ireturn, 1) := by decide +kernel
theorem dX2_rainAt_0 : decode cX2_rainAt 0 = .ok (.aload_n 0, 1) := by decide +kernel
theorem dX2_rainAt_1 : decode cX2_rainAt 1 = .ok (.getfield 37, 3) := by decide +kernel
theorem dX2_rainAt_4 : decode cX2_rainAt 4 = .ok (.ifCond .le 17, 3) := by decide +kernel
theorem dX2_rainAt_7 : decode cX2_rainAt 7 = .ok (.aload_n 0, 1) := by decide +kernel
theorem dX2_rainAt_8 : decode cX2_rainAt 8 = .ok (.getfield 27, 3) := by decide +kernel
theorem dX2_rainAt_11 : decode cX2_rainAt 11 = .ok (.iload_n 1, 1) := by decide +kernel
theorem dX2_rainAt_12 : decode cX2_rainAt 12 = .ok (.aload_n 0, 1) := by decide +kernel
theorem dX2_rainAt_13 : decode cX2_rainAt 13 = .ok (.getfield 37, 3) := by decide +kernel
theorem dX2_rainAt_16 : decode cX2_rainAt 16 = .ok (.irem, 1) := by decide +kernel
theorem dX2_rainAt_17 : decode cX2_rainAt 17 = .ok (.iaload, 1) := by decide +kernel
theorem dX2_rainAt_18 : decode cX2_rainAt 18 = .ok (.goto 4, 3) := by decide +kernel
theorem dX2_rainAt_21 : decode cX2_rainAt 21 = .ok (.iconst 0, 1) := by decide +kernel
theorem dX2_rainAt_22 : decode cX2_rainAt 22 = .ok (.ireturn, 1) := by decide +kernel
theorem dX2_addHouse_0 : decode cX2_addHouse 0 = .ok (.aload_n 0, 1) := by decide +kernel
theorem dX2_addHouse_1 : decode cX2_addHouse 1 = .ok (.getfield 30, 3) := by decide +kernel
theorem dX2_addHouse_4 : decode cX2_addHouse 4 = .ok (.iconst 5, 1) := by decide +kernel
theorem dX2_addHouse_5 : decode cX2_addHouse 5 = .ok (.if_icmp .ge 33, 3) := by decide +kernel
theorem dX2_addHouse_8 : decode cX2_addHouse 8 = .ok (.aload_n 0, 1) := by decide +kernel
theorem dX2_addHouse_9 : decode cX2_addHouse 9 = .ok (.getfield 15, 3) := by decide +kernel
theorem dX2_addHouse_12 : decode cX2_addHouse 12 = .ok (.aload_n 0, 1) := by decide +kernel
theorem dX2_addHouse_13 : decode cX2_addHouse 13 = .ok (.getfield 30, 3) := by decide +kernel
theorem dX2_addHouse_16 : decode cX2_addHouse 16 = .ok (.iload_n 1, 1) := by decide +kernel
theorem dX2_addHouse_17 : decode cX2_addHouse 17 = .ok (.iastore, 1) := by decide +kernel
theorem dX2_addHouse_18 : decode cX2_addHouse 18 = .ok (.aload_n 0, 1) := by decide +kernel
theorem dX2_addHouse_19 : decode cX2_addHouse 19 = .ok (.getfield 9, 3) := by decide +kernel
theorem dX2_addHouse_22 : decode cX2_addHouse 22 = .ok (.aload_n 0, 1) := by decide +kernel
theorem dX2_addHouse_23 : decode cX2_addHouse 23 = .ok (.getfield 30, 3) := by decide +kernel
theorem dX2_addHouse_26 : decode cX2_addHouse 26 = .ok (.iload_n 2, 1) := by decide +kernel
theorem dX2_addHouse_27 : decode cX2_addHouse 27 = .ok (.iastore, 1) := by decide +kernel
theorem dX2_addHouse_28 : decode cX2_addHouse 28 = .ok (.aload_n 0, 1) := by decide +kernel
theorem dX2_addHouse_29 : decode cX2_addHouse 29 = .ok (.dup, 1) := by decide +kernel
theorem dX2_addHouse_30 : decode cX2_addHouse 30 = .ok (.getfield 30, 3) := by decide +kernel
theorem dX2_addHouse_33 : decode cX2_addHouse 33 = .ok (.iconst 1, 1) := by decide +kernel
theorem dX2_addHouse_34 : decode cX2_addHouse 34 = .ok (.iadd, 1) := by decide +kernel
theorem dX2_addHouse_35 : decode cX2_addHouse 35 = .ok (.putfield 30, 3) := by decide +kernel
theorem dX2_addHouse_38 : decode cX2_addHouse 38 = .ok (.return_, 1) := by decide +kernel
theorem dX2_addSaying_0 : decode cX2_addSaying 0 = .ok (.aload_n 0, 1) := by decide +kernel
theorem dX2_addSaying_1 : decode cX2_addSaying 1 = .ok (.getfield 34, 3) := by decide +kernel
theorem dX2_addSaying_4 : decode cX2_addSaying 4 = .ok (.bipush 8, 2) := by decide +kernel
theorem dX2_addSaying_6 : decode cX2_addSaying 6 = .ok (.if_icmp .ge 43, 3) := by decide +kernel
theorem dX2_addSaying_9 : decode cX2_addSaying 9 = .ok (.aload_n 0, 1) := by decide +kernel
theorem dX2_addSaying_10 : decode cX2_addSaying 10 = .ok (.getfield 18, 3) := by decide +kernel
theorem dX2_addSaying_13 : decode cX2_addSaying 13 = .ok (.aload_n 0, 1) := by decide +kernel
theorem dX2_addSaying_14 : decode cX2_addSaying 14 = .ok (.getfield 34, 3) := by decide +kernel
theorem dX2_addSaying_17 : decode cX2_addSaying 17 = .ok (.iload_n 1, 1) := by decide +kernel
theorem dX2_addSaying_18 : decode cX2_addSaying 18 = .ok (.iastore, 1) := by decide +kernel
theorem dX2_addSaying_19 : decode cX2_addSaying 19 = .ok (.aload_n 0, 1) := by decide +kernel
theorem dX2_addSaying_20 : decode cX2_addSaying 20 = .ok (.getfield 21, 3) := by decide +kernel
theorem dX2_addSaying_23 : decode cX2_addSaying 23 = .ok (.aload_n 0, 1) := by decide +kernel
theorem dX2_addSaying_24 : decode cX2_addSaying 24 = .ok (.getfield 34, 3) := by decide +kernel
theorem dX2_addSaying_27 : decode cX2_addSaying 27 = .ok (.iload_n 2, 1) := by decide +kernel
theorem dX2_addSaying_28 : decode cX2_addSaying 28 = .ok (.iastore, 1) := by decide +kernel
theorem dX2_addSaying_29 : decode cX2_addSaying 29 = .ok (.aload_n 0, 1) := by decide +kernel
theorem dX2_addSaying_30 : decode cX2_addSaying 30 = .ok (.getfield 24, 3) := by decide +kernel
theorem dX2_addSaying_33 : decode cX2_addSaying 33 = .ok (.aload_n 0, 1) := by decide +kernel
theorem dX2_addSaying_34 : decode cX2_addSaying 34 = .ok (.getfield 34, 3) := by decide +kernel
theorem dX2_addSaying_37 : decode cX2_addSaying 37 = .ok (.iload_n 3, 1) := by decide +kernel
theorem dX2_addSaying_38 : decode cX2_addSaying 38 = .ok (.iastore, 1) := by decide +kernel
theorem dX2_addSaying_39 : decode cX2_addSaying 39 = .ok (.aload_n 0, 1) := by decide +kernel
theorem dX2_addSaying_40 : decode cX2_addSaying 40 = .ok (.dup, 1) := by decide +kernel
theorem dX2_addSaying_41 : decode cX2_addSaying 41 = .ok (.getfield 34, 3) := by decide +kernel
theorem dX2_addSaying_44 : decode cX2_addSaying 44 = .ok (.iconst 1, 1) := by decide +kernel
theorem dX2_addSaying_45 : decode cX2_addSaying 45 = .ok (.iadd, 1) := by decide +kernel
theorem dX2_addSaying_46 : decode cX2_addSaying 46 = .ok (.putfield 34, 3) := by decide +kernel
theorem dX2_addSaying_49 : decode cX2_addSaying 49 = .ok (.return_, 1) := by decide +kernel
theorem dX2_addRain_0 : decode cX2_addRain 0 = .ok (.aload_n 0, 1) := by decide +kernel
theorem dX2_addRain_1 : decode cX2_addRain 1 = .ok (.getfield 37, 3) := by decide +kernel
theorem dX2_addRain_4 : decode cX2_addRain 4 = .ok (.iconst 4, 1) := by decide +kernel
theorem dX2_addRain_5 : decode cX2_addRain 5 = .ok (.if_icmp .ge 23, 3) := by decide +kernel
theorem dX2_addRain_8 : decode cX2_addRain 8 = .ok (.aload_n 0, 1) := by decide +kernel
theorem dX2_addRain_9 : decode cX2_addRain 9 = .ok (.getfield 27, 3) := by decide +kernel
theorem dX2_addRain_12 : decode cX2_addRain 12 = .ok (.aload_n 0, 1) := by decide +kernel
theorem dX2_addRain_13 : decode cX2_addRain 13 = .ok (.getfield 37, 3) := by decide +kernel
theorem dX2_addRain_16 : decode cX2_addRain 16 = .ok (.iload_n 1, 1) := by decide +kernel
theorem dX2_addRain_17 : decode cX2_addRain 17 = .ok (.iastore, 1) := by decide +kernel
theorem dX2_addRain_18 : decode cX2_addRain 18 = .ok (.aload_n 0, 1) := by decide +kernel
theorem dX2_addRain_19 : decode cX2_addRain 19 = .ok (.dup, 1) := by decide +kernel
theorem dX2_addRain_20 : decode cX2_addRain 20 = .ok (.getfield 37, 3) := by decide +kernel
theorem dX2_addRain_23 : decode cX2_addRain 23 = .ok (.iconst 1, 1) := by decide +kernel
theorem dX2_addRain_24 : decode cX2_addRain 24 = .ok (.iadd, 1) := by decide +kernel
theorem dX2_addRain_25 : decode cX2_addRain 25 = .ok (.putfield 37, 3) := by decide +kernel
theorem dX2_addRain_28 : decode cX2_addRain 28 = .ok (.return_, 1) := by decide +kernel
set_option maxRecDepth 20000 in
theorem ggX3_init_X2_init : GoodIn wsX3_init wsX2_init := goodIn_r _ [11, 12, 2, 3, 8, 13, 14, 15, 16, 17, 18, 19, 20, 21, 22, 23, 24, 25, 26, 27] (by decide +kernel) (by decide +kernel)
set_option maxRecDepth 20000 in
theorem gX3_init_X2_init_n11 : GoodIn wsX3_init (wsX2_init) := ggX3_init_X2_init
theorem dX3_init_0 : decode cX3_init 0 = .ok (.aload_n 0, 1) := by decide +kernel
theorem dX3_init_1 : decode cX3_init 1 = .ok (.invokespecial 3, 3) := by decide +kernel
theorem dX3_init_4 : decode cX3_init 4 = .ok (.aload_n 0, 1) := by decide +kernel
theorem dX3_init_5 : decode cX3_init 5 = .ok (.new 9, 3) := by decide +kernel
theorem dX3_init_8 : decode cX3_init 8 = .ok (.dup, 1) := by decide +kernel
theorem dX3_init_9 : decode cX3_init 9 = .ok (.invokespecial 11, 3) := by decide +kernel
theorem dX3_init_12 : decode cX3_init 12 = .ok (.putfield 12, 3) := by decide +kernel
theorem dX3_init_15 : decode cX3_init 15 = .ok (.aload_n 0, 1) := by decide +kernel
theorem dX3_init_16 : decode cX3_init 16 = .ok (.iconst 3, 1) := by decide +kernel
theorem dX3_init_17 : decode cX3_init 17 = .ok (.newarray .int, 2) := by decide +kernel
theorem dX3_init_19 : decode cX3_init 19 = .ok (.putfield 18, 3) := by decide +kernel
theorem dX3_init_22 : decode cX3_init 22 = .ok (.return_, 1) := by decide +kernel
set_option maxRecDepth 20000 in
theorem ggX3_firstFault_X2_clear : GoodIn wsX3_firstFault wsX2_clear := goodIn_r _ [8, 9, 10, 11, 57, 58, 59, 60, 61, 62, 63, 64, 65] (by decide +kernel) (by decide +kernel)
set_option maxRecDepth 20000 in
theorem gX3_firstFault_X2_clear : GoodIn wsX3_firstFault (wsV RX3 22 RX2 yX2_clear wsX2_clear) := goodIn_app (goodIn_of _ (by decide +kernel)) ggX3_firstFault_X2_clear
set_option maxRecDepth 20000 in
theorem ggX3_firstFault_X3_accepts : GoodIn wsX3_firstFault wsX3_accepts := goodIn_r _ [16, 2, 3, 17, 18, 19, 20, 21, 15, 22, 1, 23, 24, 25, 26, 27, 28, 29, 30, 31, 32, 33, 34, 35, 36, 7, 37, 9, 38, 39, 40, 41, 42, 43, 10, 44, 45, 46, 47, 48, 49, 50, 11, 51, 52, 53, 54, 55, 56, 57, 58, 59, 60, 61, 62, 63, 64, 65] (by decide +kernel) (by decide +kernel)
set_option maxRecDepth 20000 in
theorem gX3_firstFault_X3_accepts : GoodIn wsX3_firstFault (wsV RX3 33 RX3 yX3_accepts wsX3_accepts) := goodIn_app (goodIn_of _ (by decide +kernel)) ggX3_firstFault_X3_accepts
theorem dX3_firstFault_0 : decode cX3_firstFault 0 = .ok (.aload_n 0, 1) := by decide +kernel
theorem dX3_firstFault_1 : decode cX3_firstFault 1 = .ok (.getfield 12, 3) := by decide +kernel
theorem dX3_firstFault_4 : decode cX3_firstFault 4 = .ok (.invokevirtual 22, 3) := by decide +kernel
theorem dX3_firstFault_7 : decode cX3_firstFault 7 = .ok (.aload_n 0, 1) := by decide +kernel
theorem dX3_firstFault_8 : decode cX3_firstFault 8 = .ok (.iconst 0, 1) := by decide +kernel
theorem dX3_firstFault_9 : decode cX3_firstFault 9 = .ok (.putfield 25, 3) := by decide +kernel
theorem dX3_firstFault_12 : decode cX3_firstFault 12 = .ok (.aload_n 0, 1) := by decide +kernel
theorem dX3_firstFault_13 : decode cX3_firstFault 13 = .ok (.iconst 0, 1) := by decide +kernel
theorem dX3_firstFault_14 : decode cX3_firstFault 14 = .ok (.putfield 29, 3) := by decide +kernel
theorem dX3_firstFault_17 : decode cX3_firstFault 17 = .ok (.iconst 0, 1) := by decide +kernel
theorem dX3_firstFault_18 : decode cX3_firstFault 18 = .ok (.istore_n 3, 1) := by decide +kernel
theorem dX3_firstFault_19 : decode cX3_firstFault 19 = .ok (.iload_n 3, 1) := by decide +kernel
theorem dX3_firstFault_20 : decode cX3_firstFault 20 = .ok (.iload_n 2, 1) := by decide +kernel
theorem dX3_firstFault_21 : decode cX3_firstFault 21 = .ok (.if_icmp .ge 27, 3) := by decide +kernel
theorem dX3_firstFault_24 : decode cX3_firstFault 24 = .ok (.iload_n 3, 1) := by decide +kernel
theorem dX3_firstFault_25 : decode cX3_firstFault 25 = .ok (.aload_n 1, 1) := by decide +kernel
theorem dX3_firstFault_26 : decode cX3_firstFault 26 = .ok (.arraylength, 1) := by decide +kernel
theorem dX3_firstFault_27 : decode cX3_firstFault 27 = .ok (.if_icmp .ge 21, 3) := by decide +kernel
theorem dX3_firstFault_30 : decode cX3_firstFault 30 = .ok (.aload_n 0, 1) := by decide +kernel
theorem dX3_firstFault_31 : decode cX3_firstFault 31 = .ok (.aload_n 1, 1) := by decide +kernel
theorem dX3_firstFault_32 : decode cX3_firstFault 32 = .ok (.iload_n 3, 1) := by decide +kernel
theorem dX3_firstFault_33 : decode cX3_firstFault 33 = .ok (.iaload, 1) := by decide +kernel
theorem dX3_firstFault_34 : decode cX3_firstFault 34 = .ok (.invokevirtual 33, 3) := by decide +kernel
theorem dX3_firstFault_37 : decode cX3_firstFault 37 = .ok (.ifCond .ne 5, 3) := by decide +kernel
theorem dX3_firstFault_40 : decode cX3_firstFault 40 = .ok (.iload_n 3, 1) := by decide +kernel
theorem dX3_firstFault_41 : decode cX3_firstFault 41 = .ok (.ireturn, 1) := by decide +kernel
theorem dX3_firstFault_42 : decode cX3_firstFault 42 = .ok (.iinc 3 1, 3) := by decide +kernel
theorem dX3_firstFault_45 : decode cX3_firstFault 45 = .ok (.goto (-26), 3) := by decide +kernel
theorem dX3_firstFault_48 : decode cX3_firstFault 48 = .ok (.aload_n 0, 1) := by decide +kernel
theorem dX3_firstFault_49 : decode cX3_firstFault 49 = .ok (.getfield 25, 3) := by decide +kernel
theorem dX3_firstFault_52 : decode cX3_firstFault 52 = .ok (.ifCond .eq 15, 3) := by decide +kernel
theorem dX3_firstFault_55 : decode cX3_firstFault 55 = .ok (.aload_n 0, 1) := by decide +kernel
theorem dX3_firstFault_56 : decode cX3_firstFault 56 = .ok (.getfield 29, 3) := by decide +kernel
theorem dX3_firstFault_59 : decode cX3_firstFault 59 = .ok (.ifCond .ne 8, 3) := by decide +kernel
theorem dX3_firstFault_62 : decode cX3_firstFault 62 = .ok (.bipush (-9), 2) := by decide +kernel
theorem dX3_firstFault_64 : decode cX3_firstFault 64 = .ok (.goto 4, 3) := by decide +kernel
theorem dX3_firstFault_67 : decode cX3_firstFault 67 = .ok (.iload_n 2, 1) := by decide +kernel
theorem dX3_firstFault_68 : decode cX3_firstFault 68 = .ok (.ireturn, 1) := by decide +kernel
set_option maxRecDepth 20000 in
theorem ggX3_accepts_X3_opensPart : GoodIn wsX3_accepts wsX3_opensPart := goodIn_r _ [9, 10, 11, 12, 13, 2, 3, 44, 45, 46, 47, 48, 49, 50, 51, 52, 53, 54, 55, 56, 57] (by decide +kernel) (by decide +kernel)
set_option maxRecDepth 20000 in
theorem gX3_accepts_X3_opensPart : GoodIn wsX3_accepts (wsV RX3 37 RX3 yX3_opensPart wsX3_opensPart) := goodIn_app (goodIn_of _ (by decide +kernel)) ggX3_accepts_X3_opensPart
set_option maxRecDepth 20000 in
theorem ggX3_accepts_X3_figureLimit : GoodIn wsX3_accepts wsX3_figureLimit := goodIn_r _ [17, 2, 3, 10, 11, 44, 45, 46, 47, 48, 49, 50, 51, 52, 53, 54, 55, 56, 57] (by decide +kernel) (by decide +kernel)
set_option maxRecDepth 20000 in
theorem gX3_accepts_X3_figureLimit : GoodIn wsX3_accepts (wsV RX3 40 RX3 yX3_figureLimit wsX3_figureLimit) := goodIn_app (goodIn_of _ (by decide +kernel)) ggX3_accepts_X3_figureLimit
set_option maxRecDepth 20000 in
theorem ggX3_accepts_X3_closePartIfWhole : GoodIn wsX3_accepts wsX3_closePartIfWhole := goodIn_r _ [21, 2, 3, 10, 4, 22, 23, 24, 25, 26, 27, 28, 29, 30, 31, 32, 33, 34, 35, 36, 37, 38, 39, 40, 41, 42, 43, 44, 45, 46, 47, 48, 49, 50, 51, 52, 53, 54, 55, 56, 57] (by decide +kernel) (by decide +kernel)
set_option maxRecDepth 20000 in
theorem gX3_accepts_X3_closePartIfWhole : GoodIn wsX3_accepts (wsV RX3 47 RX3 yX3_closePartIfWhole wsX3_closePartIfWhole) := goodIn_app (goodIn_of _ (by decide +kernel)) ggX3_accepts_X3_closePartIfWhole
theorem dX3_accepts_0 : decode cX3_accepts 0 = .ok (.aload_n 0, 1) := by decide +kernel
theorem dX3_accepts_1 : decode cX3_accepts 1 = .ok (.getfield 25, 3) := by decide +kernel
theorem dX3_accepts_4 : decode cX3_accepts 4 = .ok (.ifCond .ne 23, 3) := by decide +kernel
theorem dX3_accepts_7 : decode cX3_accepts 7 = .ok (.aload_n 0, 1) := by decide +kernel
theorem dX3_accepts_8 : decode cX3_accepts 8 = .ok (.iload_n 1, 1) := by decide +kernel
theorem dX3_accepts_9 : decode cX3_accepts 9 = .ok (.bipush 69, 2) := by decide +kernel
theorem dX3_accepts_11 : decode cX3_accepts 11 = .ok (.if_icmp .ne 7, 3) := by decide +kernel
theorem dX3_accepts_14 : decode cX3_accepts 14 = .ok (.iconst 1, 1) := by decide +kernel
theorem dX3_accepts_15 : decode cX3_accepts 15 = .ok (.goto 4, 3) := by decide +kernel
theorem dX3_accepts_18 : decode cX3_accepts 18 = .ok (.iconst 0, 1) := by decide +kernel
theorem dX3_accepts_19 : decode cX3_accepts 19 = .ok (.putfield 25, 3) := by decide +kernel
theorem dX3_accepts_22 : decode cX3_accepts 22 = .ok (.aload_n 0, 1) := by decide +kernel
theorem dX3_accepts_23 : decode cX3_accepts 23 = .ok (.getfield 25, 3) := by decide +kernel
theorem dX3_accepts_26 : decode cX3_accepts 26 = .ok (.ireturn, 1) := by decide +kernel
theorem dX3_accepts_27 : decode cX3_accepts 27 = .ok (.aload_n 0, 1) := by decide +kernel
theorem dX3_accepts_28 : decode cX3_accepts 28 = .ok (.getfield 29, 3) := by decide +kernel
theorem dX3_accepts_31 : decode cX3_accepts 31 = .ok (.ifCond .ne 9, 3) := by decide +kernel
theorem dX3_accepts_34 : decode cX3_accepts 34 = .ok (.aload_n 0, 1) := by decide +kernel
theorem dX3_accepts_35 : decode cX3_accepts 35 = .ok (.iload_n 1, 1) := by decide +kernel
theorem dX3_accepts_36 : decode cX3_accepts 36 = .ok (.invokevirtual 37, 3) := by decide +kernel
theorem dX3_accepts_39 : decode cX3_accepts 39 = .ok (.ireturn, 1) := by decide +kernel
theorem dX3_accepts_40 : decode cX3_accepts 40 = .ok (.iload_n 1, 1) := by decide +kernel
theorem dX3_accepts_41 : decode cX3_accepts 41 = .ok (.bipush 48, 2) := by decide +kernel
theorem dX3_accepts_43 : decode cX3_accepts 43 = .ok (.isub, 1) := by decide +kernel
theorem dX3_accepts_44 : decode cX3_accepts 44 = .ok (.istore_n 2, 1) := by decide +kernel
theorem dX3_accepts_45 : decode cX3_accepts 45 = .ok (.iload_n 2, 1) := by decide +kernel
theorem dX3_accepts_46 : decode cX3_accepts 46 = .ok (.ifCond .lt 19, 3) := by decide +kernel
theorem dX3_accepts_49 : decode cX3_accepts 49 = .ok (.iload_n 2, 1) := by decide +kernel
theorem dX3_accepts_50 : decode cX3_accepts 50 = .ok (.aload_n 0, 1) := by decide +kernel
theorem dX3_accepts_51 : decode cX3_accepts 51 = .ok (.invokevirtual 40, 3) := by decide +kernel
theorem dX3_accepts_54 : decode cX3_accepts 54 = .ok (.if_icmp .ge 11, 3) := by decide +kernel
theorem dX3_accepts_57 : decode cX3_accepts 57 = .ok (.aload_n 0, 1) := by decide +kernel
theorem dX3_accepts_58 : decode cX3_accepts 58 = .ok (.getfield 44, 3) := by decide +kernel
theorem dX3_accepts_61 : decode cX3_accepts 61 = .ok (.iconst 3, 1) := by decide +kernel
theorem dX3_accepts_62 : decode cX3_accepts 62 = .ok (.if_icmp .lt 5, 3) := by decide +kernel
theorem dX3_accepts_65 : decode cX3_accepts 65 = .ok (.iconst 0, 1) := by decide +kernel
theorem dX3_accepts_66 : decode cX3_accepts 66 = .ok (.ireturn, 1) := by decide +kernel
theorem dX3_accepts_67 : decode cX3_accepts 67 = .ok (.aload_n 0, 1) := by decide +kernel
theorem dX3_accepts_68 : decode cX3_accepts 68 = .ok (.getfield 18, 3) := by decide +kernel
theorem dX3_accepts_71 : decode cX3_accepts 71 = .ok (.aload_n 0, 1) := by decide +kernel
theorem dX3_accepts_72 : decode cX3_accepts 72 = .ok (.getfield 44, 3) := by decide +kernel
theorem dX3_accepts_75 : decode cX3_accepts 75 = .ok (.iload_n 2, 1) := by decide +kernel
theorem dX3_accepts_76 : decode cX3_accepts 76 = .ok (.iastore, 1) := by decide +kernel
theorem dX3_accepts_77 : decode cX3_accepts 77 = .ok (.aload_n 0, 1) := by decide +kernel
theorem dX3_accepts_78 : decode cX3_accepts 78 = .ok (.dup, 1) := by decide +kernel
theorem dX3_accepts_79 : decode cX3_accepts 79 = .ok (.getfield 44, 3) := by decide +kernel
theorem dX3_accepts_82 : decode cX3_accepts 82 = .ok (.iconst 1, 1) := by decide +kernel
theorem dX3_accepts_83 : decode cX3_accepts 83 = .ok (.iadd, 1) := by decide +kernel
theorem dX3_accepts_84 : decode cX3_accepts 84 = .ok (.putfield 44, 3) := by decide +kernel
theorem dX3_accepts_87 : decode cX3_accepts 87 = .ok (.aload_n 0, 1) := by decide +kernel
theorem dX3_accepts_88 : decode cX3_accepts 88 = .ok (.invokevirtual 47, 3) := by decide +kernel
theorem dX3_accepts_91 : decode cX3_accepts 91 = .ok (.iconst 1, 1) := by decide +kernel
theorem dX3_accepts_92 : decode cX3_accepts 92 = .ok (.ireturn, 1) := by decide +kernel
theorem dX3_opensPart_0 : decode cX3_opensPart 0 = .ok (.iload_n 1, 1) := by decide +kernel
theorem dX3_opensPart_1 : decode cX3_opensPart 1 = .ok (.bipush 72, 2) := by decide +kernel
theorem dX3_opensPart_3 : decode cX3_opensPart 3 = .ok (.if_icmp .ne 14, 3) := by decide +kernel
theorem dX3_opensPart_6 : decode cX3_opensPart 6 = .ok (.aload_n 0, 1) := by decide +kernel
theorem dX3_opensPart_7 : decode cX3_opensPart 7 = .ok (.getfield 12, 3) := by decide +kernel
theorem dX3_opensPart_10 : decode cX3_opensPart 10 = .ok (.getfield 50, 3) := by decide +kernel
theorem dX3_opensPart_13 : decode cX3_opensPart 13 = .ok (.iconst 5, 1) := by decide +kernel
theorem dX3_opensPart_14 : decode cX3_opensPart 14 = .ok (.if_icmp .lt 48, 3) := by decide +kernel
theorem dX3_opensPart_17 : decode cX3_opensPart 17 = .ok (.iload_n 1, 1) := by decide +kernel
theorem dX3_opensPart_18 : decode cX3_opensPart 18 = .ok (.bipush 83, 2) := by decide +kernel
theorem dX3_opensPart_20 : decode cX3_opensPart 20 = .ok (.if_icmp .ne 25, 3) := by decide +kernel
theorem dX3_opensPart_23 : decode cX3_opensPart 23 = .ok (.aload_n 0, 1) := by decide +kernel
theorem dX3_opensPart_24 : decode cX3_opensPart 24 = .ok (.getfield 12, 3) := by decide +kernel
theorem dX3_opensPart_27 : decode cX3_opensPart 27 = .ok (.getfield 50, 3) := by decide +kernel
theorem dX3_opensPart_30 : decode cX3_opensPart 30 = .ok (.ifCond .le 15, 3) := by decide +kernel
theorem dX3_opensPart_33 : decode cX3_opensPart 33 = .ok (.aload_n 0, 1) := by decide +kernel
theorem dX3_opensPart_34 : decode cX3_opensPart 34 = .ok (.getfield 12, 3) := by decide +kernel
theorem dX3_opensPart_37 : decode cX3_opensPart 37 = .ok (.getfield 53, 3) := by decide +kernel
theorem dX3_opensPart_40 : decode cX3_opensPart 40 = .ok (.bipush 8, 2) := by decide +kernel
theorem dX3_opensPart_42 : decode cX3_opensPart 42 = .ok (.if_icmp .lt 20, 3) := by decide +kernel
theorem dX3_opensPart_45 : decode cX3_opensPart 45 = .ok (.iload_n 1, 1) := by decide +kernel
theorem dX3_opensPart_46 : decode cX3_opensPart 46 = .ok (.bipush 82, 2) := by decide +kernel
theorem dX3_opensPart_48 : decode cX3_opensPart 48 = .ok (.if_icmp .ne 18, 3) := by decide +kernel
theorem dX3_opensPart_51 : decode cX3_opensPart 51 = .ok (.aload_n 0, 1) := by decide +kernel
theorem dX3_opensPart_52 : decode cX3_opensPart 52 = .ok (.getfield 12, 3) := by decide +kernel
theorem dX3_opensPart_55 : decode cX3_opensPart 55 = .ok (.getfield 56, 3) := by decide +kernel
theorem dX3_opensPart_58 : decode cX3_opensPart 58 = .ok (.iconst 4, 1) := by decide +kernel
theorem dX3_opensPart_59 : decode cX3_opensPart 59 = .ok (.if_icmp .ge 7, 3) := by decide +kernel
theorem dX3_opensPart_62 : decode cX3_opensPart 62 = .ok (.iconst 1, 1) := by decide +kernel
theorem dX3_opensPart_63 : decode cX3_opensPart 63 = .ok (.goto 4, 3) := by decide +kernel
theorem dX3_opensPart_66 : decode cX3_opensPart 66 = .ok (.iconst 0, 1) := by decide +kernel
theorem dX3_opensPart_67 : decode cX3_opensPart 67 = .ok (.istore_n 2, 1) := by decide +kernel
theorem dX3_opensPart_68 : decode cX3_opensPart 68 = .ok (.iload_n 2, 1) := by decide +kernel
theorem dX3_opensPart_69 : decode cX3_opensPart 69 = .ok (.ifCond .eq 13, 3) := by decide +kernel
theorem dX3_opensPart_72 : decode cX3_opensPart 72 = .ok (.aload_n 0, 1) := by decide +kernel
theorem dX3_opensPart_73 : decode cX3_opensPart 73 = .ok (.iload_n 1, 1) := by decide +kernel
theorem dX3_opensPart_74 : decode cX3_opensPart 74 = .ok (.putfield 29, 3) := by decide +kernel
theorem dX3_opensPart_77 : decode cX3_opensPart 77 = .ok (.aload_n 0, 1) := by decide +kernel
theorem dX3_opensPart_78 : decode cX3_opensPart 78 = .ok (.iconst 0, 1) := by decide +kernel
theorem dX3_opensPart_79 : decode cX3_opensPart 79 = .ok (.putfield 44, 3) := by decide +kernel
theorem dX3_opensPart_82 : decode cX3_opensPart 82 = .ok (.iload_n 2, 1) := by decide +kernel
theorem dX3_opensPart_83 : decode cX3_opensPart 83 = .ok (.ireturn, 1) := by decide +kernel
theorem dX3_figureLimit_0 : decode cX3_figureLimit 0 = .ok (.aload_n 0, 1) := by decide +kernel
theorem dX3_figureLimit_1 : decode cX3_figureLimit 1 = .ok (.getfield 29, 3) := by decide +kernel
theorem dX3_figureLimit_4 : decode cX3_figureLimit 4 = .ok (.bipush 72, 2) := by decide +kernel
theorem dX3_figureLimit_6 : decode cX3_figureLimit 6 = .ok (.if_icmp .ne 12, 3) := by decide +kernel
theorem dX3_figureLimit_9 : decode cX3_figureLimit 9 = .ok (.aload_n 0, 1) := by decide +kernel
theorem dX3_figureLimit_10 : decode cX3_figureLimit 10 = .ok (.getfield 44, 3) := by decide +kernel
theorem dX3_figureLimit_13 : decode cX3_figureLimit 13 = .ok (.ifCond .ne 5, 3) := by decide +kernel
theorem dX3_figureLimit_16 : decode cX3_figureLimit 16 = .ok (.iconst 4, 1) := by decide +kernel
theorem dX3_figureLimit_17 : decode cX3_figureLimit 17 = .ok (.ireturn, 1) := by decide +kernel
theorem dX3_figureLimit_18 : decode cX3_figureLimit 18 = .ok (.aload_n 0, 1) := by decide +kernel
theorem dX3_figureLimit_19 : decode cX3_figureLimit 19 = .ok (.getfield 29, 3) := by decide +kernel
theorem dX3_figureLimit_22 : decode cX3_figureLimit 22 = .ok (.bipush 83, 2) := by decide +kernel
theorem dX3_figureLimit_24 : decode cX3_figureLimit 24 = .ok (.if_icmp .ne 18, 3) := by decide +kernel
theorem dX3_figureLimit_27 : decode cX3_figureLimit 27 = .ok (.aload_n 0, 1) := by decide +kernel
theorem dX3_figureLimit_28 : decode cX3_figureLimit 28 = .ok (.getfield 44, 3) := by decide +kernel
theorem dX3_figureLimit_31 : decode cX3_figureLimit 31 = .ok (.ifCond .ne 11, 3) := by decide +kernel
theorem dX3_figureLimit_34 : decode cX3_figureLimit 34 = .ok (.aload_n 0, 1) := by decide +kernel
theorem dX3_figureLimit_35 : decode cX3_figureLimit 35 = .ok (.getfield 12, 3) := by decide +kernel
theorem dX3_figureLimit_38 : decode cX3_figureLimit 38 = .ok (.getfield 50, 3) := by decide +kernel
theorem dX3_figureLimit_41 : decode cX3_figureLimit 41 = .ok (.ireturn, 1) := by decide +kernel
theorem dX3_figureLimit_42 : decode cX3_figureLimit 42 = .ok (.aload_n 0, 1) := by decide +kernel
theorem dX3_figureLimit_43 : decode cX3_figureLimit 43 = .ok (.getfield 29, 3) := by decide +kernel
theorem dX3_figureLimit_46 : decode cX3_figureLimit 46 = .ok (.bipush 83, 2) := by decide +kernel
theorem dX3_figureLimit_48 : decode cX3_figureLimit 48 = .ok (.if_icmp .ne 14, 3) := by decide +kernel
theorem dX3_figureLimit_51 : decode cX3_figureLimit 51 = .ok (.aload_n 0, 1) := by decide +kernel
theorem dX3_figureLimit_52 : decode cX3_figureLimit 52 = .ok (.getfield 44, 3) := by decide +kernel
theorem dX3_figureLimit_55 : decode cX3_figureLimit 55 = .ok (.iconst 1, 1) := by decide +kernel
theorem dX3_figureLimit_56 : decode cX3_figureLimit 56 = .ok (.if_icmp .ne 6, 3) := by decide +kernel
theorem dX3_figureLimit_59 : decode cX3_figureLimit 59 = .ok (.bipush 6, 2) := by decide +kernel
theorem dX3_figureLimit_61 : decode cX3_figureLimit 61 = .ok (.ireturn, 1) := by decide +kernel
theorem dX3_figureLimit_62 : decode cX3_figureLimit 62 = .ok (.bipush 10, 2) := by decide +kernel
theorem dX3_figureLimit_64 : decode cX3_figureLimit 64 = .ok (.ireturn, 1) := by decide +kernel
set_option maxRecDepth 20000 in
theorem ggX3_closePartIfWhole_X2_addHouse : GoodIn wsX3_closePartIfWhole wsX2_addHouse := goodIn_r _ [9, 10, 11, 12, 32, 33, 34, 35, 36, 37, 38, 39, 40] (by decide +kernel) (by decide +kernel)
set_option maxRecDepth 20000 in
theorem gX3_closePartIfWhole_X2_addHouse : GoodIn wsX3_closePartIfWhole (wsV RX3 59 RX2 yX2_addHouse wsX2_addHouse) := goodIn_app (goodIn_of _ (by decide +kernel)) ggX3_closePartIfWhole_X2_addHouse
set_option maxRecDepth 20000 in
theorem ggX3_closePartIfWhole_X2_addSaying : GoodIn wsX3_closePartIfWhole wsX2_addSaying := goodIn_r _ [16, 17, 18, 19, 20, 32, 33, 34, 35, 36, 37, 38, 39, 40] (by decide +kernel) (by decide +kernel)
set_option maxRecDepth 20000 in
theorem gX3_closePartIfWhole_X2_addSaying : GoodIn wsX3_closePartIfWhole (wsV RX3 63 RX2 yX2_addSaying wsX2_addSaying) := goodIn_app (goodIn_of _ (by decide +kernel)) ggX3_closePartIfWhole_X2_addSaying
set_option maxRecDepth 20000 in
theorem ggX3_closePartIfWhole_X2_addRain : GoodIn wsX3_closePartIfWhole wsX2_addRain := goodIn_r _ [24, 25, 26, 32, 33, 34, 35, 36, 37, 38, 39, 40] (by decide +kernel) (by decide +kernel)
set_option maxRecDepth 20000 in
theorem gX3_closePartIfWhole_X2_addRain : GoodIn wsX3_closePartIfWhole (wsV RX3 67 RX2 yX2_addRain wsX2_addRain) := goodIn_app (goodIn_of _ (by decide +kernel)) ggX3_closePartIfWhole_X2_addRain
theorem dX3_closePartIfWhole_0 : decode cX3_closePartIfWhole 0 = .ok (.aload_n 0, 1) := by decide +kernel
theorem dX3_closePartIfWhole_1 : decode cX3_closePartIfWhole 1 = .ok (.getfield 29, 3) := by decide +kernel
theorem dX3_closePartIfWhole_4 : decode cX3_closePartIfWhole 4 = .ok (.bipush 72, 2) := by decide +kernel
theorem dX3_closePartIfWhole_6 : decode cX3_closePartIfWhole 6 = .ok (.if_icmp .ne 38, 3) := by decide +kernel
theorem dX3_closePartIfWhole_9 : decode cX3_closePartIfWhole 9 = .ok (.aload_n 0, 1) := by decide +kernel
theorem dX3_closePartIfWhole_10 : decode cX3_closePartIfWhole 10 = .ok (.getfield 44, 3) := by decide +kernel
theorem dX3_closePartIfWhole_13 : decode cX3_closePartIfWhole 13 = .ok (.iconst 2, 1) := by decide +kernel
theorem dX3_closePartIfWhole_14 : decode cX3_closePartIfWhole 14 = .ok (.if_icmp .ne 30, 3) := by decide +kernel
theorem dX3_closePartIfWhole_17 : decode cX3_closePartIfWhole 17 = .ok (.aload_n 0, 1) := by decide +kernel
theorem dX3_closePartIfWhole_18 : decode cX3_closePartIfWhole 18 = .ok (.getfield 12, 3) := by decide +kernel
theorem dX3_closePartIfWhole_21 : decode cX3_closePartIfWhole 21 = .ok (.aload_n 0, 1) := by decide +kernel
theorem dX3_closePartIfWhole_22 : decode cX3_closePartIfWhole 22 = .ok (.getfield 18, 3) := by decide +kernel
theorem dX3_closePartIfWhole_25 : decode cX3_closePartIfWhole 25 = .ok (.iconst 0, 1) := by decide +kernel
theorem dX3_closePartIfWhole_26 : decode cX3_closePartIfWhole 26 = .ok (.iaload, 1) := by decide +kernel
theorem dX3_closePartIfWhole_27 : decode cX3_closePartIfWhole 27 = .ok (.aload_n 0, 1) := by decide +kernel
theorem dX3_closePartIfWhole_28 : decode cX3_closePartIfWhole 28 = .ok (.getfield 18, 3) := by decide +kernel
theorem dX3_closePartIfWhole_31 : decode cX3_closePartIfWhole 31 = .ok (.iconst 1, 1) := by decide +kernel
theorem dX3_closePartIfWhole_32 : decode cX3_closePartIfWhole 32 = .ok (.iaload, 1) := by decide +kernel
theorem dX3_closePartIfWhole_33 : decode cX3_closePartIfWhole 33 = .ok (.invokevirtual 59, 3) := by decide +kernel
theorem dX3_closePartIfWhole_36 : decode cX3_closePartIfWhole 36 = .ok (.aload_n 0, 1) := by decide +kernel
theorem dX3_closePartIfWhole_37 : decode cX3_closePartIfWhole 37 = .ok (.iconst 0, 1) := by decide +kernel
theorem dX3_closePartIfWhole_38 : decode cX3_closePartIfWhole 38 = .ok (.putfield 29, 3) := by decide +kernel
theorem dX3_closePartIfWhole_41 : decode cX3_closePartIfWhole 41 = .ok (.goto 88, 3) := by decide +kernel
theorem dX3_closePartIfWhole_44 : decode cX3_closePartIfWhole 44 = .ok (.aload_n 0, 1) := by decide +kernel
theorem dX3_closePartIfWhole_45 : decode cX3_closePartIfWhole 45 = .ok (.getfield 29, 3) := by decide +kernel
theorem dX3_closePartIfWhole_48 : decode cX3_closePartIfWhole 48 = .ok (.bipush 83, 2) := by decide +kernel
theorem dX3_closePartIfWhole_50 : decode cX3_closePartIfWhole 50 = .ok (.if_icmp .ne 44, 3) := by decide +kernel
theorem dX3_closePartIfWhole_53 : decode cX3_closePartIfWhole 53 = .ok (.aload_n 0, 1) := by decide +kernel
theorem dX3_closePartIfWhole_54 : decode cX3_closePartIfWhole 54 = .ok (.getfield 44, 3) := by decide +kernel
theorem dX3_closePartIfWhole_57 : decode cX3_closePartIfWhole 57 = .ok (.iconst 3, 1) := by decide +kernel
theorem dX3_closePartIfWhole_58 : decode cX3_closePartIfWhole 58 = .ok (.if_icmp .ne 36, 3) := by decide +kernel
theorem dX3_closePartIfWhole_61 : decode cX3_closePartIfWhole 61 = .ok (.aload_n 0, 1) := by decide +kernel
theorem dX3_closePartIfWhole_62 : decode cX3_closePartIfWhole 62 = .ok (.getfield 12, 3) := by decide +kernel
theorem dX3_closePartIfWhole_65 : decode cX3_closePartIfWhole 65 = .ok (.aload_n 0, 1) := by decide +kernel
theorem dX3_closePartIfWhole_66 : decode cX3_closePartIfWhole 66 = .ok (.getfield 18, 3) := by decide +kernel
theorem dX3_closePartIfWhole_69 : decode cX3_closePartIfWhole 69 = .ok (.iconst 0, 1) := by decide +kernel
theorem dX3_closePartIfWhole_70 : decode cX3_closePartIfWhole 70 = .ok (.iaload, 1) := by decide +kernel
theorem dX3_closePartIfWhole_71 : decode cX3_closePartIfWhole 71 = .ok (.aload_n 0, 1) := by decide +kernel
theorem dX3_closePartIfWhole_72 : decode cX3_closePartIfWhole 72 = .ok (.getfield 18, 3) := by decide +kernel
theorem dX3_closePartIfWhole_75 : decode cX3_closePartIfWhole 75 = .ok (.iconst 1, 1) := by decide +kernel
theorem dX3_closePartIfWhole_76 : decode cX3_closePartIfWhole 76 = .ok (.iaload, 1) := by decide +kernel
theorem dX3_closePartIfWhole_77 : decode cX3_closePartIfWhole 77 = .ok (.aload_n 0, 1) := by decide +kernel
theorem dX3_closePartIfWhole_78 : decode cX3_closePartIfWhole 78 = .ok (.getfield 18, 3) := by decide +kernel
theorem dX3_closePartIfWhole_81 : decode cX3_closePartIfWhole 81 = .ok (.iconst 2, 1) := by decide +kernel
theorem dX3_closePartIfWhole_82 : decode cX3_closePartIfWhole 82 = .ok (.iaload, 1) := by decide +kernel
theorem dX3_closePartIfWhole_83 : decode cX3_closePartIfWhole 83 = .ok (.invokevirtual 63, 3) := by decide +kernel
theorem dX3_closePartIfWhole_86 : decode cX3_closePartIfWhole 86 = .ok (.aload_n 0, 1) := by decide +kernel
theorem dX3_closePartIfWhole_87 : decode cX3_closePartIfWhole 87 = .ok (.iconst 0, 1) := by decide +kernel
theorem dX3_closePartIfWhole_88 : decode cX3_closePartIfWhole 88 = .ok (.putfield 29, 3) := by decide +kernel
theorem dX3_closePartIfWhole_91 : decode cX3_closePartIfWhole 91 = .ok (.goto 38, 3) := by decide +kernel
theorem dX3_closePartIfWhole_94 : decode cX3_closePartIfWhole 94 = .ok (.aload_n 0, 1) := by decide +kernel
theorem dX3_closePartIfWhole_95 : decode cX3_closePartIfWhole 95 = .ok (.getfield 29, 3) := by decide +kernel
theorem dX3_closePartIfWhole_98 : decode cX3_closePartIfWhole 98 = .ok (.bipush 82, 2) := by decide +kernel
theorem dX3_closePartIfWhole_100 : decode cX3_closePartIfWhole 100 = .ok (.if_icmp .ne 29, 3) := by decide +kernel
theorem dX3_closePartIfWhole_103 : decode cX3_closePartIfWhole 103 = .ok (.aload_n 0, 1) := by decide +kernel
theorem dX3_closePartIfWhole_104 : decode cX3_closePartIfWhole 104 = .ok (.getfield 44, 3) := by decide +kernel
theorem dX3_closePartIfWhole_107 : decode cX3_closePartIfWhole 107 = .ok (.iconst 1, 1) := by decide +kernel
theorem dX3_closePartIfWhole_108 : decode cX3_closePartIfWhole 108 = .ok (.if_icmp .ne 21, 3) := by decide +kernel
theorem dX3_closePartIfWhole_111 : decode cX3_closePartIfWhole 111 = .ok (.aload_n 0, 1) := by decide +kernel
theorem dX3_closePartIfWhole_112 : decode cX3_closePartIfWhole 112 = .ok (.getfield 12, 3) := by decide +kernel
theorem dX3_closePartIfWhole_115 : decode cX3_closePartIfWhole 115 = .ok (.aload_n 0, 1) := by decide +kernel
theorem dX3_closePartIfWhole_116 : decode cX3_closePartIfWhole 116 = .ok (.getfield 18, 3) := by decide +kernel
theorem dX3_closePartIfWhole_119 : decode cX3_closePartIfWhole 119 = .ok (.iconst 0, 1) := by decide +kernel
theorem dX3_closePartIfWhole_120 : decode cX3_closePartIfWhole 120 = .ok (.iaload, 1) := by decide +kernel
theorem dX3_closePartIfWhole_121 : decode cX3_closePartIfWhole 121 = .ok (.invokevirtual 67, 3) := by decide +kernel
theorem dX3_closePartIfWhole_124 : decode cX3_closePartIfWhole 124 = .ok (.aload_n 0, 1) := by decide +kernel
theorem dX3_closePartIfWhole_125 : decode cX3_closePartIfWhole 125 = .ok (.iconst 0, 1) := by decide +kernel
theorem dX3_closePartIfWhole_126 : decode cX3_closePartIfWhole 126 = .ok (.putfield 29, 3) := by decide +kernel
theorem dX3_closePartIfWhole_129 : decode cX3_closePartIfWhole 129 = .ok (.return_, 1) := by decide +kernel
theorem dX4_init_0 : decode cX4_init 0 = .ok (.aload_n 0, 1) := by decide +kernel
theorem dX4_init_1 : decode cX4_init 1 = .ok (.invokespecial 3, 3) := by decide +kernel
theorem dX4_init_4 : decode cX4_init 4 = .ok (.aload_n 0, 1) := by decide +kernel
theorem dX4_init_5 : decode cX4_init 5 = .ok (.iconst 5, 1) := by decide +kernel
theorem dX4_init_6 : decode cX4_init 6 = .ok (.newarray .int, 2) := by decide +kernel
theorem dX4_init_8 : decode cX4_init 8 = .ok (.putfield 9, 3) := by decide +kernel
theorem dX4_init_11 : decode cX4_init 11 = .ok (.aload_n 0, 1) := by decide +kernel
theorem dX4_init_12 : decode cX4_init 12 = .ok (.iconst 5, 1) := by decide +kernel
theorem dX4_init_13 : decode cX4_init 13 = .ok (.newarray .int, 2) := by decide +kernel
theorem dX4_init_15 : decode cX4_init 15 = .ok (.putfield 15, 3) := by decide +kernel
theorem dX4_init_18 : decode cX4_init 18 = .ok (.aload_n 0, 1) := by decide +kernel
theorem dX4_init_19 : decode cX4_init 19 = .ok (.iconst 5, 1) := by decide +kernel
theorem dX4_init_20 : decode cX4_init 20 = .ok (.newarray .int, 2) := by decide +kernel
theorem dX4_init_22 : decode cX4_init 22 = .ok (.putfield 18, 3) := by decide +kernel
theorem dX4_init_25 : decode cX4_init 25 = .ok (.aload_n 0, 1) := by decide +kernel
theorem dX4_init_26 : decode cX4_init 26 = .ok (.aload_n 1, 1) := by decide +kernel
theorem dX4_init_27 : decode cX4_init 27 = .ok (.putfield 21, 3) := by decide +kernel
theorem dX4_init_30 : decode cX4_init 30 = .ok (.return_, 1) := by decide +kernel
theorem dX4_begin_0 : decode cX4_begin 0 = .ok (.iconst 0, 1) := by decide +kernel
theorem dX4_begin_1 : decode cX4_begin 1 = .ok (.istore_n 1, 1) := by decide +kernel
theorem dX4_begin_2 : decode cX4_begin 2 = .ok (.iload_n 1, 1) := by decide +kernel
theorem dX4_begin_3 : decode cX4_begin 3 = .ok (.iconst 5, 1) := by decide +kernel
theorem dX4_begin_4 : decode cX4_begin 4 = .ok (.if_icmp .ge 30, 3) := by decide +kernel
theorem dX4_begin_7 : decode cX4_begin 7 = .ok (.aload_n 0, 1) := by decide +kernel
theorem dX4_begin_8 : decode cX4_begin 8 = .ok (.getfield 9, 3) := by decide +kernel
theorem dX4_begin_11 : decode cX4_begin 11 = .ok (.iload_n 1, 1) := by decide +kernel
theorem dX4_begin_12 : decode cX4_begin 12 = .ok (.iload_n 1, 1) := by decide +kernel
theorem dX4_begin_13 : decode cX4_begin 13 = .ok (.iastore, 1) := by decide +kernel
theorem dX4_begin_14 : decode cX4_begin 14 = .ok (.aload_n 0, 1) := by decide +kernel
theorem dX4_begin_15 : decode cX4_begin 15 = .ok (.getfield 15, 3) := by decide +kernel
theorem dX4_begin_18 : decode cX4_begin 18 = .ok (.iload_n 1, 1) := by decide +kernel
theorem dX4_begin_19 : decode cX4_begin 19 = .ok (.iconst 0, 1) := by decide +kernel
theorem dX4_begin_20 : decode cX4_begin 20 = .ok (.iastore, 1) := by decide +kernel
theorem dX4_begin_21 : decode cX4_begin 21 = .ok (.aload_n 0, 1) := by decide +kernel
theorem dX4_begin_22 : decode cX4_begin 22 = .ok (.getfield 18, 3) := by decide +kernel
theorem dX4_begin_25 : decode cX4_begin 25 = .ok (.iload_n 1, 1) := by decide +kernel
theorem dX4_begin_26 : decode cX4_begin 26 = .ok (.iconst 0, 1) := by decide +kernel
theorem dX4_begin_27 : decode cX4_begin 27 = .ok (.iastore, 1) := by decide +kernel
theorem dX4_begin_28 : decode cX4_begin 28 = .ok (.iinc 1 1, 3) := by decide +kernel
theorem dX4_begin_31 : decode cX4_begin 31 = .ok (.goto (-29), 3) := by decide +kernel
theorem dX4_begin_34 : decode cX4_begin 34 = .ok (.aload_n 0, 1) := by decide +kernel
theorem dX4_begin_35 : decode cX4_begin 35 = .ok (.iconst 0, 1) := by decide +kernel
theorem dX4_begin_36 : decode cX4_begin 36 = .ok (.putfield 25, 3) := by decide +kernel
theorem dX4_begin_39 : decode cX4_begin 39 = .ok (.aload_n 0, 1) := by decide +kernel
theorem dX4_begin_40 : decode cX4_begin 40 = .ok (.iconst 0, 1) := by decide +kernel
theorem dX4_begin_41 : decode cX4_begin 41 = .ok (.putfield 29, 3) := by decide +kernel
theorem dX4_begin_44 : decode cX4_begin 44 = .ok (.return_, 1) := by decide +kernel
theorem dX4_take_0 : decode cX4_take 0 = .ok (.aload_n 1, 1) := by decide +kernel
theorem dX4_take_1 : decode cX4_take 1 = .ok (.getfield 9, 3) := by decide +kernel
theorem dX4_take_4 : decode cX4_take 4 = .ok (.iconst 0, 1) := by decide +kernel
theorem dX4_take_5 : decode cX4_take 5 = .ok (.aload_n 0, 1) := by decide +kernel
theorem dX4_take_6 : decode cX4_take 6 = .ok (.getfield 9, 3) := by decide +kernel
theorem dX4_take_9 : decode cX4_take 9 = .ok (.iconst 0, 1) := by decide +kernel
theorem dX4_take_10 : decode cX4_take 10 = .ok (.iconst 5, 1) := by decide +kernel
theorem dX4_take_11 : decode cX4_take 11 = .ok (.invokestatic 32, 3) := by decide +kernel
theorem dX4_take_14 : decode cX4_take 14 = .ok (.aload_n 1, 1) := by decide +kernel
theorem dX4_take_15 : decode cX4_take 15 = .ok (.getfield 15, 3) := by decide +kernel
theorem dX4_take_18 : decode cX4_take 18 = .ok (.iconst 0, 1) := by decide +kernel
theorem dX4_take_19 : decode cX4_take 19 = .ok (.aload_n 0, 1) := by decide +kernel
theorem dX4_take_20 : decode cX4_take 20 = .ok (.getfield 15, 3) := by decide +kernel
theorem dX4_take_23 : decode cX4_take 23 = .ok (.iconst 0, 1) := by decide +kernel
theorem dX4_take_24 : decode cX4_take 24 = .ok (.iconst 5, 1) := by decide +kernel
theorem dX4_take_25 : decode cX4_take 25 = .ok (.invokestatic 32, 3) := by decide +kernel
theorem dX4_take_28 : decode cX4_take 28 = .ok (.aload_n 1, 1) := by decide +kernel
theorem dX4_take_29 : decode cX4_take 29 = .ok (.getfield 18, 3) := by decide +kernel
theorem dX4_take_32 : decode cX4_take 32 = .ok (.iconst 0, 1) := by decide +kernel
theorem dX4_take_33 : decode cX4_take 33 = .ok (.aload_n 0, 1) := by decide +kernel
theorem dX4_take_34 : decode cX4_take 34 = .ok (.getfield 18, 3) := by decide +kernel
theorem dX4_take_37 : decode cX4_take 37 = .ok (.iconst 0, 1) := by decide +kernel
theorem dX4_take_38 : decode cX4_take 38 = .ok (.iconst 5, 1) := by decide +kernel
theorem dX4_take_39 : decode cX4_take 39 = .ok (.invokestatic 32, 3) := by decide +kernel
theorem dX4_take_42 : decode cX4_take 42 = .ok (.aload_n 0, 1) := by decide +kernel
theorem dX4_take_43 : decode cX4_take 43 = .ok (.aload_n 1, 1) := by decide +kernel
theorem dX4_take_44 : decode cX4_take 44 = .ok (.getfield 25, 3) := by decide +kernel
theorem dX4_take_47 : decode cX4_take 47 = .ok (.putfield 25, 3) := by decide +kernel
theorem dX4_take_50 : decode cX4_take 50 = .ok (.aload_n 0, 1) := by decide +kernel
theorem dX4_take_51 : decode cX4_take 51 = .ok (.aload_n 1, 1) := by decide +kernel
theorem dX4_take_52 : decode cX4_take 52 = .ok (.getfield 29, 3) := by decide +kernel
theorem dX4_take_55 : decode cX4_take 55 = .ok (.putfield 29, 3) := by decide +kernel
theorem dX4_take_58 : decode cX4_take 58 = .ok (.return_, 1) := by decide +kernel
theorem dX4_kindAt_0 : decode cX4_kindAt 0 = .ok (.aload_n 0, 1) := by decide +kernel
theorem dX4_kindAt_1 : decode cX4_kindAt 1 = .ok (.getfield 21, 3) := by decide +kernel
theorem dX4_kindAt_4 : decode cX4_kindAt 4 = .ok (.getfield 38, 3) := by decide +kernel
theorem dX4_kindAt_7 : decode cX4_kindAt 7 = .ok (.aload_n 0, 1) := by decide +kernel
theorem dX4_kindAt_8 : decode cX4_kindAt 8 = .ok (.getfield 9, 3) := by decide +kernel
theorem dX4_kindAt_11 : decode cX4_kindAt 11 = .ok (.iload_n 1, 1) := by decide +kernel
theorem dX4_kindAt_12 : decode cX4_kindAt 12 = .ok (.iaload, 1) := by decide +kernel
theorem dX4_kindAt_13 : decode cX4_kindAt 13 = .ok (.iaload, 1) := by decide +kernel
theorem dX4_kindAt_14 : decode cX4_kindAt 14 = .ok (.ireturn, 1) := by decide +kernel
theorem dX4_knowsThing_0 : decode cX4_knowsThing 0 = .ok (.aload_n 0, 1) := by decide +kernel
theorem dX4_knowsThing_1 : decode cX4_knowsThing 1 = .ok (.getfield 15, 3) := by decide +kernel
theorem dX4_knowsThing_4 : decode cX4_knowsThing 4 = .ok (.iload_n 1, 1) := by decide +kernel
theorem dX4_knowsThing_5 : decode cX4_knowsThing 5 = .ok (.iaload, 1) := by decide +kernel
theorem dX4_knowsThing_6 : decode cX4_knowsThing 6 = .ok (.iload_n 2, 1) := by decide +kernel
theorem dX4_knowsThing_7 : decode cX4_knowsThing 7 = .ok (.ishr, 1) := by decide +kernel
theorem dX4_knowsThing_8 : decode cX4_knowsThing 8 = .ok (.iconst 1, 1) := by decide +kernel
theorem dX4_knowsThing_9 : decode cX4_knowsThing 9 = .ok (.iand, 1) := by decide +kernel
theorem dX4_knowsThing_10 : decode cX4_knowsThing 10 = .ok (.iconst 1, 1) := by decide +kernel
theorem dX4_knowsThing_11 : decode cX4_knowsThing 11 = .ok (.if_icmp .ne 7, 3) := by decide +kernel
theorem dX4_knowsThing_14 : decode cX4_knowsThing 14 = .ok (.iconst 1, 1) := by decide +kernel
theorem dX4_knowsThing_15 : decode cX4_knowsThing 15 = .ok (.goto 4, 3) := by decide +kernel
theorem dX4_knowsThing_18 : decode cX4_knowsThing 18 = .ok (.iconst 0, 1) := by decide +kernel
theorem dX4_knowsThing_19 : decode cX4_knowsThing 19 = .ok (.ireturn, 1) := by decide +kernel
theorem dX4_knownBy_0 : decode cX4_knownBy 0 = .ok (.iconst 0, 1) := by decide +kernel
theorem dX4_knownBy_1 : decode cX4_knownBy 1 = .ok (.istore_n 2, 1) := by decide +kernel
theorem dX4_knownBy_2 : decode cX4_knownBy 2 = .ok (.iconst 0, 1) := by decide +kernel
theorem dX4_knownBy_3 : decode cX4_knownBy 3 = .ok (.istore_n 3, 1) := by decide +kernel
theorem dX4_knownBy_4 : decode cX4_knownBy 4 = .ok (.iload_n 3, 1) := by decide +kernel
theorem dX4_knownBy_5 : decode cX4_knownBy 5 = .ok (.aload_n 0, 1) := by decide +kernel
theorem dX4_knownBy_6 : decode cX4_knownBy 6 = .ok (.getfield 21, 3) := by decide +kernel
theorem dX4_knownBy_9 : decode cX4_knownBy 9 = .ok (.getfield 43, 3) := by decide +kernel
theorem dX4_knownBy_12 : decode cX4_knownBy 12 = .ok (.if_icmp .ge 27, 3) := by decide +kernel
theorem dX4_knownBy_15 : decode cX4_knownBy 15 = .ok (.iload_n 1, 1) := by decide +kernel
theorem dX4_knownBy_16 : decode cX4_knownBy 16 = .ok (.iload_n 3, 1) := by decide +kernel
theorem dX4_knownBy_17 : decode cX4_knownBy 17 = .ok (.ishr, 1) := by decide +kernel
theorem dX4_knownBy_18 : decode cX4_knownBy 18 = .ok (.iconst 1, 1) := by decide +kernel
theorem dX4_knownBy_19 : decode cX4_knownBy 19 = .ok (.iand, 1) := by decide +kernel
theorem dX4_knownBy_20 : decode cX4_knownBy 20 = .ok (.iconst 1, 1) := by decide +kernel
theorem dX4_knownBy_21 : decode cX4_knownBy 21 = .ok (.if_icmp .ne 12, 3) := by decide +kernel
theorem dX4_knownBy_24 : decode cX4_knownBy 24 = .ok (.iload_n 2, 1) := by decide +kernel
theorem dX4_knownBy_25 : decode cX4_knownBy 25 = .ok (.aload_n 0, 1) := by decide +kernel
theorem dX4_knownBy_26 : decode cX4_knownBy 26 = .ok (.getfield 15, 3) := by decide +kernel
theorem dX4_knownBy_29 : decode cX4_knownBy 29 = .ok (.iload_n 3, 1) := by decide +kernel
theorem dX4_knownBy_30 : decode cX4_knownBy 30 = .ok (.iaload, 1) := by decide +kernel
theorem dX4_knownBy_31 : decode cX4_knownBy 31 = .ok (.ior, 1) := by decide +kernel
theorem dX4_knownBy_32 : decode cX4_knownBy 32 = .ok (.istore_n 2, 1) := by decide +kernel
theorem dX4_knownBy_33 : decode cX4_knownBy 33 = .ok (.iinc 3 1, 3) := by decide +kernel
theorem dX4_knownBy_36 : decode cX4_knownBy 36 = .ok (.goto (-32), 3) := by decide +kernel
theorem dX4_knownBy_39 : decode cX4_knownBy 39 = .ok (.iload_n 2, 1) := by decide +kernel
theorem dX4_knownBy_40 : decode cX4_knownBy 40 = .ok (.ireturn, 1) := by decide +kernel
theorem dX4_knowersOf_0 : decode cX4_knowersOf 0 = .ok (.iconst 0, 1) := by decide +kernel
theorem dX4_knowersOf_1 : decode cX4_knowersOf 1 = .ok (.istore_n 2, 1) := by decide +kernel
theorem dX4_knowersOf_2 : decode cX4_knowersOf 2 = .ok (.iconst 0, 1) := by decide +kernel
theorem dX4_knowersOf_3 : decode cX4_knowersOf 3 = .ok (.istore_n 3, 1) := by decide +kernel
theorem dX4_knowersOf_4 : decode cX4_knowersOf 4 = .ok (.iload_n 3, 1) := by decide +kernel
theorem dX4_knowersOf_5 : decode cX4_knowersOf 5 = .ok (.aload_n 0, 1) := by decide +kernel
theorem dX4_knowersOf_6 : decode cX4_knowersOf 6 = .ok (.getfield 21, 3) := by decide +kernel
theorem dX4_knowersOf_9 : decode cX4_knowersOf 9 = .ok (.getfield 43, 3) := by decide +kernel
theorem dX4_knowersOf_12 : decode cX4_knowersOf 12 = .ok (.if_icmp .ge 22, 3) := by decide +kernel
theorem dX4_knowersOf_15 : decode cX4_knowersOf 15 = .ok (.iload_n 2, 1) := by decide +kernel
theorem dX4_knowersOf_16 : decode cX4_knowersOf 16 = .ok (.aload_n 0, 1) := by decide +kernel
theorem dX4_knowersOf_17 : decode cX4_knowersOf 17 = .ok (.getfield 15, 3) := by decide +kernel
theorem dX4_knowersOf_20 : decode cX4_knowersOf 20 = .ok (.iload_n 3, 1) := by decide +kernel
theorem dX4_knowersOf_21 : decode cX4_knowersOf 21 = .ok (.iaload, 1) := by decide +kernel
theorem dX4_knowersOf_22 : decode cX4_knowersOf 22 = .ok (.iload_n 1, 1) := by decide +kernel
theorem dX4_knowersOf_23 : decode cX4_knowersOf 23 = .ok (.ishr, 1) := by decide +kernel
theorem dX4_knowersOf_24 : decode cX4_knowersOf 24 = .ok (.iconst 1, 1) := by decide +kernel
theorem dX4_knowersOf_25 : decode cX4_knowersOf 25 = .ok (.iand, 1) := by decide +kernel
theorem dX4_knowersOf_26 : decode cX4_knowersOf 26 = .ok (.iadd, 1) := by decide +kernel
theorem dX4_knowersOf_27 : decode cX4_knowersOf 27 = .ok (.istore_n 2, 1) := by decide +kernel
theorem dX4_knowersOf_28 : decode cX4_knowersOf 28 = .ok (.iinc 3 1, 3) := by decide +kernel
theorem dX4_knowersOf_31 : decode cX4_knowersOf 31 = .ok (.goto (-27), 3) := by decide +kernel
theorem dX4_knowersOf_34 : decode cX4_knowersOf 34 = .ok (.iload_n 2, 1) := by decide +kernel
theorem dX4_knowersOf_35 : decode cX4_knowersOf 35 = .ok (.ireturn, 1) := by decide +kernel
set_option maxRecDepth 20000 in
theorem ggX4_allKnown_J6_bitCount_0f7a4 : GoodIn wsX4_allKnown wsJ6_bitCount_0f7a4 := goodIn_r _ [7, 8, 9, 10] (by decide +kernel) (by decide +kernel)
set_option maxRecDepth 20000 in
theorem gX4_allKnown_J6_bitCount_0f7a4 : GoodIn wsX4_allKnown (va_wsS RX4 46 yJ6_bitCount_0f7a4 wsJ6_bitCount_0f7a4) := goodIn_app (goodIn_of _ (by decide +kernel)) ggX4_allKnown_J6_bitCount_0f7a4
theorem dX4_allKnown_0 : decode cX4_allKnown 0 = .ok (.iconst 0, 1) := by decide +kernel
theorem dX4_allKnown_1 : decode cX4_allKnown 1 = .ok (.istore_n 1, 1) := by decide +kernel
theorem dX4_allKnown_2 : decode cX4_allKnown 2 = .ok (.iconst 0, 1) := by decide +kernel
theorem dX4_allKnown_3 : decode cX4_allKnown 3 = .ok (.istore_n 2, 1) := by decide +kernel
theorem dX4_allKnown_4 : decode cX4_allKnown 4 = .ok (.iload_n 2, 1) := by decide +kernel
theorem dX4_allKnown_5 : decode cX4_allKnown 5 = .ok (.aload_n 0, 1) := by decide +kernel
theorem dX4_allKnown_6 : decode cX4_allKnown 6 = .ok (.getfield 21, 3) := by decide +kernel
theorem dX4_allKnown_9 : decode cX4_allKnown 9 = .ok (.getfield 43, 3) := by decide +kernel
theorem dX4_allKnown_12 : decode cX4_allKnown 12 = .ok (.if_icmp .ge 21, 3) := by decide +kernel
theorem dX4_allKnown_15 : decode cX4_allKnown 15 = .ok (.iload_n 1, 1) := by decide +kernel
theorem dX4_allKnown_16 : decode cX4_allKnown 16 = .ok (.aload_n 0, 1) := by decide +kernel
theorem dX4_allKnown_17 : decode cX4_allKnown 17 = .ok (.getfield 15, 3) := by decide +kernel
theorem dX4_allKnown_20 : decode cX4_allKnown 20 = .ok (.iload_n 2, 1) := by decide +kernel
theorem dX4_allKnown_21 : decode cX4_allKnown 21 = .ok (.iaload, 1) := by decide +kernel
theorem dX4_allKnown_22 : decode cX4_allKnown 22 = .ok (.invokestatic 46, 3) := by decide +kernel
theorem dX4_allKnown_25 : decode cX4_allKnown 25 = .ok (.iadd, 1) := by decide +kernel
theorem dX4_allKnown_26 : decode cX4_allKnown 26 = .ok (.istore_n 1, 1) := by decide +kernel
theorem dX4_allKnown_27 : decode cX4_allKnown 27 = .ok (.iinc 2 1, 3) := by decide +kernel
theorem dX4_allKnown_30 : decode cX4_allKnown 30 = .ok (.goto (-26), 3) := by decide +kernel
theorem dX4_allKnown_33 : decode cX4_allKnown 33 = .ok (.iload_n 1, 1) := by decide +kernel
theorem dX4_allKnown_34 : decode cX4_allKnown 34 = .ok (.ireturn, 1) := by decide +kernel
theorem dX4_areStrayed_0 : decode cX4_areStrayed 0 = .ok (.aload_n 0, 1) := by decide +kernel
theorem dX4_areStrayed_1 : decode cX4_areStrayed 1 = .ok (.getfield 25, 3) := by decide +kernel
theorem dX4_areStrayed_4 : decode cX4_areStrayed 4 = .ok (.iconst 3, 1) := by decide +kernel
theorem dX4_areStrayed_5 : decode cX4_areStrayed 5 = .ok (.if_icmp .lt 7, 3) := by decide +kernel
theorem dX4_areStrayed_8 : decode cX4_areStrayed 8 = .ok (.iconst 1, 1) := by decide +kernel
theorem dX4_areStrayed_9 : decode cX4_areStrayed 9 = .ok (.goto 4, 3) := by decide +kernel
theorem dX4_areStrayed_12 : decode cX4_areStrayed 12 = .ok (.iconst 0, 1) := by decide +kernel
theorem dX4_areStrayed_13 : decode cX4_areStrayed 13 = .ok (.ireturn, 1) := by decide +kernel
set_option maxRecDepth 20000 in
theorem ggX4_housesThatHear_X2_rainAt : GoodIn wsX4_housesThatHear wsX2_rainAt := goodIn_r _ [7, 8, 9, 46, 47, 48, 49, 50, 51, 52, 53, 54] (by decide +kernel) (by decide +kernel)
set_option maxRecDepth 20000 in
theorem gX4_housesThatHear_X2_rainAt : GoodIn wsX4_housesThatHear (wsV RX4 52 RX2 yX2_rainAt wsX2_rainAt) := goodIn_app (goodIn_of _ (by decide +kernel)) ggX4_housesThatHear_X2_rainAt
set_option maxRecDepth 20000 in
theorem ggX4_housesThatHear_X4_housesThatHearBy : GoodIn wsX4_housesThatHear wsX4_housesThatHearBy := goodIn_r _ [14, 1, 2, 15, 16, 17, 18, 19, 20, 21, 22, 23, 24, 25, 26, 27, 28, 6, 29, 30, 31, 32, 33, 13, 34, 35, 36, 37, 38, 39, 40, 41, 42, 43, 44, 45, 46, 47, 48, 49, 50, 51, 52, 53, 54] (by decide +kernel) (by decide +kernel)
set_option maxRecDepth 20000 in
theorem gX4_housesThatHear_X4_housesThatHearBy : GoodIn wsX4_housesThatHear (wsV RX4 55 RX4 yX4_housesThatHearBy wsX4_housesThatHearBy) := goodIn_app (goodIn_of _ (by decide +kernel)) ggX4_housesThatHear_X4_housesThatHearBy
theorem dX4_housesThatHear_0 : decode cX4_housesThatHear 0 = .ok (.aload_n 0, 1) := by decide +kernel
theorem dX4_housesThatHear_1 : decode cX4_housesThatHear 1 = .ok (.aload_n 0, 1) := by decide +kernel
theorem dX4_housesThatHear_2 : decode cX4_housesThatHear 2 = .ok (.getfield 21, 3) := by decide +kernel
theorem dX4_housesThatHear_5 : decode cX4_housesThatHear 5 = .ok (.aload_n 0, 1) := by decide +kernel
theorem dX4_housesThatHear_6 : decode cX4_housesThatHear 6 = .ok (.getfield 29, 3) := by decide +kernel
theorem dX4_housesThatHear_9 : decode cX4_housesThatHear 9 = .ok (.invokevirtual 52, 3) := by decide +kernel
theorem dX4_housesThatHear_12 : decode cX4_housesThatHear 12 = .ok (.invokevirtual 55, 3) := by decide +kernel
theorem dX4_housesThatHear_15 : decode cX4_housesThatHear 15 = .ok (.ireturn, 1) := by decide +kernel
set_option maxRecDepth 20000 in
theorem ggX4_housesThatHearBy_X2_sayingAt : GoodIn wsX4_housesThatHearBy wsX2_sayingAt := goodIn_r _ [18, 19, 36, 37, 38, 39, 40, 41, 42, 43, 44] (by decide +kernel) (by decide +kernel)
set_option maxRecDepth 20000 in
theorem gX4_housesThatHearBy_X2_sayingAt : GoodIn wsX4_housesThatHearBy (wsV RX4 58 RX2 yX2_sayingAt wsX2_sayingAt) := goodIn_app (goodIn_of _ (by decide +kernel)) ggX4_housesThatHearBy_X2_sayingAt
set_option maxRecDepth 20000 in
theorem ggX4_housesThatHearBy_X4_areStrayed : GoodIn wsX4_housesThatHearBy wsX4_areStrayed := goodIn_r _ [24, 25, 30, 31, 32, 33, 34, 35] (by decide +kernel) (by decide +kernel)
set_option maxRecDepth 20000 in
theorem gX4_housesThatHearBy_X4_areStrayed : GoodIn wsX4_housesThatHearBy (wsV RX4 61 RX4 yX4_areStrayed wsX4_areStrayed) := goodIn_app (goodIn_of _ (by decide +kernel)) ggX4_housesThatHearBy_X4_areStrayed
set_option maxRecDepth 20000 in
theorem ggX4_housesThatHearBy_X2_hasSaying : GoodIn wsX4_housesThatHearBy wsX2_hasSaying := goodIn_r _ [29, 19, 36, 37, 38, 39, 40, 41, 42, 43, 44] (by decide +kernel) (by decide +kernel)
set_option maxRecDepth 20000 in
theorem gX4_housesThatHearBy_X2_hasSaying : GoodIn wsX4_housesThatHearBy (wsV RX4 65 RX2 yX2_hasSaying wsX2_hasSaying) := goodIn_app (goodIn_of _ (by decide +kernel)) ggX4_housesThatHearBy_X2_hasSaying
theorem dX4_housesThatHearBy_0 : decode cX4_housesThatHearBy 0 = .ok (.aload_n 0, 1) := by decide +kernel
theorem dX4_housesThatHearBy_1 : decode cX4_housesThatHearBy 1 = .ok (.getfield 21, 3) := by decide +kernel
theorem dX4_housesThatHearBy_4 : decode cX4_housesThatHearBy 4 = .ok (.aload_n 0, 1) := by decide +kernel
theorem dX4_housesThatHearBy_5 : decode cX4_housesThatHearBy 5 = .ok (.getfield 29, 3) := by decide +kernel
theorem dX4_housesThatHearBy_8 : decode cX4_housesThatHearBy 8 = .ok (.invokevirtual 58, 3) := by decide +kernel
theorem dX4_housesThatHearBy_11 : decode cX4_housesThatHearBy 11 = .ok (.istore_n 2, 1) := by decide +kernel
theorem dX4_housesThatHearBy_12 : decode cX4_housesThatHearBy 12 = .ok (.aload_n 0, 1) := by decide +kernel
theorem dX4_housesThatHearBy_13 : decode cX4_housesThatHearBy 13 = .ok (.invokevirtual 61, 3) := by decide +kernel
theorem dX4_housesThatHearBy_16 : decode cX4_housesThatHearBy 16 = .ok (.ifCond .ne 14, 3) := by decide +kernel
theorem dX4_housesThatHearBy_19 : decode cX4_housesThatHearBy 19 = .ok (.aload_n 0, 1) := by decide +kernel
theorem dX4_housesThatHearBy_20 : decode cX4_housesThatHearBy 20 = .ok (.getfield 21, 3) := by decide +kernel
theorem dX4_housesThatHearBy_23 : decode cX4_housesThatHearBy 23 = .ok (.iload_n 2, 1) := by decide +kernel
theorem dX4_housesThatHearBy_24 : decode cX4_housesThatHearBy 24 = .ok (.invokevirtual 65, 3) := by decide +kernel
theorem dX4_housesThatHearBy_27 : decode cX4_housesThatHearBy 27 = .ok (.ifCond .ne 5, 3) := by decide +kernel
theorem dX4_housesThatHearBy_30 : decode cX4_housesThatHearBy 30 = .ok (.iconst 0, 1) := by decide +kernel
theorem dX4_housesThatHearBy_31 : decode cX4_housesThatHearBy 31 = .ok (.ireturn, 1) := by decide +kernel
theorem dX4_housesThatHearBy_32 : decode cX4_housesThatHearBy 32 = .ok (.aload_n 0, 1) := by decide +kernel
theorem dX4_housesThatHearBy_33 : decode cX4_housesThatHearBy 33 = .ok (.getfield 21, 3) := by decide +kernel
theorem dX4_housesThatHearBy_36 : decode cX4_housesThatHearBy 36 = .ok (.getfield 69, 3) := by decide +kernel
theorem dX4_housesThatHearBy_39 : decode cX4_housesThatHearBy 39 = .ok (.iload_n 2, 1) := by decide +kernel
theorem dX4_housesThatHearBy_40 : decode cX4_housesThatHearBy 40 = .ok (.iaload, 1) := by decide +kernel
theorem dX4_housesThatHearBy_41 : decode cX4_housesThatHearBy 41 = .ok (.istore_n 3, 1) := by decide +kernel
theorem dX4_housesThatHearBy_42 : decode cX4_housesThatHearBy 42 = .ok (.aload_n 0, 1) := by decide +kernel
theorem dX4_housesThatHearBy_43 : decode cX4_housesThatHearBy 43 = .ok (.getfield 21, 3) := by decide +kernel
theorem dX4_housesThatHearBy_46 : decode cX4_housesThatHearBy 46 = .ok (.getfield 72, 3) := by decide +kernel
theorem dX4_housesThatHearBy_49 : decode cX4_housesThatHearBy 49 = .ok (.iload_n 2, 1) := by decide +kernel
theorem dX4_housesThatHearBy_50 : decode cX4_housesThatHearBy 50 = .ok (.iaload, 1) := by decide +kernel
theorem dX4_housesThatHearBy_51 : decode cX4_housesThatHearBy 51 = .ok (.aload_n 0, 1) := by decide +kernel
theorem dX4_housesThatHearBy_52 : decode cX4_housesThatHearBy 52 = .ok (.getfield 18, 3) := by decide +kernel
theorem dX4_housesThatHearBy_55 : decode cX4_housesThatHearBy 55 = .ok (.iload_n 3, 1) := by decide +kernel
theorem dX4_housesThatHearBy_56 : decode cX4_housesThatHearBy 56 = .ok (.iaload, 1) := by decide +kernel
theorem dX4_housesThatHearBy_57 : decode cX4_housesThatHearBy 57 = .ok (.iadd, 1) := by decide +kernel
theorem dX4_housesThatHearBy_58 : decode cX4_housesThatHearBy 58 = .ok (.aload_n 0, 1) := by decide +kernel
theorem dX4_housesThatHearBy_59 : decode cX4_housesThatHearBy 59 = .ok (.getfield 21, 3) := by decide +kernel
theorem dX4_housesThatHearBy_62 : decode cX4_housesThatHearBy 62 = .ok (.getfield 75, 3) := by decide +kernel
theorem dX4_housesThatHearBy_65 : decode cX4_housesThatHearBy 65 = .ok (.iload_n 3, 1) := by decide +kernel
theorem dX4_housesThatHearBy_66 : decode cX4_housesThatHearBy 66 = .ok (.iaload, 1) := by decide +kernel
theorem dX4_housesThatHearBy_67 : decode cX4_housesThatHearBy 67 = .ok (.isub, 1) := by decide +kernel
theorem dX4_housesThatHearBy_68 : decode cX4_housesThatHearBy 68 = .ok (.iload_n 1, 1) := by decide +kernel
theorem dX4_housesThatHearBy_69 : decode cX4_housesThatHearBy 69 = .ok (.isub, 1) := by decide +kernel
theorem dX4_housesThatHearBy_70 : decode cX4_housesThatHearBy 70 = .ok (.istore 4, 2) := by decide +kernel
theorem dX4_housesThatHearBy_72 : decode cX4_housesThatHearBy 72 = .ok (.iconst 0, 1) := by decide +kernel
theorem dX4_housesThatHearBy_73 : decode cX4_housesThatHearBy 73 = .ok (.istore 5, 2) := by decide +kernel
theorem dX4_housesThatHearBy_75 : decode cX4_housesThatHearBy 75 = .ok (.iconst 0, 1) := by decide +kernel
theorem dX4_housesThatHearBy_76 : decode cX4_housesThatHearBy 76 = .ok (.istore 6, 2) := by decide +kernel
theorem dX4_housesThatHearBy_78 : decode cX4_housesThatHearBy 78 = .ok (.iload 6, 2) := by decide +kernel
theorem dX4_housesThatHearBy_80 : decode cX4_housesThatHearBy 80 = .ok (.aload_n 0, 1) := by decide +kernel
theorem dX4_housesThatHearBy_81 : decode cX4_housesThatHearBy 81 = .ok (.getfield 21, 3) := by decide +kernel
theorem dX4_housesThatHearBy_84 : decode cX4_housesThatHearBy 84 = .ok (.getfield 43, 3) := by decide +kernel
theorem dX4_housesThatHearBy_87 : decode cX4_housesThatHearBy 87 = .ok (.if_icmp .ge 83, 3) := by decide +kernel
theorem dX4_housesThatHearBy_90 : decode cX4_housesThatHearBy 90 = .ok (.aload_n 0, 1) := by decide +kernel
theorem dX4_housesThatHearBy_91 : decode cX4_housesThatHearBy 91 = .ok (.getfield 21, 3) := by decide +kernel
theorem dX4_housesThatHearBy_94 : decode cX4_housesThatHearBy 94 = .ok (.getfield 38, 3) := by decide +kernel
theorem dX4_housesThatHearBy_97 : decode cX4_housesThatHearBy 97 = .ok (.aload_n 0, 1) := by decide +kernel
theorem dX4_housesThatHearBy_98 : decode cX4_housesThatHearBy 98 = .ok (.getfield 9, 3) := by decide +kernel
theorem dX4_housesThatHearBy_101 : decode cX4_housesThatHearBy 101 = .ok (.iload 6, 2) := by decide +kernel
theorem dX4_housesThatHearBy_103 : decode cX4_housesThatHearBy 103 = .ok (.iaload, 1) := by decide +kernel
theorem dX4_housesThatHearBy_104 : decode cX4_housesThatHearBy 104 = .ok (.iaload, 1) := by decide +kernel
theorem dX4_housesThatHearBy_105 : decode cX4_housesThatHearBy 105 = .ok (.istore 7, 2) := by decide +kernel
theorem dX4_housesThatHearBy_107 : decode cX4_housesThatHearBy 107 = .ok (.iload 6, 2) := by decide +kernel
theorem dX4_housesThatHearBy_109 : decode cX4_housesThatHearBy 109 = .ok (.iload_n 3, 1) := by decide +kernel
theorem dX4_housesThatHearBy_110 : decode cX4_housesThatHearBy 110 = .ok (.isub, 1) := by decide +kernel
theorem dX4_housesThatHearBy_111 : decode cX4_housesThatHearBy 111 = .ok (.invokestatic 78, 3) := by decide +kernel
theorem dX4_housesThatHearBy_114 : decode cX4_housesThatHearBy 114 = .ok (.istore 8, 2) := by decide +kernel
theorem dX4_housesThatHearBy_116 : decode cX4_housesThatHearBy 116 = .ok (.iload 7, 2) := by decide +kernel
theorem dX4_housesThatHearBy_118 : decode cX4_housesThatHearBy 118 = .ok (.iconst 3, 1) := by decide +kernel
theorem dX4_housesThatHearBy_119 : decode cX4_housesThatHearBy 119 = .ok (.if_icmp .ne 12, 3) := by decide +kernel
theorem dX4_housesThatHearBy_122 : decode cX4_housesThatHearBy 122 = .ok (.iload 8, 2) := by decide +kernel
theorem dX4_housesThatHearBy_124 : decode cX4_housesThatHearBy 124 = .ok (.ifCond .ne 7, 3) := by decide +kernel
theorem dX4_housesThatHearBy_127 : decode cX4_housesThatHearBy 127 = .ok (.iconst 1, 1) := by decide +kernel
theorem dX4_housesThatHearBy_128 : decode cX4_housesThatHearBy 128 = .ok (.goto 4, 3) := by decide +kernel
theorem dX4_housesThatHearBy_131 : decode cX4_housesThatHearBy 131 = .ok (.iconst 0, 1) := by decide +kernel
theorem dX4_housesThatHearBy_132 : decode cX4_housesThatHearBy 132 = .ok (.istore 9, 2) := by decide +kernel
theorem dX4_housesThatHearBy_134 : decode cX4_housesThatHearBy 134 = .ok (.iload 9, 2) := by decide +kernel
theorem dX4_housesThatHearBy_136 : decode cX4_housesThatHearBy 136 = .ok (.ifCond .ne 19, 3) := by decide +kernel
theorem dX4_housesThatHearBy_139 : decode cX4_housesThatHearBy 139 = .ok (.iload 4, 2) := by decide +kernel
theorem dX4_housesThatHearBy_141 : decode cX4_housesThatHearBy 141 = .ok (.getstatic 83, 3) := by decide +kernel
theorem dX4_housesThatHearBy_144 : decode cX4_housesThatHearBy 144 = .ok (.iload 7, 2) := by decide +kernel
theorem dX4_housesThatHearBy_146 : decode cX4_housesThatHearBy 146 = .ok (.iaload, 1) := by decide +kernel
theorem dX4_housesThatHearBy_147 : decode cX4_housesThatHearBy 147 = .ok (.iadd, 1) := by decide +kernel
theorem dX4_housesThatHearBy_148 : decode cX4_housesThatHearBy 148 = .ok (.iconst 2, 1) := by decide +kernel
theorem dX4_housesThatHearBy_149 : decode cX4_housesThatHearBy 149 = .ok (.iload 8, 2) := by decide +kernel
theorem dX4_housesThatHearBy_151 : decode cX4_housesThatHearBy 151 = .ok (.imul, 1) := by decide +kernel
theorem dX4_housesThatHearBy_152 : decode cX4_housesThatHearBy 152 = .ok (.if_icmp .le 12, 3) := by decide +kernel
theorem dX4_housesThatHearBy_155 : decode cX4_housesThatHearBy 155 = .ok (.iload 5, 2) := by decide +kernel
theorem dX4_housesThatHearBy_157 : decode cX4_housesThatHearBy 157 = .ok (.iconst 1, 1) := by decide +kernel
theorem dX4_housesThatHearBy_158 : decode cX4_housesThatHearBy 158 = .ok (.iload 6, 2) := by decide +kernel
theorem dX4_housesThatHearBy_160 : decode cX4_housesThatHearBy 160 = .ok (.ishl, 1) := by decide +kernel
theorem dX4_housesThatHearBy_161 : decode cX4_housesThatHearBy 161 = .ok (.ior, 1) := by decide +kernel
theorem dX4_housesThatHearBy_162 : decode cX4_housesThatHearBy 162 = .ok (.istore 5, 2) := by decide +kernel
theorem dX4_housesThatHearBy_164 : decode cX4_housesThatHearBy 164 = .ok (.iinc 6 1, 3) := by decide +kernel
theorem dX4_housesThatHearBy_167 : decode cX4_housesThatHearBy 167 = .ok (.goto (-89), 3) := by decide +kernel
theorem dX4_housesThatHearBy_170 : decode cX4_housesThatHearBy 170 = .ok (.iload 5, 2) := by decide +kernel
theorem dX4_housesThatHearBy_172 : decode cX4_housesThatHearBy 172 = .ok (.ireturn, 1) := by decide +kernel
set_option maxRecDepth 20000 in
theorem ggX4_passHours_X2_rainAt : GoodIn wsX4_passHours wsX2_rainAt := goodIn_r _ [7, 8, 9, 75, 76, 77, 78, 79, 80, 81, 82, 83] (by decide +kernel) (by decide +kernel)
set_option maxRecDepth 20000 in
theorem gX4_passHours_X2_rainAt : GoodIn wsX4_passHours (wsV RX4 52 RX2 yX2_rainAt wsX2_rainAt) := goodIn_app (goodIn_of _ (by decide +kernel)) ggX4_passHours_X2_rainAt
set_option maxRecDepth 20000 in
theorem ggX4_passHours_X4_passHourBy : GoodIn wsX4_passHours wsX4_passHourBy := goodIn_r _ [14, 1, 2, 15, 16, 17, 18, 19, 20, 21, 22, 23, 6, 24, 25, 26, 27, 28, 29, 30, 31, 32, 13, 33, 34, 35, 36, 37, 38, 39, 40, 41, 42, 43, 44, 45, 46, 47, 48, 49, 50, 51, 52, 53, 54, 55, 56, 57, 58, 59, 60, 61, 62, 63, 64, 65, 66, 67, 68, 69, 70, 71, 72, 73, 74, 75, 76, 77, 78, 79, 80, 81, 82, 83] (by decide +kernel) (by decide +kernel)
set_option maxRecDepth 20000 in
theorem gX4_passHours_X4_passHourBy : GoodIn wsX4_passHours (wsV RX4 86 RX4 yX4_passHourBy wsX4_passHourBy) := goodIn_app (goodIn_of _ (by decide +kernel)) ggX4_passHours_X4_passHourBy
theorem dX4_passHours_0 : decode cX4_passHours 0 = .ok (.iconst 0, 1) := by decide +kernel
theorem dX4_passHours_1 : decode cX4_passHours 1 = .ok (.istore_n 2, 1) := by decide +kernel
theorem dX4_passHours_2 : decode cX4_passHours 2 = .ok (.iload_n 2, 1) := by decide +kernel
theorem dX4_passHours_3 : decode cX4_passHours 3 = .ok (.iload_n 1, 1) := by decide +kernel
theorem dX4_passHours_4 : decode cX4_passHours 4 = .ok (.if_icmp .ge 25, 3) := by decide +kernel
theorem dX4_passHours_7 : decode cX4_passHours 7 = .ok (.aload_n 0, 1) := by decide +kernel
theorem dX4_passHours_8 : decode cX4_passHours 8 = .ok (.aload_n 0, 1) := by decide +kernel
theorem dX4_passHours_9 : decode cX4_passHours 9 = .ok (.getfield 21, 3) := by decide +kernel
theorem dX4_passHours_12 : decode cX4_passHours 12 = .ok (.aload_n 0, 1) := by decide +kernel
theorem dX4_passHours_13 : decode cX4_passHours 13 = .ok (.getfield 29, 3) := by decide +kernel
theorem dX4_passHours_16 : decode cX4_passHours 16 = .ok (.invokevirtual 52, 3) := by decide +kernel
theorem dX4_passHours_19 : decode cX4_passHours 19 = .ok (.invokevirtual 86, 3) := by decide +kernel
theorem dX4_passHours_22 : decode cX4_passHours 22 = .ok (.pop, 1) := by decide +kernel
theorem dX4_passHours_23 : decode cX4_passHours 23 = .ok (.iinc 2 1, 3) := by decide +kernel
theorem dX4_passHours_26 : decode cX4_passHours 26 = .ok (.goto (-24), 3) := by decide +kernel
theorem dX4_passHours_29 : decode cX4_passHours 29 = .ok (.return_, 1) := by decide +kernel
set_option maxRecDepth 20000 in
theorem ggX4_passHour_X2_rainAt : GoodIn wsX4_passHour wsX2_rainAt := goodIn_r _ [7, 8, 9, 75, 76, 77, 78, 79, 80, 81, 82, 83] (by decide +kernel) (by decide +kernel)
set_option maxRecDepth 20000 in
theorem gX4_passHour_X2_rainAt : GoodIn wsX4_passHour (wsV RX4 52 RX2 yX2_rainAt wsX2_rainAt) := goodIn_app (goodIn_of _ (by decide +kernel)) ggX4_passHour_X2_rainAt
set_option maxRecDepth 20000 in
theorem ggX4_passHour_X4_passHourBy : GoodIn wsX4_passHour wsX4_passHourBy := goodIn_r _ [14, 1, 2, 15, 16, 17, 18, 19, 20, 21, 22, 23, 6, 24, 25, 26, 27, 28, 29, 30, 31, 32, 13, 33, 34, 35, 36, 37, 38, 39, 40, 41, 42, 43, 44, 45, 46, 47, 48, 49, 50, 51, 52, 53, 54, 55, 56, 57, 58, 59, 60, 61, 62, 63, 64, 65, 66, 67, 68, 69, 70, 71, 72, 73, 74, 75, 76, 77, 78, 79, 80, 81, 82, 83] (by decide +kernel) (by decide +kernel)
set_option maxRecDepth 20000 in
theorem gX4_passHour_X4_passHourBy : GoodIn wsX4_passHour (wsV RX4 86 RX4 yX4_passHourBy wsX4_passHourBy) := goodIn_app (goodIn_of _ (by decide +kernel)) ggX4_passHour_X4_passHourBy
theorem dX4_passHour_0 : decode cX4_passHour 0 = .ok (.aload_n 0, 1) := by decide +kernel
theorem dX4_passHour_1 : decode cX4_passHour 1 = .ok (.aload_n 0, 1) := by decide +kernel
theorem dX4_passHour_2 : decode cX4_passHour 2 = .ok (.getfield 21, 3) := by decide +kernel
theorem dX4_passHour_5 : decode cX4_passHour 5 = .ok (.aload_n 0, 1) := by decide +kernel
theorem dX4_passHour_6 : decode cX4_passHour 6 = .ok (.getfield 29, 3) := by decide +kernel
theorem dX4_passHour_9 : decode cX4_passHour 9 = .ok (.invokevirtual 52, 3) := by decide +kernel
theorem dX4_passHour_12 : decode cX4_passHour 12 = .ok (.invokevirtual 86, 3) := by decide +kernel
theorem dX4_passHour_15 : decode cX4_passHour 15 = .ok (.ireturn, 1) := by decide +kernel
set_option maxRecDepth 20000 in
theorem ggX4_passHourBy_X2_sayingAt : GoodIn wsX4_passHourBy wsX2_sayingAt := goodIn_r _ [13, 14, 65, 66, 67, 68, 69, 70, 71, 72, 73] (by decide +kernel) (by decide +kernel)
set_option maxRecDepth 20000 in
theorem gX4_passHourBy_X2_sayingAt : GoodIn wsX4_passHourBy (wsV RX4 58 RX2 yX2_sayingAt wsX2_sayingAt) := goodIn_app (goodIn_of _ (by decide +kernel)) ggX4_passHourBy_X2_sayingAt
set_option maxRecDepth 20000 in
theorem ggX4_passHourBy_X2_hasSaying : GoodIn wsX4_passHourBy wsX2_hasSaying := goodIn_r _ [18, 14, 65, 66, 67, 68, 69, 70, 71, 72, 73] (by decide +kernel) (by decide +kernel)
set_option maxRecDepth 20000 in
theorem gX4_passHourBy_X2_hasSaying : GoodIn wsX4_passHourBy (wsV RX4 65 RX2 yX2_hasSaying wsX2_hasSaying) := goodIn_app (goodIn_of _ (by decide +kernel)) ggX4_passHourBy_X2_hasSaying
set_option maxRecDepth 20000 in
theorem ggX4_passHourBy_X4_housesThatHearBy : GoodIn wsX4_passHourBy wsX4_housesThatHearBy := goodIn_r _ [23, 1, 2, 24, 25, 26, 27, 28, 29, 30, 31, 32, 7, 33, 9, 10, 11, 12, 13, 14, 34, 35, 36, 22, 37, 4, 15, 16, 17, 18, 59, 60, 61, 62, 63, 64, 65, 66, 67, 68, 69, 70, 71, 72, 73] (by decide +kernel) (by decide +kernel)
set_option maxRecDepth 20000 in
theorem gX4_passHourBy_X4_housesThatHearBy : GoodIn wsX4_passHourBy (wsV RX4 55 RX4 yX4_housesThatHearBy wsX4_housesThatHearBy) := goodIn_app (goodIn_of _ (by decide +kernel)) ggX4_passHourBy_X4_housesThatHearBy
set_option maxRecDepth 20000 in
theorem ggX4_passHourBy_X4_tellAt : GoodIn wsX4_passHourBy wsX4_tellAt := goodIn_r _ [41, 1, 28, 42, 59, 60, 61, 62, 63, 64, 65, 66, 67, 68, 69, 70, 71, 72, 73] (by decide +kernel) (by decide +kernel)
set_option maxRecDepth 20000 in
theorem gX4_passHourBy_X4_tellAt : GoodIn wsX4_passHourBy (wsV RX4 92 RX4 yX4_tellAt wsX4_tellAt) := goodIn_app (goodIn_of _ (by decide +kernel)) ggX4_passHourBy_X4_tellAt
set_option maxRecDepth 20000 in
theorem ggX4_passHourBy_X4_areStrayed : GoodIn wsX4_passHourBy wsX4_areStrayed := goodIn_r _ [37, 4, 59, 60, 61, 62, 63, 64] (by decide +kernel) (by decide +kernel)
set_option maxRecDepth 20000 in
theorem gX4_passHourBy_X4_areStrayed : GoodIn wsX4_passHourBy (wsV RX4 61 RX4 yX4_areStrayed wsX4_areStrayed) := goodIn_app (goodIn_of _ (by decide +kernel)) ggX4_passHourBy_X4_areStrayed
set_option maxRecDepth 20000 in
theorem ggX4_passHourBy_X2_allHouses : GoodIn wsX4_passHourBy wsX2_allHouses := goodIn_r _ [46, 47, 65, 66, 67, 68, 69, 70, 71, 72, 73] (by decide +kernel) (by decide +kernel)
set_option maxRecDepth 20000 in
theorem gX4_passHourBy_X2_allHouses : GoodIn wsX4_passHourBy (wsV RX4 99 RX2 yX2_allHouses wsX2_allHouses) := goodIn_app (goodIn_of _ (by decide +kernel)) ggX4_passHourBy_X2_allHouses
set_option maxRecDepth 20000 in
theorem ggX4_passHourBy_X4_knownBy : GoodIn wsX4_passHourBy wsX4_knownBy := goodIn_r _ [51, 1, 28, 42, 59, 60, 61, 62, 63, 64, 65, 66, 67, 68, 69, 70, 71, 72, 73] (by decide +kernel) (by decide +kernel)
set_option maxRecDepth 20000 in
theorem gX4_passHourBy_X4_knownBy : GoodIn wsX4_passHourBy (wsV RX4 103 RX4 yX4_knownBy wsX4_knownBy) := goodIn_app (goodIn_of _ (by decide +kernel)) ggX4_passHourBy_X4_knownBy
set_option maxRecDepth 20000 in
theorem ggX4_passHourBy_J6_bitCount_0f7a4 : GoodIn wsX4_passHourBy wsJ6_bitCount_0f7a4 := goodIn_r _ [55, 56, 57, 58] (by decide +kernel) (by decide +kernel)
set_option maxRecDepth 20000 in
theorem gX4_passHourBy_J6_bitCount_0f7a4 : GoodIn wsX4_passHourBy (va_wsS RX4 46 yJ6_bitCount_0f7a4 wsJ6_bitCount_0f7a4) := goodIn_app (goodIn_of _ (by decide +kernel)) ggX4_passHourBy_J6_bitCount_0f7a4
theorem dX4_passHourBy_0 : decode cX4_passHourBy 0 = .ok (.aload_n 0, 1) := by decide +kernel
theorem dX4_passHourBy_1 : decode cX4_passHourBy 1 = .ok (.getfield 21, 3) := by decide +kernel
theorem dX4_passHourBy_4 : decode cX4_passHourBy 4 = .ok (.aload_n 0, 1) := by decide +kernel
theorem dX4_passHourBy_5 : decode cX4_passHourBy 5 = .ok (.getfield 29, 3) := by decide +kernel
theorem dX4_passHourBy_8 : decode cX4_passHourBy 8 = .ok (.invokevirtual 58, 3) := by decide +kernel
theorem dX4_passHourBy_11 : decode cX4_passHourBy 11 = .ok (.istore_n 2, 1) := by decide +kernel
theorem dX4_passHourBy_12 : decode cX4_passHourBy 12 = .ok (.iconst 0, 1) := by decide +kernel
theorem dX4_passHourBy_13 : decode cX4_passHourBy 13 = .ok (.istore_n 3, 1) := by decide +kernel
theorem dX4_passHourBy_14 : decode cX4_passHourBy 14 = .ok (.aload_n 0, 1) := by decide +kernel
theorem dX4_passHourBy_15 : decode cX4_passHourBy 15 = .ok (.getfield 21, 3) := by decide +kernel
theorem dX4_passHourBy_18 : decode cX4_passHourBy 18 = .ok (.iload_n 2, 1) := by decide +kernel
theorem dX4_passHourBy_19 : decode cX4_passHourBy 19 = .ok (.invokevirtual 65, 3) := by decide +kernel
theorem dX4_passHourBy_22 : decode cX4_passHourBy 22 = .ok (.ifCond .eq 24, 3) := by decide +kernel
theorem dX4_passHourBy_25 : decode cX4_passHourBy 25 = .ok (.aload_n 0, 1) := by decide +kernel
theorem dX4_passHourBy_26 : decode cX4_passHourBy 26 = .ok (.aload_n 0, 1) := by decide +kernel
theorem dX4_passHourBy_27 : decode cX4_passHourBy 27 = .ok (.iload_n 1, 1) := by decide +kernel
theorem dX4_passHourBy_28 : decode cX4_passHourBy 28 = .ok (.invokevirtual 55, 3) := by decide +kernel
theorem dX4_passHourBy_31 : decode cX4_passHourBy 31 = .ok (.iconst 1, 1) := by decide +kernel
theorem dX4_passHourBy_32 : decode cX4_passHourBy 32 = .ok (.aload_n 0, 1) := by decide +kernel
theorem dX4_passHourBy_33 : decode cX4_passHourBy 33 = .ok (.getfield 21, 3) := by decide +kernel
theorem dX4_passHourBy_36 : decode cX4_passHourBy 36 = .ok (.getfield 89, 3) := by decide +kernel
theorem dX4_passHourBy_39 : decode cX4_passHourBy 39 = .ok (.iload_n 2, 1) := by decide +kernel
theorem dX4_passHourBy_40 : decode cX4_passHourBy 40 = .ok (.iaload, 1) := by decide +kernel
theorem dX4_passHourBy_41 : decode cX4_passHourBy 41 = .ok (.ishl, 1) := by decide +kernel
theorem dX4_passHourBy_42 : decode cX4_passHourBy 42 = .ok (.invokevirtual 92, 3) := by decide +kernel
theorem dX4_passHourBy_45 : decode cX4_passHourBy 45 = .ok (.istore_n 3, 1) := by decide +kernel
theorem dX4_passHourBy_46 : decode cX4_passHourBy 46 = .ok (.aload_n 0, 1) := by decide +kernel
theorem dX4_passHourBy_47 : decode cX4_passHourBy 47 = .ok (.iload_n 1, 1) := by decide +kernel
theorem dX4_passHourBy_48 : decode cX4_passHourBy 48 = .ok (.ifCond .ne 17, 3) := by decide +kernel
theorem dX4_passHourBy_51 : decode cX4_passHourBy 51 = .ok (.aload_n 0, 1) := by decide +kernel
theorem dX4_passHourBy_52 : decode cX4_passHourBy 52 = .ok (.getfield 25, 3) := by decide +kernel
theorem dX4_passHourBy_55 : decode cX4_passHourBy 55 = .ok (.iconst 1, 1) := by decide +kernel
theorem dX4_passHourBy_56 : decode cX4_passHourBy 56 = .ok (.iadd, 1) := by decide +kernel
theorem dX4_passHourBy_57 : decode cX4_passHourBy 57 = .ok (.bipush 9, 2) := by decide +kernel
theorem dX4_passHourBy_59 : decode cX4_passHourBy 59 = .ok (.invokestatic 96, 3) := by decide +kernel
theorem dX4_passHourBy_62 : decode cX4_passHourBy 62 = .ok (.goto 4, 3) := by decide +kernel
theorem dX4_passHourBy_65 : decode cX4_passHourBy 65 = .ok (.iconst 0, 1) := by decide +kernel
theorem dX4_passHourBy_66 : decode cX4_passHourBy 66 = .ok (.putfield 25, 3) := by decide +kernel
theorem dX4_passHourBy_69 : decode cX4_passHourBy 69 = .ok (.aload_n 0, 1) := by decide +kernel
theorem dX4_passHourBy_70 : decode cX4_passHourBy 70 = .ok (.invokevirtual 61, 3) := by decide +kernel
theorem dX4_passHourBy_73 : decode cX4_passHourBy 73 = .ok (.ifCond .eq 27, 3) := by decide +kernel
theorem dX4_passHourBy_76 : decode cX4_passHourBy 76 = .ok (.aload_n 0, 1) := by decide +kernel
theorem dX4_passHourBy_77 : decode cX4_passHourBy 77 = .ok (.getfield 21, 3) := by decide +kernel
theorem dX4_passHourBy_80 : decode cX4_passHourBy 80 = .ok (.invokevirtual 99, 3) := by decide +kernel
theorem dX4_passHourBy_83 : decode cX4_passHourBy 83 = .ok (.istore 4, 2) := by decide +kernel
theorem dX4_passHourBy_85 : decode cX4_passHourBy 85 = .ok (.iload_n 3, 1) := by decide +kernel
theorem dX4_passHourBy_86 : decode cX4_passHourBy 86 = .ok (.aload_n 0, 1) := by decide +kernel
theorem dX4_passHourBy_87 : decode cX4_passHourBy 87 = .ok (.iload 4, 2) := by decide +kernel
theorem dX4_passHourBy_89 : decode cX4_passHourBy 89 = .ok (.aload_n 0, 1) := by decide +kernel
theorem dX4_passHourBy_90 : decode cX4_passHourBy 90 = .ok (.iload 4, 2) := by decide +kernel
theorem dX4_passHourBy_92 : decode cX4_passHourBy 92 = .ok (.invokevirtual 103, 3) := by decide +kernel
theorem dX4_passHourBy_95 : decode cX4_passHourBy 95 = .ok (.invokevirtual 92, 3) := by decide +kernel
theorem dX4_passHourBy_98 : decode cX4_passHourBy 98 = .ok (.ior, 1) := by decide +kernel
theorem dX4_passHourBy_99 : decode cX4_passHourBy 99 = .ok (.istore_n 3, 1) := by decide +kernel
theorem dX4_passHourBy_100 : decode cX4_passHourBy 100 = .ok (.aload_n 0, 1) := by decide +kernel
theorem dX4_passHourBy_101 : decode cX4_passHourBy 101 = .ok (.dup, 1) := by decide +kernel
theorem dX4_passHourBy_102 : decode cX4_passHourBy 102 = .ok (.getfield 29, 3) := by decide +kernel
theorem dX4_passHourBy_105 : decode cX4_passHourBy 105 = .ok (.iconst 1, 1) := by decide +kernel
theorem dX4_passHourBy_106 : decode cX4_passHourBy 106 = .ok (.iadd, 1) := by decide +kernel
theorem dX4_passHourBy_107 : decode cX4_passHourBy 107 = .ok (.putfield 29, 3) := by decide +kernel
theorem dX4_passHourBy_110 : decode cX4_passHourBy 110 = .ok (.iload_n 3, 1) := by decide +kernel
theorem dX4_passHourBy_111 : decode cX4_passHourBy 111 = .ok (.invokestatic 46, 3) := by decide +kernel
theorem dX4_passHourBy_114 : decode cX4_passHourBy 114 = .ok (.ireturn, 1) := by decide +kernel
theorem dX4_tellAt_0 : decode cX4_tellAt 0 = .ok (.iconst 0, 1) := by decide +kernel
theorem dX4_tellAt_1 : decode cX4_tellAt 1 = .ok (.istore_n 3, 1) := by decide +kernel
theorem dX4_tellAt_2 : decode cX4_tellAt 2 = .ok (.iconst 0, 1) := by decide +kernel
theorem dX4_tellAt_3 : decode cX4_tellAt 3 = .ok (.istore 4, 2) := by decide +kernel
theorem dX4_tellAt_5 : decode cX4_tellAt 5 = .ok (.iload 4, 2) := by decide +kernel
theorem dX4_tellAt_7 : decode cX4_tellAt 7 = .ok (.aload_n 0, 1) := by decide +kernel
theorem dX4_tellAt_8 : decode cX4_tellAt 8 = .ok (.getfield 21, 3) := by decide +kernel
theorem dX4_tellAt_11 : decode cX4_tellAt 11 = .ok (.getfield 43, 3) := by decide +kernel
theorem dX4_tellAt_14 : decode cX4_tellAt 14 = .ok (.if_icmp .ge 51, 3) := by decide +kernel
theorem dX4_tellAt_17 : decode cX4_tellAt 17 = .ok (.iload_n 1, 1) := by decide +kernel
theorem dX4_tellAt_18 : decode cX4_tellAt 18 = .ok (.iload 4, 2) := by decide +kernel
theorem dX4_tellAt_20 : decode cX4_tellAt 20 = .ok (.ishr, 1) := by decide +kernel
theorem dX4_tellAt_21 : decode cX4_tellAt 21 = .ok (.iconst 1, 1) := by decide +kernel
theorem dX4_tellAt_22 : decode cX4_tellAt 22 = .ok (.iand, 1) := by decide +kernel
theorem dX4_tellAt_23 : decode cX4_tellAt 23 = .ok (.iconst 1, 1) := by decide +kernel
theorem dX4_tellAt_24 : decode cX4_tellAt 24 = .ok (.if_icmp .ne 35, 3) := by decide +kernel
theorem dX4_tellAt_27 : decode cX4_tellAt 27 = .ok (.iload_n 2, 1) := by decide +kernel
theorem dX4_tellAt_28 : decode cX4_tellAt 28 = .ok (.aload_n 0, 1) := by decide +kernel
theorem dX4_tellAt_29 : decode cX4_tellAt 29 = .ok (.getfield 15, 3) := by decide +kernel
theorem dX4_tellAt_32 : decode cX4_tellAt 32 = .ok (.iload 4, 2) := by decide +kernel
theorem dX4_tellAt_34 : decode cX4_tellAt 34 = .ok (.iaload, 1) := by decide +kernel
theorem dX4_tellAt_35 : decode cX4_tellAt 35 = .ok (.iconst (-1), 1) := by decide +kernel
theorem dX4_tellAt_36 : decode cX4_tellAt 36 = .ok (.ixor, 1) := by decide +kernel
theorem dX4_tellAt_37 : decode cX4_tellAt 37 = .ok (.iand, 1) := by decide +kernel
theorem dX4_tellAt_38 : decode cX4_tellAt 38 = .ok (.ifCond .eq 21, 3) := by decide +kernel
theorem dX4_tellAt_41 : decode cX4_tellAt 41 = .ok (.aload_n 0, 1) := by decide +kernel
theorem dX4_tellAt_42 : decode cX4_tellAt 42 = .ok (.getfield 15, 3) := by decide +kernel
theorem dX4_tellAt_45 : decode cX4_tellAt 45 = .ok (.iload 4, 2) := by decide +kernel
theorem dX4_tellAt_47 : decode cX4_tellAt 47 = .ok (.dup2, 1) := by decide +kernel
theorem dX4_tellAt_48 : decode cX4_tellAt 48 = .ok (.iaload, 1) := by decide +kernel
theorem dX4_tellAt_49 : decode cX4_tellAt 49 = .ok (.iload_n 2, 1) := by decide +kernel
theorem dX4_tellAt_50 : decode cX4_tellAt 50 = .ok (.ior, 1) := by decide +kernel
theorem dX4_tellAt_51 : decode cX4_tellAt 51 = .ok (.iastore, 1) := by decide +kernel
theorem dX4_tellAt_52 : decode cX4_tellAt 52 = .ok (.iload_n 3, 1) := by decide +kernel
theorem dX4_tellAt_53 : decode cX4_tellAt 53 = .ok (.iconst 1, 1) := by decide +kernel
theorem dX4_tellAt_54 : decode cX4_tellAt 54 = .ok (.iload 4, 2) := by decide +kernel
theorem dX4_tellAt_56 : decode cX4_tellAt 56 = .ok (.ishl, 1) := by decide +kernel
theorem dX4_tellAt_57 : decode cX4_tellAt 57 = .ok (.ior, 1) := by decide +kernel
theorem dX4_tellAt_58 : decode cX4_tellAt 58 = .ok (.istore_n 3, 1) := by decide +kernel
theorem dX4_tellAt_59 : decode cX4_tellAt 59 = .ok (.iinc 4 1, 3) := by decide +kernel
theorem dX4_tellAt_62 : decode cX4_tellAt 62 = .ok (.goto (-57), 3) := by decide +kernel
theorem dX4_tellAt_65 : decode cX4_tellAt 65 = .ok (.iload_n 3, 1) := by decide +kernel
theorem dX4_tellAt_66 : decode cX4_tellAt 66 = .ok (.ireturn, 1) := by decide +kernel
set_option maxRecDepth 20000 in
theorem ggX4_canBeLowered_X2_hasHouse : GoodIn wsX4_canBeLowered wsX2_hasHouse := goodIn_r _ [7, 8, 15, 16, 17, 18, 19, 20, 21, 22, 23] (by decide +kernel) (by decide +kernel)
set_option maxRecDepth 20000 in
theorem gX4_canBeLowered_X2_hasHouse : GoodIn wsX4_canBeLowered (wsV RX4 106 RX2 yX2_hasHouse wsX2_hasHouse) := goodIn_app (goodIn_of _ (by decide +kernel)) ggX4_canBeLowered_X2_hasHouse
theorem dX4_canBeLowered_0 : decode cX4_canBeLowered 0 = .ok (.aload_n 0, 1) := by decide +kernel
theorem dX4_canBeLowered_1 : decode cX4_canBeLowered 1 = .ok (.getfield 21, 3) := by decide +kernel
theorem dX4_canBeLowered_4 : decode cX4_canBeLowered 4 = .ok (.iload_n 1, 1) := by decide +kernel
theorem dX4_canBeLowered_5 : decode cX4_canBeLowered 5 = .ok (.invokevirtual 106, 3) := by decide +kernel
theorem dX4_canBeLowered_8 : decode cX4_canBeLowered 8 = .ok (.ifCond .eq 18, 3) := by decide +kernel
theorem dX4_canBeLowered_11 : decode cX4_canBeLowered 11 = .ok (.aload_n 0, 1) := by decide +kernel
theorem dX4_canBeLowered_12 : decode cX4_canBeLowered 12 = .ok (.getfield 18, 3) := by decide +kernel
theorem dX4_canBeLowered_15 : decode cX4_canBeLowered 15 = .ok (.iload_n 1, 1) := by decide +kernel
theorem dX4_canBeLowered_16 : decode cX4_canBeLowered 16 = .ok (.iaload, 1) := by decide +kernel
theorem dX4_canBeLowered_17 : decode cX4_canBeLowered 17 = .ok (.bipush (-3), 2) := by decide +kernel
theorem dX4_canBeLowered_19 : decode cX4_canBeLowered 19 = .ok (.if_icmp .le 7, 3) := by decide +kernel
theorem dX4_canBeLowered_22 : decode cX4_canBeLowered 22 = .ok (.iconst 1, 1) := by decide +kernel
theorem dX4_canBeLowered_23 : decode cX4_canBeLowered 23 = .ok (.goto 4, 3) := by decide +kernel
theorem dX4_canBeLowered_26 : decode cX4_canBeLowered 26 = .ok (.iconst 0, 1) := by decide +kernel
theorem dX4_canBeLowered_27 : decode cX4_canBeLowered 27 = .ok (.ireturn, 1) := by decide +kernel
set_option maxRecDepth 20000 in
theorem ggX4_canBeRaised_X2_hasHouse : GoodIn wsX4_canBeRaised wsX2_hasHouse := goodIn_r _ [7, 8, 15, 16, 17, 18, 19, 20, 21, 22, 23] (by decide +kernel) (by decide +kernel)
set_option maxRecDepth 20000 in
theorem gX4_canBeRaised_X2_hasHouse : GoodIn wsX4_canBeRaised (wsV RX4 106 RX2 yX2_hasHouse wsX2_hasHouse) := goodIn_app (goodIn_of _ (by decide +kernel)) ggX4_canBeRaised_X2_hasHouse
theorem dX4_canBeRaised_0 : decode cX4_canBeRaised 0 = .ok (.aload_n 0, 1) := by decide +kernel
theorem dX4_canBeRaised_1 : decode cX4_canBeRaised 1 = .ok (.getfield 21, 3) := by decide +kernel
theorem dX4_canBeRaised_4 : decode cX4_canBeRaised 4 = .ok (.iload_n 1, 1) := by decide +kernel
theorem dX4_canBeRaised_5 : decode cX4_canBeRaised 5 = .ok (.invokevirtual 106, 3) := by decide +kernel
theorem dX4_canBeRaised_8 : decode cX4_canBeRaised 8 = .ok (.ifCond .eq 17, 3) := by decide +kernel
theorem dX4_canBeRaised_11 : decode cX4_canBeRaised 11 = .ok (.aload_n 0, 1) := by decide +kernel
theorem dX4_canBeRaised_12 : decode cX4_canBeRaised 12 = .ok (.getfield 18, 3) := by decide +kernel
theorem dX4_canBeRaised_15 : decode cX4_canBeRaised 15 = .ok (.iload_n 1, 1) := by decide +kernel
theorem dX4_canBeRaised_16 : decode cX4_canBeRaised 16 = .ok (.iaload, 1) := by decide +kernel
theorem dX4_canBeRaised_17 : decode cX4_canBeRaised 17 = .ok (.iconst 3, 1) := by decide +kernel
theorem dX4_canBeRaised_18 : decode cX4_canBeRaised 18 = .ok (.if_icmp .ge 7, 3) := by decide +kernel
theorem dX4_canBeRaised_21 : decode cX4_canBeRaised 21 = .ok (.iconst 1, 1) := by decide +kernel
theorem dX4_canBeRaised_22 : decode cX4_canBeRaised 22 = .ok (.goto 4, 3) := by decide +kernel
theorem dX4_canBeRaised_25 : decode cX4_canBeRaised 25 = .ok (.iconst 0, 1) := by decide +kernel
theorem dX4_canBeRaised_26 : decode cX4_canBeRaised 26 = .ok (.ireturn, 1) := by decide +kernel
set_option maxRecDepth 20000 in
theorem ggX4_tryLowered_X4_canBeLowered : GoodIn wsX4_tryLowered wsX4_canBeLowered := goodIn_r _ [6, 7, 1, 8, 9, 10, 11, 12, 13, 14, 15, 16, 17, 18, 19, 20, 21, 22, 23, 24, 25, 26, 27, 28] (by decide +kernel) (by decide +kernel)
set_option maxRecDepth 20000 in
theorem gX4_tryLowered_X4_canBeLowered : GoodIn wsX4_tryLowered (wsV RX4 109 RX4 yX4_canBeLowered wsX4_canBeLowered) := goodIn_app (goodIn_of _ (by decide +kernel)) ggX4_tryLowered_X4_canBeLowered
theorem dX4_tryLowered_0 : decode cX4_tryLowered 0 = .ok (.aload_n 0, 1) := by decide +kernel
theorem dX4_tryLowered_1 : decode cX4_tryLowered 1 = .ok (.iload_n 1, 1) := by decide +kernel
theorem dX4_tryLowered_2 : decode cX4_tryLowered 2 = .ok (.invokevirtual 109, 3) := by decide +kernel
theorem dX4_tryLowered_5 : decode cX4_tryLowered 5 = .ok (.ifCond .ne 5, 3) := by decide +kernel
theorem dX4_tryLowered_8 : decode cX4_tryLowered 8 = .ok (.iconst 0, 1) := by decide +kernel
theorem dX4_tryLowered_9 : decode cX4_tryLowered 9 = .ok (.ireturn, 1) := by decide +kernel
theorem dX4_tryLowered_10 : decode cX4_tryLowered 10 = .ok (.aload_n 0, 1) := by decide +kernel
theorem dX4_tryLowered_11 : decode cX4_tryLowered 11 = .ok (.getfield 18, 3) := by decide +kernel
theorem dX4_tryLowered_14 : decode cX4_tryLowered 14 = .ok (.iload_n 1, 1) := by decide +kernel
theorem dX4_tryLowered_15 : decode cX4_tryLowered 15 = .ok (.dup2, 1) := by decide +kernel
theorem dX4_tryLowered_16 : decode cX4_tryLowered 16 = .ok (.iaload, 1) := by decide +kernel
theorem dX4_tryLowered_17 : decode cX4_tryLowered 17 = .ok (.iconst 1, 1) := by decide +kernel
theorem dX4_tryLowered_18 : decode cX4_tryLowered 18 = .ok (.isub, 1) := by decide +kernel
theorem dX4_tryLowered_19 : decode cX4_tryLowered 19 = .ok (.iastore, 1) := by decide +kernel
theorem dX4_tryLowered_20 : decode cX4_tryLowered 20 = .ok (.iconst 1, 1) := by decide +kernel
theorem dX4_tryLowered_21 : decode cX4_tryLowered 21 = .ok (.ireturn, 1) := by decide +kernel
set_option maxRecDepth 20000 in
theorem ggX4_tryRaised_X4_canBeRaised : GoodIn wsX4_tryRaised wsX4_canBeRaised := goodIn_r _ [6, 7, 1, 8, 9, 10, 11, 12, 13, 14, 15, 16, 17, 18, 19, 20, 21, 22, 23, 24, 25, 26, 27, 28] (by decide +kernel) (by decide +kernel)
set_option maxRecDepth 20000 in
theorem gX4_tryRaised_X4_canBeRaised : GoodIn wsX4_tryRaised (wsV RX4 112 RX4 yX4_canBeRaised wsX4_canBeRaised) := goodIn_app (goodIn_of _ (by decide +kernel)) ggX4_tryRaised_X4_canBeRaised
theorem dX4_tryRaised_0 : decode cX4_tryRaised 0 = .ok (.aload_n 0, 1) := by decide +kernel
theorem dX4_tryRaised_1 : decode cX4_tryRaised 1 = .ok (.iload_n 1, 1) := by decide +kernel
theorem dX4_tryRaised_2 : decode cX4_tryRaised 2 = .ok (.invokevirtual 112, 3) := by decide +kernel
theorem dX4_tryRaised_5 : decode cX4_tryRaised 5 = .ok (.ifCond .ne 5, 3) := by decide +kernel
theorem dX4_tryRaised_8 : decode cX4_tryRaised 8 = .ok (.iconst 0, 1) := by decide +kernel
theorem dX4_tryRaised_9 : decode cX4_tryRaised 9 = .ok (.ireturn, 1) := by decide +kernel
theorem dX4_tryRaised_10 : decode cX4_tryRaised 10 = .ok (.aload_n 0, 1) := by decide +kernel
theorem dX4_tryRaised_11 : decode cX4_tryRaised 11 = .ok (.getfield 18, 3) := by decide +kernel
theorem dX4_tryRaised_14 : decode cX4_tryRaised 14 = .ok (.iload_n 1, 1) := by decide +kernel
theorem dX4_tryRaised_15 : decode cX4_tryRaised 15 = .ok (.dup2, 1) := by decide +kernel
theorem dX4_tryRaised_16 : decode cX4_tryRaised 16 = .ok (.iaload, 1) := by decide +kernel
theorem dX4_tryRaised_17 : decode cX4_tryRaised 17 = .ok (.iconst 1, 1) := by decide +kernel
theorem dX4_tryRaised_18 : decode cX4_tryRaised 18 = .ok (.iadd, 1) := by decide +kernel
theorem dX4_tryRaised_19 : decode cX4_tryRaised 19 = .ok (.iastore, 1) := by decide +kernel
theorem dX4_tryRaised_20 : decode cX4_tryRaised 20 = .ok (.iconst 1, 1) := by decide +kernel
theorem dX4_tryRaised_21 : decode cX4_tryRaised 21 = .ok (.ireturn, 1) := by decide +kernel
set_option maxRecDepth 20000 in
theorem ggX4_tryChanged_X2_hasHouse : GoodIn wsX4_tryChanged wsX2_hasHouse := goodIn_r _ [8, 9, 16, 17, 18, 19, 20, 21, 22, 23, 24] (by decide +kernel) (by decide +kernel)
set_option maxRecDepth 20000 in
theorem gX4_tryChanged_X2_hasHouse : GoodIn wsX4_tryChanged (wsV RX4 106 RX2 yX2_hasHouse wsX2_hasHouse) := goodIn_app (goodIn_of _ (by decide +kernel)) ggX4_tryChanged_X2_hasHouse
theorem dX4_tryChanged_0 : decode cX4_tryChanged 0 = .ok (.aload_n 0, 1) := by decide +kernel
theorem dX4_tryChanged_1 : decode cX4_tryChanged 1 = .ok (.getfield 21, 3) := by decide +kernel
theorem dX4_tryChanged_4 : decode cX4_tryChanged 4 = .ok (.iload_n 1, 1) := by decide +kernel
theorem dX4_tryChanged_5 : decode cX4_tryChanged 5 = .ok (.invokevirtual 106, 3) := by decide +kernel
theorem dX4_tryChanged_8 : decode cX4_tryChanged 8 = .ok (.ifCond .eq 19, 3) := by decide +kernel
theorem dX4_tryChanged_11 : decode cX4_tryChanged 11 = .ok (.aload_n 0, 1) := by decide +kernel
theorem dX4_tryChanged_12 : decode cX4_tryChanged 12 = .ok (.getfield 21, 3) := by decide +kernel
theorem dX4_tryChanged_15 : decode cX4_tryChanged 15 = .ok (.iload_n 2, 1) := by decide +kernel
theorem dX4_tryChanged_16 : decode cX4_tryChanged 16 = .ok (.invokevirtual 106, 3) := by decide +kernel
theorem dX4_tryChanged_19 : decode cX4_tryChanged 19 = .ok (.ifCond .eq 8, 3) := by decide +kernel
theorem dX4_tryChanged_22 : decode cX4_tryChanged 22 = .ok (.iload_n 1, 1) := by decide +kernel
theorem dX4_tryChanged_23 : decode cX4_tryChanged 23 = .ok (.iload_n 2, 1) := by decide +kernel
theorem dX4_tryChanged_24 : decode cX4_tryChanged 24 = .ok (.if_icmp .ne 5, 3) := by decide +kernel
theorem dX4_tryChanged_27 : decode cX4_tryChanged 27 = .ok (.iconst 0, 1) := by decide +kernel
theorem dX4_tryChanged_28 : decode cX4_tryChanged 28 = .ok (.ireturn, 1) := by decide +kernel
theorem dX4_tryChanged_29 : decode cX4_tryChanged 29 = .ok (.aload_n 0, 1) := by decide +kernel
theorem dX4_tryChanged_30 : decode cX4_tryChanged 30 = .ok (.getfield 9, 3) := by decide +kernel
theorem dX4_tryChanged_33 : decode cX4_tryChanged 33 = .ok (.iload_n 1, 1) := by decide +kernel
theorem dX4_tryChanged_34 : decode cX4_tryChanged 34 = .ok (.iaload, 1) := by decide +kernel
theorem dX4_tryChanged_35 : decode cX4_tryChanged 35 = .ok (.istore_n 3, 1) := by decide +kernel
theorem dX4_tryChanged_36 : decode cX4_tryChanged 36 = .ok (.aload_n 0, 1) := by decide +kernel
theorem dX4_tryChanged_37 : decode cX4_tryChanged 37 = .ok (.getfield 9, 3) := by decide +kernel
theorem dX4_tryChanged_40 : decode cX4_tryChanged 40 = .ok (.iload_n 1, 1) := by decide +kernel
theorem dX4_tryChanged_41 : decode cX4_tryChanged 41 = .ok (.aload_n 0, 1) := by decide +kernel
theorem dX4_tryChanged_42 : decode cX4_tryChanged 42 = .ok (.getfield 9, 3) := by decide +kernel
theorem dX4_tryChanged_45 : decode cX4_tryChanged 45 = .ok (.iload_n 2, 1) := by decide +kernel
theorem dX4_tryChanged_46 : decode cX4_tryChanged 46 = .ok (.iaload, 1) := by decide +kernel
theorem dX4_tryChanged_47 : decode cX4_tryChanged 47 = .ok (.iastore, 1) := by decide +kernel
theorem dX4_tryChanged_48 : decode cX4_tryChanged 48 = .ok (.aload_n 0, 1) := by decide +kernel
theorem dX4_tryChanged_49 : decode cX4_tryChanged 49 = .ok (.getfield 9, 3) := by decide +kernel
theorem dX4_tryChanged_52 : decode cX4_tryChanged 52 = .ok (.iload_n 2, 1) := by decide +kernel
theorem dX4_tryChanged_53 : decode cX4_tryChanged 53 = .ok (.iload_n 3, 1) := by decide +kernel
theorem dX4_tryChanged_54 : decode cX4_tryChanged 54 = .ok (.iastore, 1) := by decide +kernel
theorem dX4_tryChanged_55 : decode cX4_tryChanged 55 = .ok (.aload_n 0, 1) := by decide +kernel
theorem dX4_tryChanged_56 : decode cX4_tryChanged 56 = .ok (.getfield 15, 3) := by decide +kernel
theorem dX4_tryChanged_59 : decode cX4_tryChanged 59 = .ok (.iload_n 1, 1) := by decide +kernel
theorem dX4_tryChanged_60 : decode cX4_tryChanged 60 = .ok (.iaload, 1) := by decide +kernel
theorem dX4_tryChanged_61 : decode cX4_tryChanged 61 = .ok (.istore 4, 2) := by decide +kernel
theorem dX4_tryChanged_63 : decode cX4_tryChanged 63 = .ok (.aload_n 0, 1) := by decide +kernel
theorem dX4_tryChanged_64 : decode cX4_tryChanged 64 = .ok (.getfield 15, 3) := by decide +kernel
theorem dX4_tryChanged_67 : decode cX4_tryChanged 67 = .ok (.iload_n 1, 1) := by decide +kernel
theorem dX4_tryChanged_68 : decode cX4_tryChanged 68 = .ok (.aload_n 0, 1) := by decide +kernel
theorem dX4_tryChanged_69 : decode cX4_tryChanged 69 = .ok (.getfield 15, 3) := by decide +kernel
theorem dX4_tryChanged_72 : decode cX4_tryChanged 72 = .ok (.iload_n 2, 1) := by decide +kernel
theorem dX4_tryChanged_73 : decode cX4_tryChanged 73 = .ok (.iaload, 1) := by decide +kernel
theorem dX4_tryChanged_74 : decode cX4_tryChanged 74 = .ok (.iastore, 1) := by decide +kernel
theorem dX4_tryChanged_75 : decode cX4_tryChanged 75 = .ok (.aload_n 0, 1) := by decide +kernel
theorem dX4_tryChanged_76 : decode cX4_tryChanged 76 = .ok (.getfield 15, 3) := by decide +kernel
theorem dX4_tryChanged_79 : decode cX4_tryChanged 79 = .ok (.iload_n 2, 1) := by decide +kernel
theorem dX4_tryChanged_80 : decode cX4_tryChanged 80 = .ok (.iload 4, 2) := by decide +kernel
theorem dX4_tryChanged_82 : decode cX4_tryChanged 82 = .ok (.iastore, 1) := by decide +kernel
theorem dX4_tryChanged_83 : decode cX4_tryChanged 83 = .ok (.iconst 1, 1) := by decide +kernel
theorem dX4_tryChanged_84 : decode cX4_tryChanged 84 = .ok (.ireturn, 1) := by decide +kernel
set_option maxRecDepth 20000 in
theorem ggX4_tryPlate_X2_hasNext : GoodIn wsX4_tryPlate wsX2_hasNext := goodIn_r _ [7, 8, 15, 16, 17, 18, 19, 20, 21, 22, 23] (by decide +kernel) (by decide +kernel)
set_option maxRecDepth 20000 in
theorem gX4_tryPlate_X2_hasNext : GoodIn wsX4_tryPlate (wsV RX4 115 RX2 yX2_hasNext wsX2_hasNext) := goodIn_app (goodIn_of _ (by decide +kernel)) ggX4_tryPlate_X2_hasNext
theorem dX4_tryPlate_0 : decode cX4_tryPlate 0 = .ok (.aload_n 0, 1) := by decide +kernel
theorem dX4_tryPlate_1 : decode cX4_tryPlate 1 = .ok (.getfield 21, 3) := by decide +kernel
theorem dX4_tryPlate_4 : decode cX4_tryPlate 4 = .ok (.iload_n 1, 1) := by decide +kernel
theorem dX4_tryPlate_5 : decode cX4_tryPlate 5 = .ok (.invokevirtual 115, 3) := by decide +kernel
theorem dX4_tryPlate_8 : decode cX4_tryPlate 8 = .ok (.ifCond .ne 5, 3) := by decide +kernel
theorem dX4_tryPlate_11 : decode cX4_tryPlate 11 = .ok (.iconst 0, 1) := by decide +kernel
theorem dX4_tryPlate_12 : decode cX4_tryPlate 12 = .ok (.ireturn, 1) := by decide +kernel
theorem dX4_tryPlate_13 : decode cX4_tryPlate 13 = .ok (.aload_n 0, 1) := by decide +kernel
theorem dX4_tryPlate_14 : decode cX4_tryPlate 14 = .ok (.getfield 15, 3) := by decide +kernel
theorem dX4_tryPlate_17 : decode cX4_tryPlate 17 = .ok (.iload_n 1, 1) := by decide +kernel
theorem dX4_tryPlate_18 : decode cX4_tryPlate 18 = .ok (.iconst 1, 1) := by decide +kernel
theorem dX4_tryPlate_19 : decode cX4_tryPlate 19 = .ok (.iadd, 1) := by decide +kernel
theorem dX4_tryPlate_20 : decode cX4_tryPlate 20 = .ok (.dup2, 1) := by decide +kernel
theorem dX4_tryPlate_21 : decode cX4_tryPlate 21 = .ok (.iaload, 1) := by decide +kernel
theorem dX4_tryPlate_22 : decode cX4_tryPlate 22 = .ok (.aload_n 0, 1) := by decide +kernel
theorem dX4_tryPlate_23 : decode cX4_tryPlate 23 = .ok (.getfield 15, 3) := by decide +kernel
theorem dX4_tryPlate_26 : decode cX4_tryPlate 26 = .ok (.iload_n 1, 1) := by decide +kernel
theorem dX4_tryPlate_27 : decode cX4_tryPlate 27 = .ok (.iaload, 1) := by decide +kernel
theorem dX4_tryPlate_28 : decode cX4_tryPlate 28 = .ok (.ior, 1) := by decide +kernel
theorem dX4_tryPlate_29 : decode cX4_tryPlate 29 = .ok (.iastore, 1) := by decide +kernel
theorem dX4_tryPlate_30 : decode cX4_tryPlate 30 = .ok (.iconst 1, 1) := by decide +kernel
theorem dX4_tryPlate_31 : decode cX4_tryPlate 31 = .ok (.ireturn, 1) := by decide +kernel
set_option maxRecDepth 20000 in
theorem ggX5_init_X2_init : GoodIn wsX5_init wsX2_init := goodIn_r _ [35, 36, 2, 3, 4, 37, 38, 39, 40, 41, 42, 85, 86, 87, 88, 89, 90, 91, 92, 93] (by decide +kernel) (by decide +kernel)
set_option maxRecDepth 20000 in
theorem gX5_init_X2_init_n37 : GoodIn wsX5_init (wsX2_init) := ggX5_init_X2_init
set_option maxRecDepth 20000 in
theorem ggX5_init_X3_init : GoodIn wsX5_init wsX3_init := goodIn_r _ [44, 45, 2, 3, 46, 15, 16, 47, 4, 48, 34, 35, 36, 37, 38, 39, 40, 41, 42, 85, 86, 87, 88, 89, 90, 91, 92, 93, 94, 95, 96, 97, 98] (by decide +kernel) (by decide +kernel)
set_option maxRecDepth 20000 in
theorem gX5_init_X3_init_n44 : GoodIn wsX5_init (wsX3_init) := ggX5_init_X3_init
set_option maxRecDepth 20000 in
theorem ggX5_init_X4_init : GoodIn wsX5_init wsX4_init := goodIn_r _ [51, 52, 2, 3, 4, 53, 54, 55, 56, 99, 100, 101, 102, 103, 104] (by decide +kernel) (by decide +kernel)
set_option maxRecDepth 20000 in
theorem gX5_init_X4_init : GoodIn wsX5_init (wsX4_init) := ggX5_init_X4_init
set_option maxRecDepth 20000 in
theorem ggX5_init_X0_init : GoodIn wsX5_init wsX0_init := goodIn_r _ [59, 60, 2, 3, 61, 62, 22, 23, 63, 50, 51, 52, 4, 53, 54, 55, 56, 105, 106, 107, 99, 100, 101, 102, 103, 104] (by decide +kernel) (by decide +kernel)
set_option maxRecDepth 20000 in
theorem gX5_init_X0_init : GoodIn wsX5_init (wsX0_init) := ggX5_init_X0_init
set_option maxRecDepth 20000 in
theorem ggX5_init_X1_init : GoodIn wsX5_init wsX1_init := goodIn_r _ [65, 66, 2, 3, 4, 67, 68, 8, 69, 108, 109, 110, 111] (by decide +kernel) (by decide +kernel)
set_option maxRecDepth 20000 in
theorem gX5_init_X1_init_n68 : GoodIn wsX5_init (wsX1_init) := ggX5_init_X1_init
theorem dX5_init_0 : decode cX5_init 0 = .ok (.aload_n 0, 1) := by decide +kernel
theorem dX5_init_1 : decode cX5_init 1 = .ok (.invokespecial 1, 3) := by decide +kernel
theorem dX5_init_4 : decode cX5_init 4 = .ok (.aload_n 0, 1) := by decide +kernel
theorem dX5_init_5 : decode cX5_init 5 = .ok (.bipush 64, 2) := by decide +kernel
theorem dX5_init_7 : decode cX5_init 7 = .ok (.newarray .int, 2) := by decide +kernel
theorem dX5_init_9 : decode cX5_init 9 = .ok (.putfield 9, 3) := by decide +kernel
theorem dX5_init_12 : decode cX5_init 12 = .ok (.aload_n 0, 1) := by decide +kernel
theorem dX5_init_13 : decode cX5_init 13 = .ok (.iconst 2, 1) := by decide +kernel
theorem dX5_init_14 : decode cX5_init 14 = .ok (.anewarray 13, 3) := by decide +kernel
theorem dX5_init_17 : decode cX5_init 17 = .ok (.putfield 15, 3) := by decide +kernel
theorem dX5_init_20 : decode cX5_init 20 = .ok (.aload_n 0, 1) := by decide +kernel
theorem dX5_init_21 : decode cX5_init 21 = .ok (.iconst 2, 1) := by decide +kernel
theorem dX5_init_22 : decode cX5_init 22 = .ok (.newarray .boolean, 2) := by decide +kernel
theorem dX5_init_24 : decode cX5_init 24 = .ok (.putfield 19, 3) := by decide +kernel
theorem dX5_init_27 : decode cX5_init 27 = .ok (.aload_n 0, 1) := by decide +kernel
theorem dX5_init_28 : decode cX5_init 28 = .ok (.bipush 12, 2) := by decide +kernel
theorem dX5_init_30 : decode cX5_init 30 = .ok (.newarray .int, 2) := by decide +kernel
theorem dX5_init_32 : decode cX5_init 32 = .ok (.putfield 23, 3) := by decide +kernel
theorem dX5_init_35 : decode cX5_init 35 = .ok (.aload_n 0, 1) := by decide +kernel
theorem dX5_init_36 : decode cX5_init 36 = .ok (.iconst 5, 1) := by decide +kernel
theorem dX5_init_37 : decode cX5_init 37 = .ok (.newarray .int, 2) := by decide +kernel
theorem dX5_init_39 : decode cX5_init 39 = .ok (.putfield 26, 3) := by decide +kernel
theorem dX5_init_42 : decode cX5_init 42 = .ok (.aload_n 0, 1) := by decide +kernel
theorem dX5_init_43 : decode cX5_init 43 = .ok (.iconst 4, 1) := by decide +kernel
theorem dX5_init_44 : decode cX5_init 44 = .ok (.newarray .int, 2) := by decide +kernel
theorem dX5_init_46 : decode cX5_init 46 = .ok (.putfield 29, 3) := by decide +kernel
theorem dX5_init_49 : decode cX5_init 49 = .ok (.aload_n 0, 1) := by decide +kernel
theorem dX5_init_50 : decode cX5_init 50 = .ok (.iconst 4, 1) := by decide +kernel
theorem dX5_init_51 : decode cX5_init 51 = .ok (.newarray .int, 2) := by decide +kernel
theorem dX5_init_53 : decode cX5_init 53 = .ok (.putfield 32, 3) := by decide +kernel
theorem dX5_init_56 : decode cX5_init 56 = .ok (.aload_n 0, 1) := by decide +kernel
theorem dX5_init_57 : decode cX5_init 57 = .ok (.new 35, 3) := by decide +kernel
theorem dX5_init_60 : decode cX5_init 60 = .ok (.dup, 1) := by decide +kernel
theorem dX5_init_61 : decode cX5_init 61 = .ok (.invokespecial 37, 3) := by decide +kernel
theorem dX5_init_64 : decode cX5_init 64 = .ok (.putfield 38, 3) := by decide +kernel
theorem dX5_init_67 : decode cX5_init 67 = .ok (.aload_n 0, 1) := by decide +kernel
theorem dX5_init_68 : decode cX5_init 68 = .ok (.new 42, 3) := by decide +kernel
theorem dX5_init_71 : decode cX5_init 71 = .ok (.dup, 1) := by decide +kernel
theorem dX5_init_72 : decode cX5_init 72 = .ok (.invokespecial 44, 3) := by decide +kernel
theorem dX5_init_75 : decode cX5_init 75 = .ok (.putfield 45, 3) := by decide +kernel
theorem dX5_init_78 : decode cX5_init 78 = .ok (.aload_n 0, 1) := by decide +kernel
theorem dX5_init_79 : decode cX5_init 79 = .ok (.new 13, 3) := by decide +kernel
theorem dX5_init_82 : decode cX5_init 82 = .ok (.dup, 1) := by decide +kernel
theorem dX5_init_83 : decode cX5_init 83 = .ok (.aload_n 0, 1) := by decide +kernel
theorem dX5_init_84 : decode cX5_init 84 = .ok (.getfield 38, 3) := by decide +kernel
theorem dX5_init_87 : decode cX5_init 87 = .ok (.invokespecial 49, 3) := by decide +kernel
theorem dX5_init_90 : decode cX5_init 90 = .ok (.putfield 52, 3) := by decide +kernel
theorem dX5_init_93 : decode cX5_init 93 = .ok (.aload_n 0, 1) := by decide +kernel
theorem dX5_init_94 : decode cX5_init 94 = .ok (.new 13, 3) := by decide +kernel
theorem dX5_init_97 : decode cX5_init 97 = .ok (.dup, 1) := by decide +kernel
theorem dX5_init_98 : decode cX5_init 98 = .ok (.aload_n 0, 1) := by decide +kernel
theorem dX5_init_99 : decode cX5_init 99 = .ok (.getfield 38, 3) := by decide +kernel
theorem dX5_init_102 : decode cX5_init 102 = .ok (.invokespecial 49, 3) := by decide +kernel
theorem dX5_init_105 : decode cX5_init 105 = .ok (.putfield 56, 3) := by decide +kernel
theorem dX5_init_108 : decode cX5_init 108 = .ok (.aload_n 0, 1) := by decide +kernel
theorem dX5_init_109 : decode cX5_init 109 = .ok (.new 59, 3) := by decide +kernel
theorem dX5_init_112 : decode cX5_init 112 = .ok (.dup, 1) := by decide +kernel
theorem dX5_init_113 : decode cX5_init 113 = .ok (.aload_n 0, 1) := by decide +kernel
theorem dX5_init_114 : decode cX5_init 114 = .ok (.getfield 38, 3) := by decide +kernel
theorem dX5_init_117 : decode cX5_init 117 = .ok (.invokespecial 61, 3) := by decide +kernel
theorem dX5_init_120 : decode cX5_init 120 = .ok (.putfield 62, 3) := by decide +kernel
theorem dX5_init_123 : decode cX5_init 123 = .ok (.aload_n 0, 1) := by decide +kernel
theorem dX5_init_124 : decode cX5_init 124 = .ok (.new 66, 3) := by decide +kernel
theorem dX5_init_127 : decode cX5_init 127 = .ok (.dup, 1) := by decide +kernel
theorem dX5_init_128 : decode cX5_init 128 = .ok (.invokespecial 68, 3) := by decide +kernel
theorem dX5_init_131 : decode cX5_init 131 = .ok (.putfield 69, 3) := by decide +kernel
theorem dX5_init_134 : decode cX5_init 134 = .ok (.iconst 0, 1) := by decide +kernel
theorem dX5_init_135 : decode cX5_init 135 = .ok (.istore_n 1, 1) := by decide +kernel
theorem dX5_init_136 : decode cX5_init 136 = .ok (.iload_n 1, 1) := by decide +kernel
theorem dX5_init_137 : decode cX5_init 137 = .ok (.iconst 2, 1) := by decide +kernel
theorem dX5_init_138 : decode cX5_init 138 = .ok (.if_icmp .ge 26, 3) := by decide +kernel
theorem dX5_init_141 : decode cX5_init 141 = .ok (.aload_n 0, 1) := by decide +kernel
theorem dX5_init_142 : decode cX5_init 142 = .ok (.getfield 15, 3) := by decide +kernel
theorem dX5_init_145 : decode cX5_init 145 = .ok (.iload_n 1, 1) := by decide +kernel
theorem dX5_init_146 : decode cX5_init 146 = .ok (.new 13, 3) := by decide +kernel
theorem dX5_init_149 : decode cX5_init 149 = .ok (.dup, 1) := by decide +kernel
theorem dX5_init_150 : decode cX5_init 150 = .ok (.aload_n 0, 1) := by decide +kernel
theorem dX5_init_151 : decode cX5_init 151 = .ok (.getfield 38, 3) := by decide +kernel
theorem dX5_init_154 : decode cX5_init 154 = .ok (.invokespecial 49, 3) := by decide +kernel
theorem dX5_init_157 : decode cX5_init 157 = .ok (.aastore, 1) := by decide +kernel
theorem dX5_init_158 : decode cX5_init 158 = .ok (.iinc 1 1, 3) := by decide +kernel
theorem dX5_init_161 : decode cX5_init 161 = .ok (.goto (-25), 3) := by decide +kernel
theorem dX5_init_164 : decode cX5_init 164 = .ok (.return_, 1) := by decide +kernel
theorem dX5_write_0 : decode cX5_write 0 = .ok (.iload_n 1, 1) := by decide +kernel
theorem dX5_write_1 : decode cX5_write 1 = .ok (.ifCond .lt 10, 3) := by decide +kernel
theorem dX5_write_4 : decode cX5_write 4 = .ok (.iload_n 1, 1) := by decide +kernel
theorem dX5_write_5 : decode cX5_write 5 = .ok (.sipush 255, 3) := by decide +kernel
theorem dX5_write_8 : decode cX5_write 8 = .ok (.if_icmp .le 6, 3) := by decide +kernel
theorem dX5_write_11 : decode cX5_write 11 = .ok (.bipush (-2), 2) := by decide +kernel
theorem dX5_write_13 : decode cX5_write 13 = .ok (.ireturn, 1) := by decide +kernel
theorem dX5_write_14 : decode cX5_write 14 = .ok (.aload_n 0, 1) := by decide +kernel
theorem dX5_write_15 : decode cX5_write 15 = .ok (.getfield 73, 3) := by decide +kernel
theorem dX5_write_18 : decode cX5_write 18 = .ok (.bipush 64, 2) := by decide +kernel
theorem dX5_write_20 : decode cX5_write 20 = .ok (.if_icmp .lt 6, 3) := by decide +kernel
theorem dX5_write_23 : decode cX5_write 23 = .ok (.bipush (-4), 2) := by decide +kernel
theorem dX5_write_25 : decode cX5_write 25 = .ok (.ireturn, 1) := by decide +kernel
theorem dX5_write_26 : decode cX5_write 26 = .ok (.aload_n 0, 1) := by decide +kernel
theorem dX5_write_27 : decode cX5_write 27 = .ok (.getfield 9, 3) := by decide +kernel
theorem dX5_write_30 : decode cX5_write 30 = .ok (.aload_n 0, 1) := by decide +kernel
theorem dX5_write_31 : decode cX5_write 31 = .ok (.getfield 73, 3) := by decide +kernel
theorem dX5_write_34 : decode cX5_write 34 = .ok (.iload_n 1, 1) := by decide +kernel
theorem dX5_write_35 : decode cX5_write 35 = .ok (.iastore, 1) := by decide +kernel
theorem dX5_write_36 : decode cX5_write 36 = .ok (.aload_n 0, 1) := by decide +kernel
theorem dX5_write_37 : decode cX5_write 37 = .ok (.dup, 1) := by decide +kernel
theorem dX5_write_38 : decode cX5_write 38 = .ok (.getfield 73, 3) := by decide +kernel
theorem dX5_write_41 : decode cX5_write 41 = .ok (.iconst 1, 1) := by decide +kernel
theorem dX5_write_42 : decode cX5_write 42 = .ok (.iadd, 1) := by decide +kernel
theorem dX5_write_43 : decode cX5_write 43 = .ok (.putfield 73, 3) := by decide +kernel
theorem dX5_write_46 : decode cX5_write 46 = .ok (.aload_n 0, 1) := by decide +kernel
theorem dX5_write_47 : decode cX5_write 47 = .ok (.getfield 73, 3) := by decide +kernel
theorem dX5_write_50 : decode cX5_write 50 = .ok (.ireturn, 1) := by decide +kernel
theorem dX5_wipe_0 : decode cX5_wipe 0 = .ok (.aload_n 0, 1) := by decide +kernel
theorem dX5_wipe_1 : decode cX5_wipe 1 = .ok (.getfield 73, 3) := by decide +kernel
theorem dX5_wipe_4 : decode cX5_wipe 4 = .ok (.istore_n 1, 1) := by decide +kernel
theorem dX5_wipe_5 : decode cX5_wipe 5 = .ok (.aload_n 0, 1) := by decide +kernel
theorem dX5_wipe_6 : decode cX5_wipe 6 = .ok (.iconst 0, 1) := by decide +kernel
theorem dX5_wipe_7 : decode cX5_wipe 7 = .ok (.putfield 73, 3) := by decide +kernel
theorem dX5_wipe_10 : decode cX5_wipe 10 = .ok (.iload_n 1, 1) := by decide +kernel
theorem dX5_wipe_11 : decode cX5_wipe 11 = .ok (.ireturn, 1) := by decide +kernel
set_option maxRecDepth 20000 in
theorem ggX5_fault_X3_firstFault : GoodIn wsX5_fault wsX3_firstFault := goodIn_r _ [8, 9, 10, 11, 12, 13, 14, 15, 16, 17, 18, 19, 20, 21, 22, 7, 23, 24, 25, 26, 27, 28, 29, 30, 31, 32, 33, 34, 35, 36, 37, 38, 39, 40, 41, 42, 43, 44, 45, 46, 47, 48, 49, 50, 51, 52, 53, 54, 55, 56, 57, 58, 74, 75, 76, 77, 78, 79, 80, 81, 82, 83, 84, 85, 86, 87] (by decide +kernel) (by decide +kernel)
set_option maxRecDepth 20000 in
theorem gX5_fault_X3_firstFault : GoodIn wsX5_fault (wsV RX5 77 RX3 yX3_firstFault wsX3_firstFault) := goodIn_app (goodIn_of _ (by decide +kernel)) ggX5_fault_X3_firstFault
theorem dX5_fault_0 : decode cX5_fault 0 = .ok (.aload_n 0, 1) := by decide +kernel
theorem dX5_fault_1 : decode cX5_fault 1 = .ok (.getfield 45, 3) := by decide +kernel
theorem dX5_fault_4 : decode cX5_fault 4 = .ok (.aload_n 0, 1) := by decide +kernel
theorem dX5_fault_5 : decode cX5_fault 5 = .ok (.getfield 9, 3) := by decide +kernel
theorem dX5_fault_8 : decode cX5_fault 8 = .ok (.aload_n 0, 1) := by decide +kernel
theorem dX5_fault_9 : decode cX5_fault 9 = .ok (.getfield 73, 3) := by decide +kernel
theorem dX5_fault_12 : decode cX5_fault 12 = .ok (.invokevirtual 77, 3) := by decide +kernel
theorem dX5_fault_15 : decode cX5_fault 15 = .ok (.ireturn, 1) := by decide +kernel
set_option maxRecDepth 20000 in
theorem ggX5_lane_X3_firstFault : GoodIn wsX5_lane wsX3_firstFault := goodIn_r _ [16, 17, 18, 19, 20, 21, 22, 23, 24, 25, 26, 27, 28, 29, 30, 15, 31, 32, 33, 34, 35, 36, 37, 38, 39, 40, 41, 42, 43, 44, 45, 46, 47, 48, 49, 50, 51, 52, 53, 54, 55, 56, 57, 58, 59, 60, 61, 62, 63, 64, 65, 66, 107, 108, 109, 110, 111, 112, 113, 114, 115, 116, 117, 118, 119, 120] (by decide +kernel) (by decide +kernel)
set_option maxRecDepth 20000 in
theorem gX5_lane_X3_firstFault : GoodIn wsX5_lane (wsV RX5 77 RX3 yX3_firstFault wsX3_firstFault) := goodIn_app (goodIn_of _ (by decide +kernel)) ggX5_lane_X3_firstFault
set_option maxRecDepth 20000 in
theorem ggX5_lane_X2_take : GoodIn wsX5_lane wsX2_take := goodIn_r _ [70, 25, 26, 27, 54, 71, 72, 73, 74, 53, 59, 60, 61, 66, 112, 113, 114, 115, 116, 117, 118, 119, 120] (by decide +kernel) (by decide +kernel)
set_option maxRecDepth 20000 in
theorem gX5_lane_X2_take : GoodIn wsX5_lane (wsV RX5 84 RX2 yX2_take wsX2_take) := goodIn_app (goodIn_of _ (by decide +kernel)) ggX5_lane_X2_take
set_option maxRecDepth 20000 in
theorem ggX5_lane_X4_begin : GoodIn wsX5_lane wsX4_begin := goodIn_r _ [79, 80, 81, 82, 83, 84, 121, 122, 123, 124, 125, 126] (by decide +kernel) (by decide +kernel)
set_option maxRecDepth 20000 in
theorem gX5_lane_X4_begin : GoodIn wsX5_lane (wsV RX5 87 RX4 yX4_begin wsX4_begin) := goodIn_app (goodIn_of _ (by decide +kernel)) ggX5_lane_X4_begin
set_option maxRecDepth 20000 in
theorem ggX5_lane_X0_forget : GoodIn wsX5_lane wsX0_forget := goodIn_r _ [89, 90, 91, 127, 128, 129] (by decide +kernel) (by decide +kernel)
set_option maxRecDepth 20000 in
theorem gX5_lane_X0_forget : GoodIn wsX5_lane (wsV RX5 90 RX0 yX0_forget wsX0_forget) := goodIn_app (goodIn_of _ (by decide +kernel)) ggX5_lane_X0_forget
theorem dX5_lane_0 : decode cX5_lane 0 = .ok (.aload_n 0, 1) := by decide +kernel
theorem dX5_lane_1 : decode cX5_lane 1 = .ok (.getfield 45, 3) := by decide +kernel
theorem dX5_lane_4 : decode cX5_lane 4 = .ok (.aload_n 0, 1) := by decide +kernel
theorem dX5_lane_5 : decode cX5_lane 5 = .ok (.getfield 9, 3) := by decide +kernel
theorem dX5_lane_8 : decode cX5_lane 8 = .ok (.aload_n 0, 1) := by decide +kernel
theorem dX5_lane_9 : decode cX5_lane 9 = .ok (.getfield 73, 3) := by decide +kernel
theorem dX5_lane_12 : decode cX5_lane 12 = .ok (.invokevirtual 77, 3) := by decide +kernel
theorem dX5_lane_15 : decode cX5_lane 15 = .ok (.bipush (-9), 2) := by decide +kernel
theorem dX5_lane_17 : decode cX5_lane 17 = .ok (.if_icmp .eq 6, 3) := by decide +kernel
theorem dX5_lane_20 : decode cX5_lane 20 = .ok (.bipush (-3), 2) := by decide +kernel
theorem dX5_lane_22 : decode cX5_lane 22 = .ok (.ireturn, 1) := by decide +kernel
theorem dX5_lane_23 : decode cX5_lane 23 = .ok (.aload_n 0, 1) := by decide +kernel
theorem dX5_lane_24 : decode cX5_lane 24 = .ok (.getfield 38, 3) := by decide +kernel
theorem dX5_lane_27 : decode cX5_lane 27 = .ok (.aload_n 0, 1) := by decide +kernel
theorem dX5_lane_28 : decode cX5_lane 28 = .ok (.getfield 45, 3) := by decide +kernel
theorem dX5_lane_31 : decode cX5_lane 31 = .ok (.getfield 81, 3) := by decide +kernel
theorem dX5_lane_34 : decode cX5_lane 34 = .ok (.invokevirtual 84, 3) := by decide +kernel
theorem dX5_lane_37 : decode cX5_lane 37 = .ok (.aload_n 0, 1) := by decide +kernel
theorem dX5_lane_38 : decode cX5_lane 38 = .ok (.getfield 52, 3) := by decide +kernel
theorem dX5_lane_41 : decode cX5_lane 41 = .ok (.invokevirtual 87, 3) := by decide +kernel
theorem dX5_lane_44 : decode cX5_lane 44 = .ok (.aload_n 0, 1) := by decide +kernel
theorem dX5_lane_45 : decode cX5_lane 45 = .ok (.getfield 62, 3) := by decide +kernel
theorem dX5_lane_48 : decode cX5_lane 48 = .ok (.invokevirtual 90, 3) := by decide +kernel
theorem dX5_lane_51 : decode cX5_lane 51 = .ok (.iconst 0, 1) := by decide +kernel
theorem dX5_lane_52 : decode cX5_lane 52 = .ok (.istore_n 1, 1) := by decide +kernel
theorem dX5_lane_53 : decode cX5_lane 53 = .ok (.iload_n 1, 1) := by decide +kernel
theorem dX5_lane_54 : decode cX5_lane 54 = .ok (.iconst 2, 1) := by decide +kernel
theorem dX5_lane_55 : decode cX5_lane 55 = .ok (.if_icmp .ge 16, 3) := by decide +kernel
theorem dX5_lane_58 : decode cX5_lane 58 = .ok (.aload_n 0, 1) := by decide +kernel
theorem dX5_lane_59 : decode cX5_lane 59 = .ok (.getfield 19, 3) := by decide +kernel
theorem dX5_lane_62 : decode cX5_lane 62 = .ok (.iload_n 1, 1) := by decide +kernel
theorem dX5_lane_63 : decode cX5_lane 63 = .ok (.iconst 0, 1) := by decide +kernel
theorem dX5_lane_64 : decode cX5_lane 64 = .ok (.bastore, 1) := by decide +kernel
theorem dX5_lane_65 : decode cX5_lane 65 = .ok (.iinc 1 1, 3) := by decide +kernel
theorem dX5_lane_68 : decode cX5_lane 68 = .ok (.goto (-15), 3) := by decide +kernel
theorem dX5_lane_71 : decode cX5_lane 71 = .ok (.bipush 100, 2) := by decide +kernel
theorem dX5_lane_73 : decode cX5_lane 73 = .ok (.aload_n 0, 1) := by decide +kernel
theorem dX5_lane_74 : decode cX5_lane 74 = .ok (.getfield 38, 3) := by decide +kernel
theorem dX5_lane_77 : decode cX5_lane 77 = .ok (.getfield 93, 3) := by decide +kernel
theorem dX5_lane_80 : decode cX5_lane 80 = .ok (.imul, 1) := by decide +kernel
theorem dX5_lane_81 : decode cX5_lane 81 = .ok (.bipush 10, 2) := by decide +kernel
theorem dX5_lane_83 : decode cX5_lane 83 = .ok (.aload_n 0, 1) := by decide +kernel
theorem dX5_lane_84 : decode cX5_lane 84 = .ok (.getfield 38, 3) := by decide +kernel
theorem dX5_lane_87 : decode cX5_lane 87 = .ok (.getfield 96, 3) := by decide +kernel
theorem dX5_lane_90 : decode cX5_lane 90 = .ok (.imul, 1) := by decide +kernel
theorem dX5_lane_91 : decode cX5_lane 91 = .ok (.iadd, 1) := by decide +kernel
theorem dX5_lane_92 : decode cX5_lane 92 = .ok (.aload_n 0, 1) := by decide +kernel
theorem dX5_lane_93 : decode cX5_lane 93 = .ok (.getfield 38, 3) := by decide +kernel
theorem dX5_lane_96 : decode cX5_lane 96 = .ok (.getfield 99, 3) := by decide +kernel
theorem dX5_lane_99 : decode cX5_lane 99 = .ok (.iadd, 1) := by decide +kernel
theorem dX5_lane_100 : decode cX5_lane 100 = .ok (.ireturn, 1) := by decide +kernel
set_option maxRecDepth 20000 in
theorem ggX5_house_X2_hasHouse : GoodIn wsX5_house wsX2_hasHouse := goodIn_r _ [11, 12, 74, 75, 76, 77, 78, 79, 80, 81, 82] (by decide +kernel) (by decide +kernel)
set_option maxRecDepth 20000 in
theorem gX5_house_X2_hasHouse : GoodIn wsX5_house (wsV RX5 102 RX2 yX2_hasHouse wsX2_hasHouse) := goodIn_app (goodIn_of _ (by decide +kernel)) ggX5_house_X2_hasHouse
set_option maxRecDepth 20000 in
theorem ggX5_house_X4_kindAt : GoodIn wsX5_house wsX4_kindAt := goodIn_r _ [17, 18, 19, 20, 83, 84, 85, 86, 87, 88, 74, 75, 76, 77, 78, 79, 80, 81, 82] (by decide +kernel) (by decide +kernel)
set_option maxRecDepth 20000 in
theorem gX5_house_X4_kindAt : GoodIn wsX5_house (wsV RX5 112 RX4 yX4_kindAt wsX4_kindAt) := goodIn_app (goodIn_of _ (by decide +kernel)) ggX5_house_X4_kindAt
set_option maxRecDepth 20000 in
theorem ggX5_house_X4_housesThatHear : GoodIn wsX5_house wsX4_housesThatHear := goodIn_r _ [24, 18, 25, 26, 27, 28, 10, 29, 30, 31, 32, 33, 34, 16, 35, 36, 37, 38, 39, 40, 19, 20, 41, 42, 43, 44, 45, 46, 47, 48, 49, 50, 51, 52, 53, 54, 55, 56, 57, 58, 83, 84, 85, 86, 87, 88, 74, 75, 76, 77, 78, 79, 80, 81, 82] (by decide +kernel) (by decide +kernel)
set_option maxRecDepth 20000 in
theorem gX5_house_X4_housesThatHear : GoodIn wsX5_house (wsV RX5 122 RX4 yX4_housesThatHear wsX4_housesThatHear) := goodIn_app (goodIn_of _ (by decide +kernel)) ggX5_house_X4_housesThatHear
theorem dX5_house_0 : decode cX5_house 0 = .ok (.aload_n 0, 1) := by decide +kernel
theorem dX5_house_1 : decode cX5_house 1 = .ok (.getfield 38, 3) := by decide +kernel
theorem dX5_house_4 : decode cX5_house 4 = .ok (.iload_n 1, 1) := by decide +kernel
theorem dX5_house_5 : decode cX5_house 5 = .ok (.invokevirtual 102, 3) := by decide +kernel
theorem dX5_house_8 : decode cX5_house 8 = .ok (.ifCond .ne 5, 3) := by decide +kernel
theorem dX5_house_11 : decode cX5_house 11 = .ok (.iconst (-1), 1) := by decide +kernel
theorem dX5_house_12 : decode cX5_house 12 = .ok (.ireturn, 1) := by decide +kernel
theorem dX5_house_13 : decode cX5_house 13 = .ok (.iload_n 2, 1) := by decide +kernel
theorem dX5_house_14 : decode cX5_house 14 = .ok (.tableswitch 99 0 5 #[38, 48, 58, 67, 77, 87], 38) := by decide +kernel
theorem dX5_house_52 : decode cX5_house 52 = .ok (.aload_n 0, 1) := by decide +kernel
theorem dX5_house_53 : decode cX5_house 53 = .ok (.getfield 38, 3) := by decide +kernel
theorem dX5_house_56 : decode cX5_house 56 = .ok (.getfield 106, 3) := by decide +kernel
theorem dX5_house_59 : decode cX5_house 59 = .ok (.iload_n 1, 1) := by decide +kernel
theorem dX5_house_60 : decode cX5_house 60 = .ok (.iaload, 1) := by decide +kernel
theorem dX5_house_61 : decode cX5_house 61 = .ok (.ireturn, 1) := by decide +kernel
theorem dX5_house_62 : decode cX5_house 62 = .ok (.aload_n 0, 1) := by decide +kernel
theorem dX5_house_63 : decode cX5_house 63 = .ok (.getfield 52, 3) := by decide +kernel
theorem dX5_house_66 : decode cX5_house 66 = .ok (.getfield 109, 3) := by decide +kernel
theorem dX5_house_69 : decode cX5_house 69 = .ok (.iload_n 1, 1) := by decide +kernel
theorem dX5_house_70 : decode cX5_house 70 = .ok (.iaload, 1) := by decide +kernel
theorem dX5_house_71 : decode cX5_house 71 = .ok (.ireturn, 1) := by decide +kernel
theorem dX5_house_72 : decode cX5_house 72 = .ok (.aload_n 0, 1) := by decide +kernel
theorem dX5_house_73 : decode cX5_house 73 = .ok (.getfield 52, 3) := by decide +kernel
theorem dX5_house_76 : decode cX5_house 76 = .ok (.iload_n 1, 1) := by decide +kernel
theorem dX5_house_77 : decode cX5_house 77 = .ok (.invokevirtual 112, 3) := by decide +kernel
theorem dX5_house_80 : decode cX5_house 80 = .ok (.ireturn, 1) := by decide +kernel
theorem dX5_house_81 : decode cX5_house 81 = .ok (.aload_n 0, 1) := by decide +kernel
theorem dX5_house_82 : decode cX5_house 82 = .ok (.getfield 52, 3) := by decide +kernel
theorem dX5_house_85 : decode cX5_house 85 = .ok (.getfield 116, 3) := by decide +kernel
theorem dX5_house_88 : decode cX5_house 88 = .ok (.iload_n 1, 1) := by decide +kernel
theorem dX5_house_89 : decode cX5_house 89 = .ok (.iaload, 1) := by decide +kernel
theorem dX5_house_90 : decode cX5_house 90 = .ok (.ireturn, 1) := by decide +kernel
theorem dX5_house_91 : decode cX5_house 91 = .ok (.aload_n 0, 1) := by decide +kernel
theorem dX5_house_92 : decode cX5_house 92 = .ok (.getfield 52, 3) := by decide +kernel
theorem dX5_house_95 : decode cX5_house 95 = .ok (.getfield 119, 3) := by decide +kernel
theorem dX5_house_98 : decode cX5_house 98 = .ok (.iload_n 1, 1) := by decide +kernel
theorem dX5_house_99 : decode cX5_house 99 = .ok (.iaload, 1) := by decide +kernel
theorem dX5_house_100 : decode cX5_house 100 = .ok (.ireturn, 1) := by decide +kernel
theorem dX5_house_101 : decode cX5_house 101 = .ok (.aload_n 0, 1) := by decide +kernel
theorem dX5_house_102 : decode cX5_house 102 = .ok (.getfield 52, 3) := by decide +kernel
theorem dX5_house_105 : decode cX5_house 105 = .ok (.invokevirtual 122, 3) := by decide +kernel
theorem dX5_house_108 : decode cX5_house 108 = .ok (.iload_n 1, 1) := by decide +kernel
theorem dX5_house_109 : decode cX5_house 109 = .ok (.ishr, 1) := by decide +kernel
theorem dX5_house_110 : decode cX5_house 110 = .ok (.iconst 1, 1) := by decide +kernel
theorem dX5_house_111 : decode cX5_house 111 = .ok (.iand, 1) := by decide +kernel
theorem dX5_house_112 : decode cX5_house 112 = .ok (.ireturn, 1) := by decide +kernel
theorem dX5_house_113 : decode cX5_house 113 = .ok (.bipush (-2), 2) := by decide +kernel
theorem dX5_house_115 : decode cX5_house 115 = .ok (.ireturn, 1) := by decide +kernel
set_option maxRecDepth 20000 in
theorem ggX5_saying_X2_hasSaying : GoodIn wsX5_saying wsX2_hasSaying := goodIn_r _ [9, 10, 26, 27, 28, 29, 30, 31, 32, 33, 34] (by decide +kernel) (by decide +kernel)
set_option maxRecDepth 20000 in
theorem gX5_saying_X2_hasSaying : GoodIn wsX5_saying (wsV RX5 126 RX2 yX2_hasSaying wsX2_hasSaying) := goodIn_app (goodIn_of _ (by decide +kernel)) ggX5_saying_X2_hasSaying
theorem dX5_saying_0 : decode cX5_saying 0 = .ok (.aload_n 0, 1) := by decide +kernel
theorem dX5_saying_1 : decode cX5_saying 1 = .ok (.getfield 38, 3) := by decide +kernel
theorem dX5_saying_4 : decode cX5_saying 4 = .ok (.iload_n 1, 1) := by decide +kernel
theorem dX5_saying_5 : decode cX5_saying 5 = .ok (.invokevirtual 126, 3) := by decide +kernel
theorem dX5_saying_8 : decode cX5_saying 8 = .ok (.ifCond .ne 5, 3) := by decide +kernel
theorem dX5_saying_11 : decode cX5_saying 11 = .ok (.iconst (-1), 1) := by decide +kernel
theorem dX5_saying_12 : decode cX5_saying 12 = .ok (.ireturn, 1) := by decide +kernel
theorem dX5_saying_13 : decode cX5_saying 13 = .ok (.iload_n 2, 1) := by decide +kernel
theorem dX5_saying_14 : decode cX5_saying 14 = .ok (.tableswitch 56 0 2 #[26, 36, 46], 26) := by decide +kernel
theorem dX5_saying_40 : decode cX5_saying 40 = .ok (.aload_n 0, 1) := by decide +kernel
theorem dX5_saying_41 : decode cX5_saying 41 = .ok (.getfield 38, 3) := by decide +kernel
theorem dX5_saying_44 : decode cX5_saying 44 = .ok (.getfield 129, 3) := by decide +kernel
theorem dX5_saying_47 : decode cX5_saying 47 = .ok (.iload_n 1, 1) := by decide +kernel
theorem dX5_saying_48 : decode cX5_saying 48 = .ok (.iaload, 1) := by decide +kernel
theorem dX5_saying_49 : decode cX5_saying 49 = .ok (.ireturn, 1) := by decide +kernel
theorem dX5_saying_50 : decode cX5_saying 50 = .ok (.aload_n 0, 1) := by decide +kernel
theorem dX5_saying_51 : decode cX5_saying 51 = .ok (.getfield 38, 3) := by decide +kernel
theorem dX5_saying_54 : decode cX5_saying 54 = .ok (.getfield 132, 3) := by decide +kernel
theorem dX5_saying_57 : decode cX5_saying 57 = .ok (.iload_n 1, 1) := by decide +kernel
theorem dX5_saying_58 : decode cX5_saying 58 = .ok (.iaload, 1) := by decide +kernel
theorem dX5_saying_59 : decode cX5_saying 59 = .ok (.ireturn, 1) := by decide +kernel
theorem dX5_saying_60 : decode cX5_saying 60 = .ok (.aload_n 0, 1) := by decide +kernel
theorem dX5_saying_61 : decode cX5_saying 61 = .ok (.getfield 38, 3) := by decide +kernel
theorem dX5_saying_64 : decode cX5_saying 64 = .ok (.getfield 135, 3) := by decide +kernel
theorem dX5_saying_67 : decode cX5_saying 67 = .ok (.iload_n 1, 1) := by decide +kernel
theorem dX5_saying_68 : decode cX5_saying 68 = .ok (.iaload, 1) := by decide +kernel
theorem dX5_saying_69 : decode cX5_saying 69 = .ok (.ireturn, 1) := by decide +kernel
theorem dX5_saying_70 : decode cX5_saying 70 = .ok (.bipush (-2), 2) := by decide +kernel
theorem dX5_saying_72 : decode cX5_saying 72 = .ok (.ireturn, 1) := by decide +kernel
set_option maxRecDepth 20000 in
theorem ggX5_hour_X0_note : GoodIn wsX5_hour wsX0_note := goodIn_r _ [7, 8, 9, 10, 11, 12, 13, 14, 15, 16, 17, 18, 19, 20, 21, 22, 23, 24, 106, 107, 108, 109, 110, 111, 112, 113, 114] (by decide +kernel) (by decide +kernel)
set_option maxRecDepth 20000 in
theorem gX5_hour_X0_note : GoodIn wsX5_hour (wsV RX5 138 RX0 yX0_note wsX0_note) := goodIn_app (goodIn_of _ (by decide +kernel)) ggX5_hour_X0_note
set_option maxRecDepth 20000 in
theorem ggX5_hour_X4_passHour : GoodIn wsX5_hour wsX4_passHour := goodIn_r _ [28, 29, 24, 30, 31, 32, 33, 34, 35, 36, 37, 38, 39, 14, 40, 41, 23, 42, 43, 44, 45, 46, 47, 48, 49, 50, 51, 52, 53, 54, 55, 56, 57, 58, 59, 60, 22, 61, 62, 63, 16, 64, 65, 66, 67, 68, 69, 70, 71, 72, 73, 74, 21, 75, 76, 77, 78, 79, 80, 81, 82, 83, 84, 85, 86, 87, 88, 89, 90, 109, 110, 111, 112, 113, 114, 115, 116, 117, 118, 119, 120, 121, 122, 123] (by decide +kernel) (by decide +kernel)
set_option maxRecDepth 20000 in
theorem gX5_hour_X4_passHour : GoodIn wsX5_hour (wsV RX5 142 RX4 yX4_passHour wsX4_passHour) := goodIn_app (goodIn_of _ (by decide +kernel)) ggX5_hour_X4_passHour
theorem dX5_hour_0 : decode cX5_hour 0 = .ok (.aload_n 0, 1) := by decide +kernel
theorem dX5_hour_1 : decode cX5_hour 1 = .ok (.getfield 62, 3) := by decide +kernel
theorem dX5_hour_4 : decode cX5_hour 4 = .ok (.aload_n 0, 1) := by decide +kernel
theorem dX5_hour_5 : decode cX5_hour 5 = .ok (.getfield 52, 3) := by decide +kernel
theorem dX5_hour_8 : decode cX5_hour 8 = .ok (.invokevirtual 138, 3) := by decide +kernel
theorem dX5_hour_11 : decode cX5_hour 11 = .ok (.aload_n 0, 1) := by decide +kernel
theorem dX5_hour_12 : decode cX5_hour 12 = .ok (.getfield 52, 3) := by decide +kernel
theorem dX5_hour_15 : decode cX5_hour 15 = .ok (.invokevirtual 142, 3) := by decide +kernel
theorem dX5_hour_18 : decode cX5_hour 18 = .ok (.ireturn, 1) := by decide +kernel
set_option maxRecDepth 20000 in
theorem ggX5_lower_X2_hasHouse : GoodIn wsX5_lower wsX2_hasHouse := goodIn_r _ [9, 10, 65, 66, 67, 68, 69, 70, 71, 72, 73] (by decide +kernel) (by decide +kernel)
set_option maxRecDepth 20000 in
theorem gX5_lower_X2_hasHouse : GoodIn wsX5_lower (wsV RX5 102 RX2 yX2_hasHouse wsX2_hasHouse) := goodIn_app (goodIn_of _ (by decide +kernel)) ggX5_lower_X2_hasHouse
set_option maxRecDepth 20000 in
theorem ggX5_lower_X4_canBeLowered : GoodIn wsX5_lower wsX4_canBeLowered := goodIn_r _ [15, 16, 17, 18, 6, 7, 8, 9, 10, 59, 60, 61, 62, 63, 64, 65, 66, 67, 68, 69, 70, 71, 72, 73] (by decide +kernel) (by decide +kernel)
set_option maxRecDepth 20000 in
theorem gX5_lower_X4_canBeLowered : GoodIn wsX5_lower (wsV RX5 145 RX4 yX4_canBeLowered wsX4_canBeLowered) := goodIn_app (goodIn_of _ (by decide +kernel)) ggX5_lower_X4_canBeLowered
set_option maxRecDepth 20000 in
theorem ggX5_lower_X0_note : GoodIn wsX5_lower wsX0_note := goodIn_r _ [23, 24, 25, 26, 27, 28, 29, 14, 30, 31, 32, 33, 34, 35, 36, 17, 37, 38, 74, 75, 76, 59, 60, 61, 62, 63, 64] (by decide +kernel) (by decide +kernel)
set_option maxRecDepth 20000 in
theorem gX5_lower_X0_note : GoodIn wsX5_lower (wsV RX5 138 RX0 yX0_note wsX0_note) := goodIn_app (goodIn_of _ (by decide +kernel)) ggX5_lower_X0_note
set_option maxRecDepth 20000 in
theorem ggX5_lower_X4_tryLowered : GoodIn wsX5_lower wsX4_tryLowered := goodIn_r _ [42, 17, 43, 12, 13, 14, 15, 16, 18, 6, 7, 8, 9, 10, 59, 60, 61, 62, 63, 64, 65, 66, 67, 68, 69, 70, 71, 72, 73] (by decide +kernel) (by decide +kernel)
set_option maxRecDepth 20000 in
theorem gX5_lower_X4_tryLowered : GoodIn wsX5_lower (wsV RX5 148 RX4 yX4_tryLowered wsX4_tryLowered) := goodIn_app (goodIn_of _ (by decide +kernel)) ggX5_lower_X4_tryLowered
theorem dX5_lower_0 : decode cX5_lower 0 = .ok (.aload_n 0, 1) := by decide +kernel
theorem dX5_lower_1 : decode cX5_lower 1 = .ok (.getfield 38, 3) := by decide +kernel
theorem dX5_lower_4 : decode cX5_lower 4 = .ok (.iload_n 1, 1) := by decide +kernel
theorem dX5_lower_5 : decode cX5_lower 5 = .ok (.invokevirtual 102, 3) := by decide +kernel
theorem dX5_lower_8 : decode cX5_lower 8 = .ok (.ifCond .ne 5, 3) := by decide +kernel
theorem dX5_lower_11 : decode cX5_lower 11 = .ok (.iconst (-1), 1) := by decide +kernel
theorem dX5_lower_12 : decode cX5_lower 12 = .ok (.ireturn, 1) := by decide +kernel
theorem dX5_lower_13 : decode cX5_lower 13 = .ok (.aload_n 0, 1) := by decide +kernel
theorem dX5_lower_14 : decode cX5_lower 14 = .ok (.getfield 52, 3) := by decide +kernel
theorem dX5_lower_17 : decode cX5_lower 17 = .ok (.iload_n 1, 1) := by decide +kernel
theorem dX5_lower_18 : decode cX5_lower 18 = .ok (.invokevirtual 145, 3) := by decide +kernel
theorem dX5_lower_21 : decode cX5_lower 21 = .ok (.ifCond .ne 6, 3) := by decide +kernel
theorem dX5_lower_24 : decode cX5_lower 24 = .ok (.bipush (-3), 2) := by decide +kernel
theorem dX5_lower_26 : decode cX5_lower 26 = .ok (.ireturn, 1) := by decide +kernel
theorem dX5_lower_27 : decode cX5_lower 27 = .ok (.aload_n 0, 1) := by decide +kernel
theorem dX5_lower_28 : decode cX5_lower 28 = .ok (.getfield 62, 3) := by decide +kernel
theorem dX5_lower_31 : decode cX5_lower 31 = .ok (.aload_n 0, 1) := by decide +kernel
theorem dX5_lower_32 : decode cX5_lower 32 = .ok (.getfield 52, 3) := by decide +kernel
theorem dX5_lower_35 : decode cX5_lower 35 = .ok (.invokevirtual 138, 3) := by decide +kernel
theorem dX5_lower_38 : decode cX5_lower 38 = .ok (.aload_n 0, 1) := by decide +kernel
theorem dX5_lower_39 : decode cX5_lower 39 = .ok (.getfield 52, 3) := by decide +kernel
theorem dX5_lower_42 : decode cX5_lower 42 = .ok (.iload_n 1, 1) := by decide +kernel
theorem dX5_lower_43 : decode cX5_lower 43 = .ok (.invokevirtual 148, 3) := by decide +kernel
theorem dX5_lower_46 : decode cX5_lower 46 = .ok (.pop, 1) := by decide +kernel
theorem dX5_lower_47 : decode cX5_lower 47 = .ok (.aload_n 0, 1) := by decide +kernel
theorem dX5_lower_48 : decode cX5_lower 48 = .ok (.getfield 52, 3) := by decide +kernel
theorem dX5_lower_51 : decode cX5_lower 51 = .ok (.getfield 109, 3) := by decide +kernel
theorem dX5_lower_54 : decode cX5_lower 54 = .ok (.iload_n 1, 1) := by decide +kernel
theorem dX5_lower_55 : decode cX5_lower 55 = .ok (.iaload, 1) := by decide +kernel
theorem dX5_lower_56 : decode cX5_lower 56 = .ok (.ireturn, 1) := by decide +kernel
set_option maxRecDepth 20000 in
theorem ggX5_raise_X2_hasHouse : GoodIn wsX5_raise wsX2_hasHouse := goodIn_r _ [9, 10, 65, 66, 67, 68, 69, 70, 71, 72, 73] (by decide +kernel) (by decide +kernel)
set_option maxRecDepth 20000 in
theorem gX5_raise_X2_hasHouse : GoodIn wsX5_raise (wsV RX5 102 RX2 yX2_hasHouse wsX2_hasHouse) := goodIn_app (goodIn_of _ (by decide +kernel)) ggX5_raise_X2_hasHouse
set_option maxRecDepth 20000 in
theorem ggX5_raise_X4_canBeRaised : GoodIn wsX5_raise wsX4_canBeRaised := goodIn_r _ [15, 16, 17, 18, 6, 7, 8, 9, 10, 59, 60, 61, 62, 63, 64, 65, 66, 67, 68, 69, 70, 71, 72, 73] (by decide +kernel) (by decide +kernel)
set_option maxRecDepth 20000 in
theorem gX5_raise_X4_canBeRaised : GoodIn wsX5_raise (wsV RX5 151 RX4 yX4_canBeRaised wsX4_canBeRaised) := goodIn_app (goodIn_of _ (by decide +kernel)) ggX5_raise_X4_canBeRaised
set_option maxRecDepth 20000 in
theorem ggX5_raise_X0_note : GoodIn wsX5_raise wsX0_note := goodIn_r _ [23, 24, 25, 26, 27, 28, 29, 14, 30, 31, 32, 33, 34, 35, 36, 17, 37, 38, 74, 75, 76, 59, 60, 61, 62, 63, 64] (by decide +kernel) (by decide +kernel)
set_option maxRecDepth 20000 in
theorem gX5_raise_X0_note : GoodIn wsX5_raise (wsV RX5 138 RX0 yX0_note wsX0_note) := goodIn_app (goodIn_of _ (by decide +kernel)) ggX5_raise_X0_note
set_option maxRecDepth 20000 in
theorem ggX5_raise_X4_tryRaised : GoodIn wsX5_raise wsX4_tryRaised := goodIn_r _ [42, 17, 43, 12, 13, 14, 15, 16, 18, 6, 7, 8, 9, 10, 59, 60, 61, 62, 63, 64, 65, 66, 67, 68, 69, 70, 71, 72, 73] (by decide +kernel) (by decide +kernel)
set_option maxRecDepth 20000 in
theorem gX5_raise_X4_tryRaised : GoodIn wsX5_raise (wsV RX5 154 RX4 yX4_tryRaised wsX4_tryRaised) := goodIn_app (goodIn_of _ (by decide +kernel)) ggX5_raise_X4_tryRaised
theorem dX5_raise_0 : decode cX5_raise 0 = .ok (.aload_n 0, 1) := by decide +kernel
theorem dX5_raise_1 : decode cX5_raise 1 = .ok (.getfield 38, 3) := by decide +kernel
theorem dX5_raise_4 : decode cX5_raise 4 = .ok (.iload_n 1, 1) := by decide +kernel
theorem dX5_raise_5 : decode cX5_raise 5 = .ok (.invokevirtual 102, 3) := by decide +kernel
theorem dX5_raise_8 : decode cX5_raise 8 = .ok (.ifCond .ne 5, 3) := by decide +kernel
theorem dX5_raise_11 : decode cX5_raise 11 = .ok (.iconst (-1), 1) := by decide +kernel
theorem dX5_raise_12 : decode cX5_raise 12 = .ok (.ireturn, 1) := by decide +kernel
theorem dX5_raise_13 : decode cX5_raise 13 = .ok (.aload_n 0, 1) := by decide +kernel
theorem dX5_raise_14 : decode cX5_raise 14 = .ok (.getfield 52, 3) := by decide +kernel
theorem dX5_raise_17 : decode cX5_raise 17 = .ok (.iload_n 1, 1) := by decide +kernel
theorem dX5_raise_18 : decode cX5_raise 18 = .ok (.invokevirtual 151, 3) := by decide +kernel
theorem dX5_raise_21 : decode cX5_raise 21 = .ok (.ifCond .ne 6, 3) := by decide +kernel
theorem dX5_raise_24 : decode cX5_raise 24 = .ok (.bipush (-3), 2) := by decide +kernel
theorem dX5_raise_26 : decode cX5_raise 26 = .ok (.ireturn, 1) := by decide +kernel
theorem dX5_raise_27 : decode cX5_raise 27 = .ok (.aload_n 0, 1) := by decide +kernel
theorem dX5_raise_28 : decode cX5_raise 28 = .ok (.getfield 62, 3) := by decide +kernel
theorem dX5_raise_31 : decode cX5_raise 31 = .ok (.aload_n 0, 1) := by decide +kernel
theorem dX5_raise_32 : decode cX5_raise 32 = .ok (.getfield 52, 3) := by decide +kernel
theorem dX5_raise_35 : decode cX5_raise 35 = .ok (.invokevirtual 138, 3) := by decide +kernel
theorem dX5_raise_38 : decode cX5_raise 38 = .ok (.aload_n 0, 1) := by decide +kernel
theorem dX5_raise_39 : decode cX5_raise 39 = .ok (.getfield 52, 3) := by decide +kernel
theorem dX5_raise_42 : decode cX5_raise 42 = .ok (.iload_n 1, 1) := by decide +kernel
theorem dX5_raise_43 : decode cX5_raise 43 = .ok (.invokevirtual 154, 3) := by decide +kernel
theorem dX5_raise_46 : decode cX5_raise 46 = .ok (.pop, 1) := by decide +kernel
theorem dX5_raise_47 : decode cX5_raise 47 = .ok (.aload_n 0, 1) := by decide +kernel
theorem dX5_raise_48 : decode cX5_raise 48 = .ok (.getfield 52, 3) := by decide +kernel
theorem dX5_raise_51 : decode cX5_raise 51 = .ok (.getfield 109, 3) := by decide +kernel
theorem dX5_raise_54 : decode cX5_raise 54 = .ok (.iload_n 1, 1) := by decide +kernel
theorem dX5_raise_55 : decode cX5_raise 55 = .ok (.iaload, 1) := by decide +kernel
theorem dX5_raise_56 : decode cX5_raise 56 = .ok (.ireturn, 1) := by decide +kernel
set_option maxRecDepth 20000 in
theorem ggX5_change_X2_hasHouse : GoodIn wsX5_change wsX2_hasHouse := goodIn_r _ [9, 10, 60, 61, 62, 63, 64, 65, 66, 67, 68] (by decide +kernel) (by decide +kernel)
set_option maxRecDepth 20000 in
theorem gX5_change_X2_hasHouse : GoodIn wsX5_change (wsV RX5 102 RX2 yX2_hasHouse wsX2_hasHouse) := goodIn_app (goodIn_of _ (by decide +kernel)) ggX5_change_X2_hasHouse
set_option maxRecDepth 20000 in
theorem ggX5_change_X0_note : GoodIn wsX5_change wsX0_note := goodIn_r _ [15, 16, 17, 18, 19, 20, 21, 22, 23, 24, 25, 26, 27, 28, 29, 30, 31, 32, 69, 70, 71, 54, 55, 56, 57, 58, 59] (by decide +kernel) (by decide +kernel)
set_option maxRecDepth 20000 in
theorem gX5_change_X0_note : GoodIn wsX5_change (wsV RX5 138 RX0 yX0_note wsX0_note) := goodIn_app (goodIn_of _ (by decide +kernel)) ggX5_change_X0_note
set_option maxRecDepth 20000 in
theorem ggX5_change_X4_tryChanged : GoodIn wsX5_change wsX4_tryChanged := goodIn_r _ [36, 37, 24, 29, 38, 6, 7, 8, 9, 10, 54, 55, 56, 57, 58, 59, 60, 61, 62, 63, 64, 65, 66, 67, 68] (by decide +kernel) (by decide +kernel)
set_option maxRecDepth 20000 in
theorem gX5_change_X4_tryChanged : GoodIn wsX5_change (wsV RX5 157 RX4 yX4_tryChanged wsX4_tryChanged) := goodIn_app (goodIn_of _ (by decide +kernel)) ggX5_change_X4_tryChanged
theorem dX5_change_0 : decode cX5_change 0 = .ok (.aload_n 0, 1) := by decide +kernel
theorem dX5_change_1 : decode cX5_change 1 = .ok (.getfield 38, 3) := by decide +kernel
theorem dX5_change_4 : decode cX5_change 4 = .ok (.iload_n 1, 1) := by decide +kernel
theorem dX5_change_5 : decode cX5_change 5 = .ok (.invokevirtual 102, 3) := by decide +kernel
theorem dX5_change_8 : decode cX5_change 8 = .ok (.ifCond .eq 14, 3) := by decide +kernel
theorem dX5_change_11 : decode cX5_change 11 = .ok (.aload_n 0, 1) := by decide +kernel
theorem dX5_change_12 : decode cX5_change 12 = .ok (.getfield 38, 3) := by decide +kernel
theorem dX5_change_15 : decode cX5_change 15 = .ok (.iload_n 2, 1) := by decide +kernel
theorem dX5_change_16 : decode cX5_change 16 = .ok (.invokevirtual 102, 3) := by decide +kernel
theorem dX5_change_19 : decode cX5_change 19 = .ok (.ifCond .ne 5, 3) := by decide +kernel
theorem dX5_change_22 : decode cX5_change 22 = .ok (.iconst (-1), 1) := by decide +kernel
theorem dX5_change_23 : decode cX5_change 23 = .ok (.ireturn, 1) := by decide +kernel
theorem dX5_change_24 : decode cX5_change 24 = .ok (.iload_n 1, 1) := by decide +kernel
theorem dX5_change_25 : decode cX5_change 25 = .ok (.iload_n 2, 1) := by decide +kernel
theorem dX5_change_26 : decode cX5_change 26 = .ok (.if_icmp .ne 6, 3) := by decide +kernel
theorem dX5_change_29 : decode cX5_change 29 = .ok (.bipush (-2), 2) := by decide +kernel
theorem dX5_change_31 : decode cX5_change 31 = .ok (.ireturn, 1) := by decide +kernel
theorem dX5_change_32 : decode cX5_change 32 = .ok (.aload_n 0, 1) := by decide +kernel
theorem dX5_change_33 : decode cX5_change 33 = .ok (.getfield 62, 3) := by decide +kernel
theorem dX5_change_36 : decode cX5_change 36 = .ok (.aload_n 0, 1) := by decide +kernel
theorem dX5_change_37 : decode cX5_change 37 = .ok (.getfield 52, 3) := by decide +kernel
theorem dX5_change_40 : decode cX5_change 40 = .ok (.invokevirtual 138, 3) := by decide +kernel
theorem dX5_change_43 : decode cX5_change 43 = .ok (.aload_n 0, 1) := by decide +kernel
theorem dX5_change_44 : decode cX5_change 44 = .ok (.getfield 52, 3) := by decide +kernel
theorem dX5_change_47 : decode cX5_change 47 = .ok (.iload_n 1, 1) := by decide +kernel
theorem dX5_change_48 : decode cX5_change 48 = .ok (.iload_n 2, 1) := by decide +kernel
theorem dX5_change_49 : decode cX5_change 49 = .ok (.invokevirtual 157, 3) := by decide +kernel
theorem dX5_change_52 : decode cX5_change 52 = .ok (.pop, 1) := by decide +kernel
theorem dX5_change_53 : decode cX5_change 53 = .ok (.aload_n 0, 1) := by decide +kernel
theorem dX5_change_54 : decode cX5_change 54 = .ok (.getfield 52, 3) := by decide +kernel
theorem dX5_change_57 : decode cX5_change 57 = .ok (.getfield 116, 3) := by decide +kernel
theorem dX5_change_60 : decode cX5_change 60 = .ok (.iload_n 1, 1) := by decide +kernel
theorem dX5_change_61 : decode cX5_change 61 = .ok (.iaload, 1) := by decide +kernel
theorem dX5_change_62 : decode cX5_change 62 = .ok (.ireturn, 1) := by decide +kernel
set_option maxRecDepth 20000 in
theorem ggX5_plate_X2_hasHouse : GoodIn wsX5_plate wsX2_hasHouse := goodIn_r _ [9, 10, 64, 65, 66, 67, 68, 69, 70, 71, 72] (by decide +kernel) (by decide +kernel)
set_option maxRecDepth 20000 in
theorem gX5_plate_X2_hasHouse : GoodIn wsX5_plate (wsV RX5 102 RX2 yX2_hasHouse wsX2_hasHouse) := goodIn_app (goodIn_of _ (by decide +kernel)) ggX5_plate_X2_hasHouse
set_option maxRecDepth 20000 in
theorem ggX5_plate_X2_hasNext : GoodIn wsX5_plate wsX2_hasNext := goodIn_r _ [14, 10, 64, 65, 66, 67, 68, 69, 70, 71, 72] (by decide +kernel) (by decide +kernel)
set_option maxRecDepth 20000 in
theorem gX5_plate_X2_hasNext : GoodIn wsX5_plate (wsV RX5 161 RX2 yX2_hasNext wsX2_hasNext) := goodIn_app (goodIn_of _ (by decide +kernel)) ggX5_plate_X2_hasNext
set_option maxRecDepth 20000 in
theorem ggX5_plate_X0_note : GoodIn wsX5_plate wsX0_note := goodIn_r _ [19, 20, 21, 22, 23, 24, 25, 26, 27, 28, 29, 30, 31, 32, 33, 34, 35, 36, 73, 74, 75, 58, 59, 60, 61, 62, 63] (by decide +kernel) (by decide +kernel)
set_option maxRecDepth 20000 in
theorem gX5_plate_X0_note : GoodIn wsX5_plate (wsV RX5 138 RX0 yX0_note wsX0_note) := goodIn_app (goodIn_of _ (by decide +kernel)) ggX5_plate_X0_note
set_option maxRecDepth 20000 in
theorem ggX5_plate_X4_tryPlate : GoodIn wsX5_plate wsX4_tryPlate := goodIn_r _ [40, 41, 33, 42, 12, 13, 8, 14, 10, 58, 59, 60, 61, 62, 63, 64, 65, 66, 67, 68, 69, 70, 71, 72] (by decide +kernel) (by decide +kernel)
set_option maxRecDepth 20000 in
theorem gX5_plate_X4_tryPlate : GoodIn wsX5_plate (wsV RX5 164 RX4 yX4_tryPlate wsX4_tryPlate) := goodIn_app (goodIn_of _ (by decide +kernel)) ggX5_plate_X4_tryPlate
theorem dX5_plate_0 : decode cX5_plate 0 = .ok (.aload_n 0, 1) := by decide +kernel
theorem dX5_plate_1 : decode cX5_plate 1 = .ok (.getfield 38, 3) := by decide +kernel
theorem dX5_plate_4 : decode cX5_plate 4 = .ok (.iload_n 1, 1) := by decide +kernel
theorem dX5_plate_5 : decode cX5_plate 5 = .ok (.invokevirtual 102, 3) := by decide +kernel
theorem dX5_plate_8 : decode cX5_plate 8 = .ok (.ifCond .ne 5, 3) := by decide +kernel
theorem dX5_plate_11 : decode cX5_plate 11 = .ok (.iconst (-1), 1) := by decide +kernel
theorem dX5_plate_12 : decode cX5_plate 12 = .ok (.ireturn, 1) := by decide +kernel
theorem dX5_plate_13 : decode cX5_plate 13 = .ok (.aload_n 0, 1) := by decide +kernel
theorem dX5_plate_14 : decode cX5_plate 14 = .ok (.getfield 38, 3) := by decide +kernel
theorem dX5_plate_17 : decode cX5_plate 17 = .ok (.iload_n 1, 1) := by decide +kernel
theorem dX5_plate_18 : decode cX5_plate 18 = .ok (.invokevirtual 161, 3) := by decide +kernel
theorem dX5_plate_21 : decode cX5_plate 21 = .ok (.ifCond .ne 6, 3) := by decide +kernel
theorem dX5_plate_24 : decode cX5_plate 24 = .ok (.bipush (-3), 2) := by decide +kernel
theorem dX5_plate_26 : decode cX5_plate 26 = .ok (.ireturn, 1) := by decide +kernel
theorem dX5_plate_27 : decode cX5_plate 27 = .ok (.aload_n 0, 1) := by decide +kernel
theorem dX5_plate_28 : decode cX5_plate 28 = .ok (.getfield 62, 3) := by decide +kernel
theorem dX5_plate_31 : decode cX5_plate 31 = .ok (.aload_n 0, 1) := by decide +kernel
theorem dX5_plate_32 : decode cX5_plate 32 = .ok (.getfield 52, 3) := by decide +kernel
theorem dX5_plate_35 : decode cX5_plate 35 = .ok (.invokevirtual 138, 3) := by decide +kernel
theorem dX5_plate_38 : decode cX5_plate 38 = .ok (.aload_n 0, 1) := by decide +kernel
theorem dX5_plate_39 : decode cX5_plate 39 = .ok (.getfield 52, 3) := by decide +kernel
theorem dX5_plate_42 : decode cX5_plate 42 = .ok (.iload_n 1, 1) := by decide +kernel
theorem dX5_plate_43 : decode cX5_plate 43 = .ok (.invokevirtual 164, 3) := by decide +kernel
theorem dX5_plate_46 : decode cX5_plate 46 = .ok (.pop, 1) := by decide +kernel
theorem dX5_plate_47 : decode cX5_plate 47 = .ok (.aload_n 0, 1) := by decide +kernel
theorem dX5_plate_48 : decode cX5_plate 48 = .ok (.getfield 52, 3) := by decide +kernel
theorem dX5_plate_51 : decode cX5_plate 51 = .ok (.getfield 116, 3) := by decide +kernel
theorem dX5_plate_54 : decode cX5_plate 54 = .ok (.iload_n 1, 1) := by decide +kernel
theorem dX5_plate_55 : decode cX5_plate 55 = .ok (.iconst 1, 1) := by decide +kernel
theorem dX5_plate_56 : decode cX5_plate 56 = .ok (.iadd, 1) := by decide +kernel
theorem dX5_plate_57 : decode cX5_plate 57 = .ok (.iaload, 1) := by decide +kernel
theorem dX5_plate_58 : decode cX5_plate 58 = .ok (.ireturn, 1) := by decide +kernel
set_option maxRecDepth 20000 in
theorem ggX5_undo_X0_takeBack : GoodIn wsX5_undo wsX0_takeBack := goodIn_r _ [8, 9, 10, 11, 12, 13, 14, 15, 16, 17, 18, 19, 20, 21, 22, 23, 24, 25, 41, 42, 43, 44, 45, 46, 47, 48, 49] (by decide +kernel) (by decide +kernel)
set_option maxRecDepth 20000 in
theorem gX5_undo_X0_takeBack : GoodIn wsX5_undo (wsV RX5 170 RX0 yX0_takeBack wsX0_takeBack) := goodIn_app (goodIn_of _ (by decide +kernel)) ggX5_undo_X0_takeBack
theorem dX5_undo_0 : decode cX5_undo 0 = .ok (.aload_n 0, 1) := by decide +kernel
theorem dX5_undo_1 : decode cX5_undo 1 = .ok (.getfield 62, 3) := by decide +kernel
theorem dX5_undo_4 : decode cX5_undo 4 = .ok (.getfield 167, 3) := by decide +kernel
theorem dX5_undo_7 : decode cX5_undo 7 = .ok (.ifCond .ne 6, 3) := by decide +kernel
theorem dX5_undo_10 : decode cX5_undo 10 = .ok (.bipush (-3), 2) := by decide +kernel
theorem dX5_undo_12 : decode cX5_undo 12 = .ok (.ireturn, 1) := by decide +kernel
theorem dX5_undo_13 : decode cX5_undo 13 = .ok (.aload_n 0, 1) := by decide +kernel
theorem dX5_undo_14 : decode cX5_undo 14 = .ok (.getfield 62, 3) := by decide +kernel
theorem dX5_undo_17 : decode cX5_undo 17 = .ok (.aload_n 0, 1) := by decide +kernel
theorem dX5_undo_18 : decode cX5_undo 18 = .ok (.getfield 52, 3) := by decide +kernel
theorem dX5_undo_21 : decode cX5_undo 21 = .ok (.invokevirtual 170, 3) := by decide +kernel
theorem dX5_undo_24 : decode cX5_undo 24 = .ok (.aload_n 0, 1) := by decide +kernel
theorem dX5_undo_25 : decode cX5_undo 25 = .ok (.getfield 62, 3) := by decide +kernel
theorem dX5_undo_28 : decode cX5_undo 28 = .ok (.getfield 167, 3) := by decide +kernel
theorem dX5_undo_31 : decode cX5_undo 31 = .ok (.ireturn, 1) := by decide +kernel
set_option maxRecDepth 20000 in
theorem ggX5_later_X2_hasHouse : GoodIn wsX5_later wsX2_hasHouse := goodIn_r _ [9, 10, 110, 111, 112, 113, 114, 115, 116, 117, 118] (by decide +kernel) (by decide +kernel)
set_option maxRecDepth 20000 in
theorem gX5_later_X2_hasHouse : GoodIn wsX5_later (wsV RX5 102 RX2 yX2_hasHouse wsX2_hasHouse) := goodIn_app (goodIn_of _ (by decide +kernel)) ggX5_later_X2_hasHouse
set_option maxRecDepth 20000 in
theorem ggX5_later_X4_take : GoodIn wsX5_later wsX4_take := goodIn_r _ [15, 16, 17, 18, 19, 20, 21, 22, 23, 24, 104, 105, 106, 107, 108, 109] (by decide +kernel) (by decide +kernel)
set_option maxRecDepth 20000 in
theorem gX5_later_X4_take : GoodIn wsX5_later (wsV RX5 173 RX4 yX4_take wsX4_take) := goodIn_app (goodIn_of _ (by decide +kernel)) ggX5_later_X4_take
set_option maxRecDepth 20000 in
theorem ggX5_later_X4_passHours : GoodIn wsX5_later wsX4_passHours := goodIn_r _ [28, 29, 24, 30, 31, 32, 8, 33, 34, 35, 36, 37, 38, 14, 39, 40, 23, 41, 42, 43, 44, 45, 46, 47, 48, 49, 50, 51, 52, 53, 54, 55, 56, 57, 58, 59, 22, 60, 61, 62, 16, 63, 64, 65, 66, 67, 68, 69, 70, 71, 72, 73, 21, 74, 75, 76, 77, 10, 78, 79, 80, 81, 82, 83, 84, 85, 86, 87, 88, 104, 105, 106, 107, 108, 109, 110, 111, 112, 113, 114, 115, 116, 117, 118] (by decide +kernel) (by decide +kernel)
set_option maxRecDepth 20000 in
theorem gX5_later_X4_passHours : GoodIn wsX5_later (wsV RX5 175 RX4 yX4_passHours wsX4_passHours) := goodIn_app (goodIn_of _ (by decide +kernel)) ggX5_later_X4_passHours
theorem dX5_later_0 : decode cX5_later 0 = .ok (.aload_n 0, 1) := by decide +kernel
theorem dX5_later_1 : decode cX5_later 1 = .ok (.getfield 38, 3) := by decide +kernel
theorem dX5_later_4 : decode cX5_later 4 = .ok (.iload_n 1, 1) := by decide +kernel
theorem dX5_later_5 : decode cX5_later 5 = .ok (.invokevirtual 102, 3) := by decide +kernel
theorem dX5_later_8 : decode cX5_later 8 = .ok (.ifCond .ne 5, 3) := by decide +kernel
theorem dX5_later_11 : decode cX5_later 11 = .ok (.iconst (-1), 1) := by decide +kernel
theorem dX5_later_12 : decode cX5_later 12 = .ok (.ireturn, 1) := by decide +kernel
theorem dX5_later_13 : decode cX5_later 13 = .ok (.iload_n 2, 1) := by decide +kernel
theorem dX5_later_14 : decode cX5_later 14 = .ok (.ifCond .lt 9, 3) := by decide +kernel
theorem dX5_later_17 : decode cX5_later 17 = .ok (.iload_n 2, 1) := by decide +kernel
theorem dX5_later_18 : decode cX5_later 18 = .ok (.bipush 30, 2) := by decide +kernel
theorem dX5_later_20 : decode cX5_later 20 = .ok (.if_icmp .le 6, 3) := by decide +kernel
theorem dX5_later_23 : decode cX5_later 23 = .ok (.bipush (-2), 2) := by decide +kernel
theorem dX5_later_25 : decode cX5_later 25 = .ok (.ireturn, 1) := by decide +kernel
theorem dX5_later_26 : decode cX5_later 26 = .ok (.aload_n 0, 1) := by decide +kernel
theorem dX5_later_27 : decode cX5_later 27 = .ok (.getfield 56, 3) := by decide +kernel
theorem dX5_later_30 : decode cX5_later 30 = .ok (.aload_n 0, 1) := by decide +kernel
theorem dX5_later_31 : decode cX5_later 31 = .ok (.getfield 52, 3) := by decide +kernel
theorem dX5_later_34 : decode cX5_later 34 = .ok (.invokevirtual 173, 3) := by decide +kernel
theorem dX5_later_37 : decode cX5_later 37 = .ok (.aload_n 0, 1) := by decide +kernel
theorem dX5_later_38 : decode cX5_later 38 = .ok (.getfield 56, 3) := by decide +kernel
theorem dX5_later_41 : decode cX5_later 41 = .ok (.iload_n 2, 1) := by decide +kernel
theorem dX5_later_42 : decode cX5_later 42 = .ok (.invokevirtual 175, 3) := by decide +kernel
theorem dX5_later_45 : decode cX5_later 45 = .ok (.aload_n 0, 1) := by decide +kernel
theorem dX5_later_46 : decode cX5_later 46 = .ok (.getfield 56, 3) := by decide +kernel
theorem dX5_later_49 : decode cX5_later 49 = .ok (.getfield 116, 3) := by decide +kernel
theorem dX5_later_52 : decode cX5_later 52 = .ok (.iload_n 1, 1) := by decide +kernel
theorem dX5_later_53 : decode cX5_later 53 = .ok (.iaload, 1) := by decide +kernel
theorem dX5_later_54 : decode cX5_later 54 = .ok (.ireturn, 1) := by decide +kernel
set_option maxRecDepth 20000 in
theorem ggX5_first_X2_hasHouse : GoodIn wsX5_first wsX2_hasHouse := goodIn_r _ [8, 9, 111, 112, 113, 114, 115, 116, 117, 118, 119] (by decide +kernel) (by decide +kernel)
set_option maxRecDepth 20000 in
theorem gX5_first_X2_hasHouse : GoodIn wsX5_first (wsV RX5 102 RX2 yX2_hasHouse wsX2_hasHouse) := goodIn_app (goodIn_of _ (by decide +kernel)) ggX5_first_X2_hasHouse
set_option maxRecDepth 20000 in
theorem ggX5_first_X5_isThing : GoodIn wsX5_first wsX5_isThing := goodIn_r _ [13] (by decide +kernel) (by decide +kernel)
set_option maxRecDepth 20000 in
theorem gX5_first_X5_isThing : GoodIn wsX5_first (va_wsS RX5 179 yX5_isThing wsX5_isThing) := goodIn_app (goodIn_of _ (by decide +kernel)) ggX5_first_X5_isThing
set_option maxRecDepth 20000 in
theorem ggX5_first_X4_take : GoodIn wsX5_first wsX4_take := goodIn_r _ [18, 19, 20, 21, 22, 23, 24, 25, 26, 27, 120, 121, 122, 123, 124, 125] (by decide +kernel) (by decide +kernel)
set_option maxRecDepth 20000 in
theorem gX5_first_X4_take : GoodIn wsX5_first (wsV RX5 173 RX4 yX4_take wsX4_take) := goodIn_app (goodIn_of _ (by decide +kernel)) ggX5_first_X4_take
set_option maxRecDepth 20000 in
theorem ggX5_first_X4_knowsThing : GoodIn wsX5_first wsX4_knowsThing := goodIn_r _ [31, 24, 120, 121, 122, 123, 124, 125] (by decide +kernel) (by decide +kernel)
set_option maxRecDepth 20000 in
theorem gX5_first_X4_knowsThing : GoodIn wsX5_first (wsV RX5 182 RX4 yX4_knowsThing wsX4_knowsThing) := goodIn_app (goodIn_of _ (by decide +kernel)) ggX5_first_X4_knowsThing
set_option maxRecDepth 20000 in
theorem ggX5_first_X4_passHour : GoodIn wsX5_first wsX4_passHour := goodIn_r _ [35, 36, 27, 37, 38, 39, 7, 40, 41, 42, 43, 44, 45, 17, 46, 47, 26, 48, 49, 50, 51, 52, 53, 54, 55, 56, 57, 58, 59, 60, 61, 62, 63, 64, 65, 66, 25, 67, 68, 69, 19, 70, 71, 72, 73, 74, 75, 76, 77, 78, 79, 80, 24, 81, 82, 83, 84, 9, 85, 86, 87, 88, 89, 90, 91, 92, 93, 94, 95, 120, 121, 122, 123, 124, 125, 111, 112, 113, 114, 115, 116, 117, 118, 119] (by decide +kernel) (by decide +kernel)
set_option maxRecDepth 20000 in
theorem gX5_first_X4_passHour : GoodIn wsX5_first (wsV RX5 142 RX4 yX4_passHour wsX4_passHour) := goodIn_app (goodIn_of _ (by decide +kernel)) ggX5_first_X4_passHour
theorem dX5_first_0 : decode cX5_first 0 = .ok (.aload_n 0, 1) := by decide +kernel
theorem dX5_first_1 : decode cX5_first 1 = .ok (.getfield 38, 3) := by decide +kernel
theorem dX5_first_4 : decode cX5_first 4 = .ok (.iload_n 1, 1) := by decide +kernel
theorem dX5_first_5 : decode cX5_first 5 = .ok (.invokevirtual 102, 3) := by decide +kernel
theorem dX5_first_8 : decode cX5_first 8 = .ok (.ifCond .eq 10, 3) := by decide +kernel
theorem dX5_first_11 : decode cX5_first 11 = .ok (.iload_n 2, 1) := by decide +kernel
theorem dX5_first_12 : decode cX5_first 12 = .ok (.invokestatic 179, 3) := by decide +kernel
theorem dX5_first_15 : decode cX5_first 15 = .ok (.ifCond .ne 5, 3) := by decide +kernel
theorem dX5_first_18 : decode cX5_first 18 = .ok (.iconst (-1), 1) := by decide +kernel
theorem dX5_first_19 : decode cX5_first 19 = .ok (.ireturn, 1) := by decide +kernel
theorem dX5_first_20 : decode cX5_first 20 = .ok (.aload_n 0, 1) := by decide +kernel
theorem dX5_first_21 : decode cX5_first 21 = .ok (.getfield 56, 3) := by decide +kernel
theorem dX5_first_24 : decode cX5_first 24 = .ok (.aload_n 0, 1) := by decide +kernel
theorem dX5_first_25 : decode cX5_first 25 = .ok (.getfield 52, 3) := by decide +kernel
theorem dX5_first_28 : decode cX5_first 28 = .ok (.invokevirtual 173, 3) := by decide +kernel
theorem dX5_first_31 : decode cX5_first 31 = .ok (.iconst 0, 1) := by decide +kernel
theorem dX5_first_32 : decode cX5_first 32 = .ok (.istore_n 3, 1) := by decide +kernel
theorem dX5_first_33 : decode cX5_first 33 = .ok (.iload_n 3, 1) := by decide +kernel
theorem dX5_first_34 : decode cX5_first 34 = .ok (.bipush 30, 2) := by decide +kernel
theorem dX5_first_36 : decode cX5_first 36 = .ok (.if_icmp .gt 31, 3) := by decide +kernel
theorem dX5_first_39 : decode cX5_first 39 = .ok (.aload_n 0, 1) := by decide +kernel
theorem dX5_first_40 : decode cX5_first 40 = .ok (.getfield 56, 3) := by decide +kernel
theorem dX5_first_43 : decode cX5_first 43 = .ok (.iload_n 1, 1) := by decide +kernel
theorem dX5_first_44 : decode cX5_first 44 = .ok (.iload_n 2, 1) := by decide +kernel
theorem dX5_first_45 : decode cX5_first 45 = .ok (.invokevirtual 182, 3) := by decide +kernel
theorem dX5_first_48 : decode cX5_first 48 = .ok (.ifCond .eq 5, 3) := by decide +kernel
theorem dX5_first_51 : decode cX5_first 51 = .ok (.iload_n 3, 1) := by decide +kernel
theorem dX5_first_52 : decode cX5_first 52 = .ok (.ireturn, 1) := by decide +kernel
theorem dX5_first_53 : decode cX5_first 53 = .ok (.aload_n 0, 1) := by decide +kernel
theorem dX5_first_54 : decode cX5_first 54 = .ok (.getfield 56, 3) := by decide +kernel
theorem dX5_first_57 : decode cX5_first 57 = .ok (.invokevirtual 142, 3) := by decide +kernel
theorem dX5_first_60 : decode cX5_first 60 = .ok (.pop, 1) := by decide +kernel
theorem dX5_first_61 : decode cX5_first 61 = .ok (.iinc 3 1, 3) := by decide +kernel
theorem dX5_first_64 : decode cX5_first 64 = .ok (.goto (-31), 3) := by decide +kernel
theorem dX5_first_67 : decode cX5_first 67 = .ok (.bipush (-9), 2) := by decide +kernel
theorem dX5_first_69 : decode cX5_first 69 = .ok (.ireturn, 1) := by decide +kernel
set_option maxRecDepth 20000 in
theorem ggX5_keeps_X2_hasHouse : GoodIn wsX5_keeps wsX2_hasHouse := goodIn_r _ [6, 7, 134, 135, 136, 137, 138, 139, 140, 141, 142] (by decide +kernel) (by decide +kernel)
set_option maxRecDepth 20000 in
theorem gX5_keeps_X2_hasHouse : GoodIn wsX5_keeps (wsV RX5 102 RX2 yX2_hasHouse wsX2_hasHouse) := goodIn_app (goodIn_of _ (by decide +kernel)) ggX5_keeps_X2_hasHouse
set_option maxRecDepth 20000 in
theorem ggX5_keeps_X5_isThing : GoodIn wsX5_keeps wsX5_isThing := goodIn_r _ [11] (by decide +kernel) (by decide +kernel)
set_option maxRecDepth 20000 in
theorem gX5_keeps_X5_isThing : GoodIn wsX5_keeps (va_wsS RX5 179 yX5_isThing wsX5_isThing) := goodIn_app (goodIn_of _ (by decide +kernel)) ggX5_keeps_X5_isThing
set_option maxRecDepth 20000 in
theorem ggX5_keeps_X5_isZeroOrOne : GoodIn wsX5_keeps wsX5_isZeroOrOne := goodIn_r _ [14] (by decide +kernel) (by decide +kernel)
set_option maxRecDepth 20000 in
theorem gX5_keeps_X5_isZeroOrOne : GoodIn wsX5_keeps (va_wsS RX5 185 yX5_isZeroOrOne wsX5_isZeroOrOne) := goodIn_app (goodIn_of _ (by decide +kernel)) ggX5_keeps_X5_isZeroOrOne
set_option maxRecDepth 20000 in
theorem ggX5_keeps_X5_fillFewestLowerings : GoodIn wsX5_keeps wsX5_fillFewestLowerings := goodIn_r _ [18, 1, 19, 20, 21, 22, 23, 24, 25, 26, 27, 28, 29, 10, 30, 31, 32, 33, 34, 35, 36, 37, 38, 39, 40, 41, 42, 43, 44, 45, 46, 47, 48, 49, 50, 51, 52, 53, 5, 54, 55, 56, 57, 58, 59, 60, 61, 62, 63, 64, 65, 66, 67, 68, 69, 70, 71, 72, 73, 74, 75, 76, 77, 78, 79, 80, 81, 82, 83, 84, 85, 86, 87, 88, 89, 90, 91, 92, 93, 94, 95, 7, 96, 97, 98, 99, 100, 101, 102, 103, 104, 105, 106, 107, 108, 109, 110, 119, 120, 121, 122, 123, 124, 125, 126, 127, 128, 129, 130, 131, 132, 133, 134, 135, 136, 137, 138, 139, 140, 141, 142, 143, 144, 145, 146, 147, 148] (by decide +kernel) (by decide +kernel)
set_option maxRecDepth 20000 in
theorem gX5_keeps_X5_fillFewestLowerings : GoodIn wsX5_keeps (wsV RX5 188 RX5 yX5_fillFewestLowerings wsX5_fillFewestLowerings) := goodIn_app (goodIn_of _ (by decide +kernel)) ggX5_keeps_X5_fillFewestLowerings
set_option maxRecDepth 20000 in
theorem ggX5_keeps_X5_sumOfLowerings : GoodIn wsX5_keeps wsX5_sumOfLowerings := goodIn_r _ [114, 1, 19, 20, 119, 120, 121, 122, 123, 124, 125, 126, 127, 128, 129, 130, 131, 132, 133, 134, 135, 136, 137, 138, 139, 140, 141, 142] (by decide +kernel) (by decide +kernel)
set_option maxRecDepth 20000 in
theorem gX5_keeps_X5_sumOfLowerings : GoodIn wsX5_keeps (wsV RX5 192 RX5 yX5_sumOfLowerings wsX5_sumOfLowerings) := goodIn_app (goodIn_of _ (by decide +kernel)) ggX5_keeps_X5_sumOfLowerings
set_option maxRecDepth 20000 in
theorem ggX5_keeps_X5_figuresOfLowerings : GoodIn wsX5_keeps wsX5_figuresOfLowerings := goodIn_r _ [118, 1, 19, 20, 119, 120, 121, 122, 123, 124, 125, 126, 127, 128, 129, 130, 131, 132, 133, 134, 135, 136, 137, 138, 139, 140, 141, 142] (by decide +kernel) (by decide +kernel)
set_option maxRecDepth 20000 in
theorem gX5_keeps_X5_figuresOfLowerings : GoodIn wsX5_keeps (wsV RX5 195 RX5 yX5_figuresOfLowerings wsX5_figuresOfLowerings) := goodIn_app (goodIn_of _ (by decide +kernel)) ggX5_keeps_X5_figuresOfLowerings
theorem dX5_keeps_0 : decode cX5_keeps 0 = .ok (.aload_n 0, 1) := by decide +kernel
theorem dX5_keeps_1 : decode cX5_keeps 1 = .ok (.getfield 38, 3) := by decide +kernel
theorem dX5_keeps_4 : decode cX5_keeps 4 = .ok (.iload_n 1, 1) := by decide +kernel
theorem dX5_keeps_5 : decode cX5_keeps 5 = .ok (.invokevirtual 102, 3) := by decide +kernel
theorem dX5_keeps_8 : decode cX5_keeps 8 = .ok (.ifCond .eq 10, 3) := by decide +kernel
theorem dX5_keeps_11 : decode cX5_keeps 11 = .ok (.iload_n 2, 1) := by decide +kernel
theorem dX5_keeps_12 : decode cX5_keeps 12 = .ok (.invokestatic 179, 3) := by decide +kernel
theorem dX5_keeps_15 : decode cX5_keeps 15 = .ok (.ifCond .ne 5, 3) := by decide +kernel
theorem dX5_keeps_18 : decode cX5_keeps 18 = .ok (.iconst (-1), 1) := by decide +kernel
theorem dX5_keeps_19 : decode cX5_keeps 19 = .ok (.ireturn, 1) := by decide +kernel
theorem dX5_keeps_20 : decode cX5_keeps 20 = .ok (.iload_n 3, 1) := by decide +kernel
theorem dX5_keeps_21 : decode cX5_keeps 21 = .ok (.iconst 1, 1) := by decide +kernel
theorem dX5_keeps_22 : decode cX5_keeps 22 = .ok (.if_icmp .lt 17, 3) := by decide +kernel
theorem dX5_keeps_25 : decode cX5_keeps 25 = .ok (.iload_n 3, 1) := by decide +kernel
theorem dX5_keeps_26 : decode cX5_keeps 26 = .ok (.bipush 12, 2) := by decide +kernel
theorem dX5_keeps_28 : decode cX5_keeps 28 = .ok (.if_icmp .gt 11, 3) := by decide +kernel
theorem dX5_keeps_31 : decode cX5_keeps 31 = .ok (.iload 4, 2) := by decide +kernel
theorem dX5_keeps_33 : decode cX5_keeps 33 = .ok (.invokestatic 185, 3) := by decide +kernel
theorem dX5_keeps_36 : decode cX5_keeps 36 = .ok (.ifCond .ne 6, 3) := by decide +kernel
theorem dX5_keeps_39 : decode cX5_keeps 39 = .ok (.bipush (-2), 2) := by decide +kernel
theorem dX5_keeps_41 : decode cX5_keeps 41 = .ok (.ireturn, 1) := by decide +kernel
theorem dX5_keeps_42 : decode cX5_keeps 42 = .ok (.aload_n 0, 1) := by decide +kernel
theorem dX5_keeps_43 : decode cX5_keeps 43 = .ok (.iload_n 1, 1) := by decide +kernel
theorem dX5_keeps_44 : decode cX5_keeps 44 = .ok (.iload_n 2, 1) := by decide +kernel
theorem dX5_keeps_45 : decode cX5_keeps 45 = .ok (.iload_n 3, 1) := by decide +kernel
theorem dX5_keeps_46 : decode cX5_keeps 46 = .ok (.invokevirtual 188, 3) := by decide +kernel
theorem dX5_keeps_49 : decode cX5_keeps 49 = .ok (.ifCond .ne 6, 3) := by decide +kernel
theorem dX5_keeps_52 : decode cX5_keeps 52 = .ok (.bipush (-9), 2) := by decide +kernel
theorem dX5_keeps_54 : decode cX5_keeps 54 = .ok (.ireturn, 1) := by decide +kernel
theorem dX5_keeps_55 : decode cX5_keeps 55 = .ok (.iload 4, 2) := by decide +kernel
theorem dX5_keeps_57 : decode cX5_keeps 57 = .ok (.ifCond .ne 10, 3) := by decide +kernel
theorem dX5_keeps_60 : decode cX5_keeps 60 = .ok (.aload_n 0, 1) := by decide +kernel
theorem dX5_keeps_61 : decode cX5_keeps 61 = .ok (.invokevirtual 192, 3) := by decide +kernel
theorem dX5_keeps_64 : decode cX5_keeps 64 = .ok (.goto 7, 3) := by decide +kernel
theorem dX5_keeps_67 : decode cX5_keeps 67 = .ok (.aload_n 0, 1) := by decide +kernel
theorem dX5_keeps_68 : decode cX5_keeps 68 = .ok (.invokevirtual 195, 3) := by decide +kernel
theorem dX5_keeps_71 : decode cX5_keeps 71 = .ok (.ireturn, 1) := by decide +kernel
set_option maxRecDepth 20000 in
theorem ggX5_tells_X5_isZeroOrOne : GoodIn wsX5_tells wsX5_isZeroOrOne := goodIn_r _ [6] (by decide +kernel) (by decide +kernel)
set_option maxRecDepth 20000 in
theorem gX5_tells_X5_isZeroOrOne : GoodIn wsX5_tells (va_wsS RX5 185 yX5_isZeroOrOne wsX5_isZeroOrOne) := goodIn_app (goodIn_of _ (by decide +kernel)) ggX5_tells_X5_isZeroOrOne
set_option maxRecDepth 20000 in
theorem ggX5_tells_X2_allHouses : GoodIn wsX5_tells wsX2_allHouses := goodIn_r _ [11, 12, 43, 44, 45, 46, 47, 48, 49, 50, 51] (by decide +kernel) (by decide +kernel)
set_option maxRecDepth 20000 in
theorem gX5_tells_X2_allHouses : GoodIn wsX5_tells (wsV RX5 198 RX2 yX2_allHouses wsX2_allHouses) := goodIn_app (goodIn_of _ (by decide +kernel)) ggX5_tells_X2_allHouses
set_option maxRecDepth 20000 in
theorem ggX5_tells_J6_bitCount_0f7a4 : GoodIn wsX5_tells wsJ6_bitCount_0f7a4 := goodIn_r _ [16, 17, 18, 19] (by decide +kernel) (by decide +kernel)
set_option maxRecDepth 20000 in
theorem gX5_tells_J6_bitCount_0f7a4 : GoodIn wsX5_tells (va_wsS RX5 201 yJ6_bitCount_0f7a4 wsJ6_bitCount_0f7a4) := goodIn_app (goodIn_of _ (by decide +kernel)) ggX5_tells_J6_bitCount_0f7a4
set_option maxRecDepth 20000 in
theorem ggX5_tells_X4_knownBy : GoodIn wsX5_tells wsX4_knownBy := goodIn_r _ [24, 25, 26, 27, 52, 53, 54, 55, 56, 57, 43, 44, 45, 46, 47, 48, 49, 50, 51] (by decide +kernel) (by decide +kernel)
set_option maxRecDepth 20000 in
theorem gX5_tells_X4_knownBy : GoodIn wsX5_tells (wsV RX5 206 RX4 yX4_knownBy wsX4_knownBy) := goodIn_app (goodIn_of _ (by decide +kernel)) ggX5_tells_X4_knownBy
theorem dX5_tells_0 : decode cX5_tells 0 = .ok (.iload_n 1, 1) := by decide +kernel
theorem dX5_tells_1 : decode cX5_tells 1 = .ok (.ifCond .lt 16, 3) := by decide +kernel
theorem dX5_tells_4 : decode cX5_tells 4 = .ok (.iload_n 1, 1) := by decide +kernel
theorem dX5_tells_5 : decode cX5_tells 5 = .ok (.bipush 63, 2) := by decide +kernel
theorem dX5_tells_7 : decode cX5_tells 7 = .ok (.if_icmp .gt 10, 3) := by decide +kernel
theorem dX5_tells_10 : decode cX5_tells 10 = .ok (.iload_n 2, 1) := by decide +kernel
theorem dX5_tells_11 : decode cX5_tells 11 = .ok (.invokestatic 185, 3) := by decide +kernel
theorem dX5_tells_14 : decode cX5_tells 14 = .ok (.ifCond .ne 6, 3) := by decide +kernel
theorem dX5_tells_17 : decode cX5_tells 17 = .ok (.bipush (-2), 2) := by decide +kernel
theorem dX5_tells_19 : decode cX5_tells 19 = .ok (.ireturn, 1) := by decide +kernel
theorem dX5_tells_20 : decode cX5_tells 20 = .ok (.bipush (-9), 2) := by decide +kernel
theorem dX5_tells_22 : decode cX5_tells 22 = .ok (.istore_n 3, 1) := by decide +kernel
theorem dX5_tells_23 : decode cX5_tells 23 = .ok (.iconst 0, 1) := by decide +kernel
theorem dX5_tells_24 : decode cX5_tells 24 = .ok (.istore 4, 2) := by decide +kernel
theorem dX5_tells_26 : decode cX5_tells 26 = .ok (.iload 4, 2) := by decide +kernel
theorem dX5_tells_28 : decode cX5_tells 28 = .ok (.aload_n 0, 1) := by decide +kernel
theorem dX5_tells_29 : decode cX5_tells 29 = .ok (.getfield 38, 3) := by decide +kernel
theorem dX5_tells_32 : decode cX5_tells 32 = .ok (.invokevirtual 198, 3) := by decide +kernel
theorem dX5_tells_35 : decode cX5_tells 35 = .ok (.if_icmp .gt 58, 3) := by decide +kernel
theorem dX5_tells_38 : decode cX5_tells 38 = .ok (.iload_n 3, 1) := by decide +kernel
theorem dX5_tells_39 : decode cX5_tells 39 = .ok (.bipush (-9), 2) := by decide +kernel
theorem dX5_tells_41 : decode cX5_tells 41 = .ok (.if_icmp .eq 15, 3) := by decide +kernel
theorem dX5_tells_44 : decode cX5_tells 44 = .ok (.iload 4, 2) := by decide +kernel
theorem dX5_tells_46 : decode cX5_tells 46 = .ok (.invokestatic 201, 3) := by decide +kernel
theorem dX5_tells_49 : decode cX5_tells 49 = .ok (.iload_n 3, 1) := by decide +kernel
theorem dX5_tells_50 : decode cX5_tells 50 = .ok (.invokestatic 201, 3) := by decide +kernel
theorem dX5_tells_53 : decode cX5_tells 53 = .ok (.if_icmp .ge 7, 3) := by decide +kernel
theorem dX5_tells_56 : decode cX5_tells 56 = .ok (.iconst 1, 1) := by decide +kernel
theorem dX5_tells_57 : decode cX5_tells 57 = .ok (.goto 4, 3) := by decide +kernel
theorem dX5_tells_60 : decode cX5_tells 60 = .ok (.iconst 0, 1) := by decide +kernel
theorem dX5_tells_61 : decode cX5_tells 61 = .ok (.istore 5, 2) := by decide +kernel
theorem dX5_tells_63 : decode cX5_tells 63 = .ok (.iload 5, 2) := by decide +kernel
theorem dX5_tells_65 : decode cX5_tells 65 = .ok (.ifCond .eq 22, 3) := by decide +kernel
theorem dX5_tells_68 : decode cX5_tells 68 = .ok (.iload_n 1, 1) := by decide +kernel
theorem dX5_tells_69 : decode cX5_tells 69 = .ok (.aload_n 0, 1) := by decide +kernel
theorem dX5_tells_70 : decode cX5_tells 70 = .ok (.getfield 52, 3) := by decide +kernel
theorem dX5_tells_73 : decode cX5_tells 73 = .ok (.iload 4, 2) := by decide +kernel
theorem dX5_tells_75 : decode cX5_tells 75 = .ok (.invokevirtual 206, 3) := by decide +kernel
theorem dX5_tells_78 : decode cX5_tells 78 = .ok (.iconst (-1), 1) := by decide +kernel
theorem dX5_tells_79 : decode cX5_tells 79 = .ok (.ixor, 1) := by decide +kernel
theorem dX5_tells_80 : decode cX5_tells 80 = .ok (.iand, 1) := by decide +kernel
end
section
theorem dX5_tells_81 : decode cX5_tells 81 = .ok (.ifCond .ne 6, 3) := by decide +kernel
theorem dX5_tells_84 : decode cX5_tells 84 = .ok (.iload 4, 2) := by decide +kernel
theorem dX5_tells_86 : decode cX5_tells 86 = .ok (.istore_n 3, 1) := by decide +kernel
theorem dX5_tells_87 : decode cX5_tells 87 = .ok (.iinc 4 1, 3) := by decide +kernel
theorem dX5_tells_90 : decode cX5_tells 90 = .ok (.goto (-64), 3) := by decide +kernel
theorem dX5_tells_93 : decode cX5_tells 93 = .ok (.iload_n 3, 1) := by decide +kernel
theorem dX5_tells_94 : decode cX5_tells 94 = .ok (.bipush (-9), 2) := by decide +kernel
theorem dX5_tells_96 : decode cX5_tells 96 = .ok (.if_icmp .ne 6, 3) := by decide +kernel
theorem dX5_tells_99 : decode cX5_tells 99 = .ok (.bipush (-9), 2) := by decide +kernel
theorem dX5_tells_101 : decode cX5_tells 101 = .ok (.ireturn, 1) := by decide +kernel
theorem dX5_tells_102 : decode cX5_tells 102 = .ok (.iload_n 2, 1) := by decide +kernel
theorem dX5_tells_103 : decode cX5_tells 103 = .ok (.ifCond .ne 10, 3) := by decide +kernel
theorem dX5_tells_106 : decode cX5_tells 106 = .ok (.iload_n 3, 1) := by decide +kernel
theorem dX5_tells_107 : decode cX5_tells 107 = .ok (.invokestatic 201, 3) := by decide +kernel
theorem dX5_tells_110 : decode cX5_tells 110 = .ok (.goto 4, 3) := by decide +kernel
theorem dX5_tells_113 : decode cX5_tells 113 = .ok (.iload_n 3, 1) := by decide +kernel
theorem dX5_tells_114 : decode cX5_tells 114 = .ok (.ireturn, 1) := by decide +kernel
set_option maxRecDepth 20000 in
theorem ggX5_judge_X5_fillDoings : GoodIn wsX5_judge wsX5_fillDoings := goodIn_r _ [8, 3, 9, 136, 137, 138, 139, 140, 141, 142, 143, 144, 145, 146, 147, 148, 149, 150] (by decide +kernel) (by decide +kernel)
set_option maxRecDepth 20000 in
theorem gX5_judge_X5_fillDoings : GoodIn wsX5_judge (wsV RX5 209 RX5 yX5_fillDoings wsX5_fillDoings) := goodIn_app (goodIn_of _ (by decide +kernel)) ggX5_judge_X5_fillDoings
set_option maxRecDepth 20000 in
theorem ggX5_judge_X4_take : GoodIn wsX5_judge wsX4_take := goodIn_r _ [14, 15, 16, 17, 18, 19, 20, 21, 22, 23, 151, 152, 153, 154, 155, 156] (by decide +kernel) (by decide +kernel)
set_option maxRecDepth 20000 in
theorem gX5_judge_X4_take : GoodIn wsX5_judge (wsV RX5 173 RX4 yX4_take wsX4_take) := goodIn_app (goodIn_of _ (by decide +kernel)) ggX5_judge_X4_take
set_option maxRecDepth 20000 in
theorem ggX5_judge_X5_comesAbout : GoodIn wsX5_judge wsX5_comesAbout := goodIn_r _ [27, 1, 28, 29, 30, 31, 32, 13, 33, 34, 23, 35, 36, 37, 38, 39, 40, 41, 42, 43, 44, 45, 46, 22, 47, 48, 49, 50, 51, 52, 53, 54, 55, 56, 57, 58, 59, 60, 61, 62, 63, 64, 65, 21, 66, 67, 68, 15, 69, 70, 71, 72, 73, 74, 75, 76, 77, 78, 79, 20, 80, 81, 82, 83, 84, 85, 86, 87, 88, 89, 90, 91, 92, 93, 94, 95, 96, 97, 98, 99, 100, 101, 102, 103, 104, 105, 106, 107, 108, 109, 110, 111, 112, 113, 114, 115, 116, 117, 118, 119, 120, 121, 122, 123, 124, 125, 126, 127, 128, 129, 130, 7, 131, 132, 133, 134, 135, 136, 137, 138, 139, 140, 141, 142, 143, 144, 145, 146, 147, 148, 149, 150, 151, 152, 153, 154, 155, 156, 157, 158, 159, 160, 161, 162, 163, 164, 165] (by decide +kernel) (by decide +kernel)
set_option maxRecDepth 20000 in
theorem gX5_judge_X5_comesAbout : GoodIn wsX5_judge (wsV RX5 213 RX5 yX5_comesAbout wsX5_comesAbout) := goodIn_app (goodIn_of _ (by decide +kernel)) ggX5_judge_X5_comesAbout
theorem dX5_judge_0 : decode cX5_judge 0 = .ok (.iload_n 1, 1) := by decide +kernel
theorem dX5_judge_1 : decode cX5_judge 1 = .ok (.iconst 1, 1) := by decide +kernel
theorem dX5_judge_2 : decode cX5_judge 2 = .ok (.if_icmp .lt 23, 3) := by decide +kernel
theorem dX5_judge_5 : decode cX5_judge 5 = .ok (.iload_n 1, 1) := by decide +kernel
theorem dX5_judge_6 : decode cX5_judge 6 = .ok (.iconst 4, 1) := by decide +kernel
theorem dX5_judge_7 : decode cX5_judge 7 = .ok (.if_icmp .gt 18, 3) := by decide +kernel
theorem dX5_judge_10 : decode cX5_judge 10 = .ok (.lload_n 2, 1) := by decide +kernel
theorem dX5_judge_11 : decode cX5_judge 11 = .ok (.lconst 0, 1) := by decide +kernel
theorem dX5_judge_12 : decode cX5_judge 12 = .ok (.lcmp, 1) := by decide +kernel
theorem dX5_judge_13 : decode cX5_judge 13 = .ok (.ifCond .lt 12, 3) := by decide +kernel
theorem dX5_judge_16 : decode cX5_judge 16 = .ok (.aload_n 0, 1) := by decide +kernel
theorem dX5_judge_17 : decode cX5_judge 17 = .ok (.iload_n 1, 1) := by decide +kernel
theorem dX5_judge_18 : decode cX5_judge 18 = .ok (.lload_n 2, 1) := by decide +kernel
theorem dX5_judge_19 : decode cX5_judge 19 = .ok (.invokevirtual 209, 3) := by decide +kernel
theorem dX5_judge_22 : decode cX5_judge 22 = .ok (.ifCond .ne 6, 3) := by decide +kernel
theorem dX5_judge_25 : decode cX5_judge 25 = .ok (.bipush (-2), 2) := by decide +kernel
theorem dX5_judge_27 : decode cX5_judge 27 = .ok (.ireturn, 1) := by decide +kernel
theorem dX5_judge_28 : decode cX5_judge 28 = .ok (.aload_n 0, 1) := by decide +kernel
theorem dX5_judge_29 : decode cX5_judge 29 = .ok (.getfield 56, 3) := by decide +kernel
theorem dX5_judge_32 : decode cX5_judge 32 = .ok (.aload_n 0, 1) := by decide +kernel
theorem dX5_judge_33 : decode cX5_judge 33 = .ok (.getfield 52, 3) := by decide +kernel
theorem dX5_judge_36 : decode cX5_judge 36 = .ok (.invokevirtual 173, 3) := by decide +kernel
theorem dX5_judge_39 : decode cX5_judge 39 = .ok (.iconst 0, 1) := by decide +kernel
theorem dX5_judge_40 : decode cX5_judge 40 = .ok (.istore 4, 2) := by decide +kernel
theorem dX5_judge_42 : decode cX5_judge 42 = .ok (.iload 4, 2) := by decide +kernel
theorem dX5_judge_44 : decode cX5_judge 44 = .ok (.iload_n 1, 1) := by decide +kernel
theorem dX5_judge_45 : decode cX5_judge 45 = .ok (.if_icmp .ge 50, 3) := by decide +kernel
theorem dX5_judge_48 : decode cX5_judge 48 = .ok (.iconst 3, 1) := by decide +kernel
theorem dX5_judge_49 : decode cX5_judge 49 = .ok (.iload 4, 2) := by decide +kernel
theorem dX5_judge_51 : decode cX5_judge 51 = .ok (.imul, 1) := by decide +kernel
theorem dX5_judge_52 : decode cX5_judge 52 = .ok (.istore 5, 2) := by decide +kernel
theorem dX5_judge_54 : decode cX5_judge 54 = .ok (.aload_n 0, 1) := by decide +kernel
theorem dX5_judge_55 : decode cX5_judge 55 = .ok (.aload_n 0, 1) := by decide +kernel
theorem dX5_judge_56 : decode cX5_judge 56 = .ok (.getfield 23, 3) := by decide +kernel
theorem dX5_judge_59 : decode cX5_judge 59 = .ok (.iload 5, 2) := by decide +kernel
theorem dX5_judge_61 : decode cX5_judge 61 = .ok (.iaload, 1) := by decide +kernel
theorem dX5_judge_62 : decode cX5_judge 62 = .ok (.aload_n 0, 1) := by decide +kernel
theorem dX5_judge_63 : decode cX5_judge 63 = .ok (.getfield 23, 3) := by decide +kernel
theorem dX5_judge_66 : decode cX5_judge 66 = .ok (.iload 5, 2) := by decide +kernel
theorem dX5_judge_68 : decode cX5_judge 68 = .ok (.iconst 1, 1) := by decide +kernel
theorem dX5_judge_69 : decode cX5_judge 69 = .ok (.iadd, 1) := by decide +kernel
theorem dX5_judge_70 : decode cX5_judge 70 = .ok (.iaload, 1) := by decide +kernel
theorem dX5_judge_71 : decode cX5_judge 71 = .ok (.aload_n 0, 1) := by decide +kernel
theorem dX5_judge_72 : decode cX5_judge 72 = .ok (.getfield 23, 3) := by decide +kernel
theorem dX5_judge_75 : decode cX5_judge 75 = .ok (.iload 5, 2) := by decide +kernel
theorem dX5_judge_77 : decode cX5_judge 77 = .ok (.iconst 2, 1) := by decide +kernel
theorem dX5_judge_78 : decode cX5_judge 78 = .ok (.iadd, 1) := by decide +kernel
theorem dX5_judge_79 : decode cX5_judge 79 = .ok (.iaload, 1) := by decide +kernel
theorem dX5_judge_80 : decode cX5_judge 80 = .ok (.invokevirtual 213, 3) := by decide +kernel
theorem dX5_judge_83 : decode cX5_judge 83 = .ok (.ifCond .ne 6, 3) := by decide +kernel
theorem dX5_judge_86 : decode cX5_judge 86 = .ok (.iload 4, 2) := by decide +kernel
theorem dX5_judge_88 : decode cX5_judge 88 = .ok (.ireturn, 1) := by decide +kernel
theorem dX5_judge_89 : decode cX5_judge 89 = .ok (.iinc 4 1, 3) := by decide +kernel
theorem dX5_judge_92 : decode cX5_judge 92 = .ok (.goto (-50), 3) := by decide +kernel
theorem dX5_judge_95 : decode cX5_judge 95 = .ok (.bipush (-9), 2) := by decide +kernel
theorem dX5_judge_97 : decode cX5_judge 97 = .ok (.ireturn, 1) := by decide +kernel
set_option maxRecDepth 20000 in
theorem ggX5_hear_X5_isFigure : GoodIn wsX5_hear wsX5_isFigure := goodIn_r _ [6] (by decide +kernel) (by decide +kernel)
set_option maxRecDepth 20000 in
theorem gX5_hear_X5_isFigure : GoodIn wsX5_hear (va_wsS RX5 216 yX5_isFigure wsX5_isFigure) := goodIn_app (goodIn_of _ (by decide +kernel)) ggX5_hear_X5_isFigure
set_option maxRecDepth 20000 in
theorem ggX5_hear_X5_isZeroOrOne : GoodIn wsX5_hear wsX5_isZeroOrOne := goodIn_r _ [9] (by decide +kernel) (by decide +kernel)
set_option maxRecDepth 20000 in
theorem gX5_hear_X5_isZeroOrOne : GoodIn wsX5_hear (va_wsS RX5 185 yX5_isZeroOrOne wsX5_isZeroOrOne) := goodIn_app (goodIn_of _ (by decide +kernel)) ggX5_hear_X5_isZeroOrOne
set_option maxRecDepth 20000 in
theorem ggX5_hear_X1_add : GoodIn wsX5_hear wsX1_add := goodIn_r _ [14, 15, 16, 17, 18, 34, 35, 36, 37] (by decide +kernel) (by decide +kernel)
set_option maxRecDepth 20000 in
theorem gX5_hear_X1_add : GoodIn wsX5_hear (wsV RX5 220 RX1 yX1_add wsX1_add) := goodIn_app (goodIn_of _ (by decide +kernel)) ggX5_hear_X1_add
theorem dX5_hear_0 : decode cX5_hear 0 = .ok (.iload_n 1, 1) := by decide +kernel
theorem dX5_hear_1 : decode cX5_hear 1 = .ok (.invokestatic 216, 3) := by decide +kernel
theorem dX5_hear_4 : decode cX5_hear 4 = .ok (.ifCond .eq 17, 3) := by decide +kernel
theorem dX5_hear_7 : decode cX5_hear 7 = .ok (.iload_n 2, 1) := by decide +kernel
theorem dX5_hear_8 : decode cX5_hear 8 = .ok (.invokestatic 216, 3) := by decide +kernel
theorem dX5_hear_11 : decode cX5_hear 11 = .ok (.ifCond .eq 10, 3) := by decide +kernel
theorem dX5_hear_14 : decode cX5_hear 14 = .ok (.iload_n 3, 1) := by decide +kernel
theorem dX5_hear_15 : decode cX5_hear 15 = .ok (.invokestatic 185, 3) := by decide +kernel
theorem dX5_hear_18 : decode cX5_hear 18 = .ok (.ifCond .ne 6, 3) := by decide +kernel
theorem dX5_hear_21 : decode cX5_hear 21 = .ok (.bipush (-2), 2) := by decide +kernel
theorem dX5_hear_23 : decode cX5_hear 23 = .ok (.ireturn, 1) := by decide +kernel
theorem dX5_hear_24 : decode cX5_hear 24 = .ok (.aload_n 0, 1) := by decide +kernel
theorem dX5_hear_25 : decode cX5_hear 25 = .ok (.getfield 69, 3) := by decide +kernel
theorem dX5_hear_28 : decode cX5_hear 28 = .ok (.getfield 219, 3) := by decide +kernel
theorem dX5_hear_31 : decode cX5_hear 31 = .ok (.bipush 6, 2) := by decide +kernel
theorem dX5_hear_33 : decode cX5_hear 33 = .ok (.if_icmp .lt 6, 3) := by decide +kernel
theorem dX5_hear_36 : decode cX5_hear 36 = .ok (.bipush (-4), 2) := by decide +kernel
theorem dX5_hear_38 : decode cX5_hear 38 = .ok (.ireturn, 1) := by decide +kernel
theorem dX5_hear_39 : decode cX5_hear 39 = .ok (.aload_n 0, 1) := by decide +kernel
theorem dX5_hear_40 : decode cX5_hear 40 = .ok (.getfield 69, 3) := by decide +kernel
theorem dX5_hear_43 : decode cX5_hear 43 = .ok (.iload_n 1, 1) := by decide +kernel
theorem dX5_hear_44 : decode cX5_hear 44 = .ok (.iload_n 2, 1) := by decide +kernel
theorem dX5_hear_45 : decode cX5_hear 45 = .ok (.iload_n 3, 1) := by decide +kernel
theorem dX5_hear_46 : decode cX5_hear 46 = .ok (.iconst 1, 1) := by decide +kernel
theorem dX5_hear_47 : decode cX5_hear 47 = .ok (.if_icmp .ne 7, 3) := by decide +kernel
theorem dX5_hear_50 : decode cX5_hear 50 = .ok (.iconst 1, 1) := by decide +kernel
theorem dX5_hear_51 : decode cX5_hear 51 = .ok (.goto 4, 3) := by decide +kernel
theorem dX5_hear_54 : decode cX5_hear 54 = .ok (.iconst 0, 1) := by decide +kernel
theorem dX5_hear_55 : decode cX5_hear 55 = .ok (.invokevirtual 220, 3) := by decide +kernel
theorem dX5_hear_58 : decode cX5_hear 58 = .ok (.aload_n 0, 1) := by decide +kernel
theorem dX5_hear_59 : decode cX5_hear 59 = .ok (.getfield 69, 3) := by decide +kernel
theorem dX5_hear_62 : decode cX5_hear 62 = .ok (.getfield 219, 3) := by decide +kernel
theorem dX5_hear_65 : decode cX5_hear 65 = .ok (.ireturn, 1) := by decide +kernel
theorem dX5_unhear_0 : decode cX5_unhear 0 = .ok (.aload_n 0, 1) := by decide +kernel
theorem dX5_unhear_1 : decode cX5_unhear 1 = .ok (.getfield 69, 3) := by decide +kernel
theorem dX5_unhear_4 : decode cX5_unhear 4 = .ok (.getfield 219, 3) := by decide +kernel
theorem dX5_unhear_7 : decode cX5_unhear 7 = .ok (.istore_n 1, 1) := by decide +kernel
theorem dX5_unhear_8 : decode cX5_unhear 8 = .ok (.aload_n 0, 1) := by decide +kernel
theorem dX5_unhear_9 : decode cX5_unhear 9 = .ok (.getfield 69, 3) := by decide +kernel
theorem dX5_unhear_12 : decode cX5_unhear 12 = .ok (.iconst 0, 1) := by decide +kernel
theorem dX5_unhear_13 : decode cX5_unhear 13 = .ok (.putfield 219, 3) := by decide +kernel
theorem dX5_unhear_16 : decode cX5_unhear 16 = .ok (.iload_n 1, 1) := by decide +kernel
theorem dX5_unhear_17 : decode cX5_unhear 17 = .ok (.ireturn, 1) := by decide +kernel
set_option maxRecDepth 20000 in
theorem ggX5_ears_X5_isZeroOrOne : GoodIn wsX5_ears wsX5_isZeroOrOne := goodIn_r _ [5] (by decide +kernel) (by decide +kernel)
set_option maxRecDepth 20000 in
theorem gX5_ears_X5_isZeroOrOne : GoodIn wsX5_ears (va_wsS RX5 185 yX5_isZeroOrOne wsX5_isZeroOrOne) := goodIn_app (goodIn_of _ (by decide +kernel)) ggX5_ears_X5_isZeroOrOne
set_option maxRecDepth 20000 in
theorem ggX5_ears_X1_fits : GoodIn wsX5_ears wsX1_fits := goodIn_r _ [10, 11, 12, 13, 14, 30, 31, 32, 33] (by decide +kernel) (by decide +kernel)
set_option maxRecDepth 20000 in
theorem gX5_ears_X1_fits : GoodIn wsX5_ears (wsV RX5 224 RX1 yX1_fits wsX1_fits) := goodIn_app (goodIn_of _ (by decide +kernel)) ggX5_ears_X1_fits
theorem dX5_ears_0 : decode cX5_ears 0 = .ok (.iload_n 1, 1) := by decide +kernel
theorem dX5_ears_1 : decode cX5_ears 1 = .ok (.invokestatic 185, 3) := by decide +kernel
theorem dX5_ears_4 : decode cX5_ears 4 = .ok (.ifCond .ne 6, 3) := by decide +kernel
theorem dX5_ears_7 : decode cX5_ears 7 = .ok (.bipush (-2), 2) := by decide +kernel
theorem dX5_ears_9 : decode cX5_ears 9 = .ok (.ireturn, 1) := by decide +kernel
theorem dX5_ears_10 : decode cX5_ears 10 = .ok (.iconst 0, 1) := by decide +kernel
theorem dX5_ears_11 : decode cX5_ears 11 = .ok (.istore_n 2, 1) := by decide +kernel
theorem dX5_ears_12 : decode cX5_ears 12 = .ok (.bipush (-9), 2) := by decide +kernel
theorem dX5_ears_14 : decode cX5_ears 14 = .ok (.istore_n 3, 1) := by decide +kernel
theorem dX5_ears_15 : decode cX5_ears 15 = .ok (.iconst 0, 1) := by decide +kernel
theorem dX5_ears_16 : decode cX5_ears 16 = .ok (.istore 4, 2) := by decide +kernel
theorem dX5_ears_18 : decode cX5_ears 18 = .ok (.iload 4, 2) := by decide +kernel
theorem dX5_ears_20 : decode cX5_ears 20 = .ok (.iconst 3, 1) := by decide +kernel
theorem dX5_ears_21 : decode cX5_ears 21 = .ok (.if_icmp .ge 59, 3) := by decide +kernel
theorem dX5_ears_24 : decode cX5_ears 24 = .ok (.iconst 0, 1) := by decide +kernel
theorem dX5_ears_25 : decode cX5_ears 25 = .ok (.istore 5, 2) := by decide +kernel
theorem dX5_ears_27 : decode cX5_ears 27 = .ok (.iload 5, 2) := by decide +kernel
theorem dX5_ears_29 : decode cX5_ears 29 = .ok (.bipush 10, 2) := by decide +kernel
theorem dX5_ears_31 : decode cX5_ears 31 = .ok (.if_icmp .ge 43, 3) := by decide +kernel
theorem dX5_ears_34 : decode cX5_ears 34 = .ok (.aload_n 0, 1) := by decide +kernel
theorem dX5_ears_35 : decode cX5_ears 35 = .ok (.getfield 69, 3) := by decide +kernel
theorem dX5_ears_38 : decode cX5_ears 38 = .ok (.iload 4, 2) := by decide +kernel
theorem dX5_ears_40 : decode cX5_ears 40 = .ok (.iload 5, 2) := by decide +kernel
theorem dX5_ears_42 : decode cX5_ears 42 = .ok (.invokevirtual 224, 3) := by decide +kernel
theorem dX5_ears_45 : decode cX5_ears 45 = .ok (.ifCond .eq 23, 3) := by decide +kernel
theorem dX5_ears_48 : decode cX5_ears 48 = .ok (.iload_n 2, 1) := by decide +kernel
theorem dX5_ears_49 : decode cX5_ears 49 = .ok (.ifCond .ne 14, 3) := by decide +kernel
theorem dX5_ears_52 : decode cX5_ears 52 = .ok (.bipush 10, 2) := by decide +kernel
theorem dX5_ears_54 : decode cX5_ears 54 = .ok (.iload 4, 2) := by decide +kernel
theorem dX5_ears_56 : decode cX5_ears 56 = .ok (.imul, 1) := by decide +kernel
theorem dX5_ears_57 : decode cX5_ears 57 = .ok (.iload 5, 2) := by decide +kernel
theorem dX5_ears_59 : decode cX5_ears 59 = .ok (.iadd, 1) := by decide +kernel
theorem dX5_ears_60 : decode cX5_ears 60 = .ok (.goto 4, 3) := by decide +kernel
theorem dX5_ears_63 : decode cX5_ears 63 = .ok (.iload_n 3, 1) := by decide +kernel
theorem dX5_ears_64 : decode cX5_ears 64 = .ok (.istore_n 3, 1) := by decide +kernel
theorem dX5_ears_65 : decode cX5_ears 65 = .ok (.iinc 2 1, 3) := by decide +kernel
theorem dX5_ears_68 : decode cX5_ears 68 = .ok (.iinc 5 1, 3) := by decide +kernel
theorem dX5_ears_71 : decode cX5_ears 71 = .ok (.goto (-44), 3) := by decide +kernel
theorem dX5_ears_74 : decode cX5_ears 74 = .ok (.iinc 4 1, 3) := by decide +kernel
theorem dX5_ears_77 : decode cX5_ears 77 = .ok (.goto (-59), 3) := by decide +kernel
theorem dX5_ears_80 : decode cX5_ears 80 = .ok (.iload_n 1, 1) := by decide +kernel
theorem dX5_ears_81 : decode cX5_ears 81 = .ok (.ifCond .ne 7, 3) := by decide +kernel
theorem dX5_ears_84 : decode cX5_ears 84 = .ok (.iload_n 2, 1) := by decide +kernel
theorem dX5_ears_85 : decode cX5_ears 85 = .ok (.goto 4, 3) := by decide +kernel
theorem dX5_ears_88 : decode cX5_ears 88 = .ok (.iload_n 3, 1) := by decide +kernel
theorem dX5_ears_89 : decode cX5_ears 89 = .ok (.ireturn, 1) := by decide +kernel
set_option maxRecDepth 20000 in
theorem ggX5_share_X2_hasHouse : GoodIn wsX5_share wsX2_hasHouse := goodIn_r _ [7, 8, 43, 44, 45, 46, 47, 48, 49, 50, 51] (by decide +kernel) (by decide +kernel)
set_option maxRecDepth 20000 in
theorem gX5_share_X2_hasHouse : GoodIn wsX5_share (wsV RX5 102 RX2 yX2_hasHouse wsX2_hasHouse) := goodIn_app (goodIn_of _ (by decide +kernel)) ggX5_share_X2_hasHouse
set_option maxRecDepth 20000 in
theorem ggX5_share_X4_knowsThing : GoodIn wsX5_share wsX4_knowsThing := goodIn_r _ [13, 14, 52, 53, 54, 55, 56, 57] (by decide +kernel) (by decide +kernel)
set_option maxRecDepth 20000 in
theorem gX5_share_X4_knowsThing : GoodIn wsX5_share (wsV RX5 182 RX4 yX4_knowsThing wsX4_knowsThing) := goodIn_app (goodIn_of _ (by decide +kernel)) ggX5_share_X4_knowsThing
set_option maxRecDepth 20000 in
theorem ggX5_share_X4_knowersOf : GoodIn wsX5_share wsX4_knowersOf := goodIn_r _ [18, 19, 20, 14, 52, 53, 54, 55, 56, 57, 43, 44, 45, 46, 47, 48, 49, 50, 51] (by decide +kernel) (by decide +kernel)
set_option maxRecDepth 20000 in
theorem gX5_share_X4_knowersOf : GoodIn wsX5_share (wsV RX5 227 RX4 yX4_knowersOf wsX4_knowersOf) := goodIn_app (goodIn_of _ (by decide +kernel)) ggX5_share_X4_knowersOf
set_option maxRecDepth 20000 in
theorem ggX5_share_X5_fraction : GoodIn wsX5_share wsX5_fraction := goodIn_r _ [24, 25, 26, 23, 27] (by decide +kernel) (by decide +kernel)
set_option maxRecDepth 20000 in
theorem gX5_share_X5_fraction : GoodIn wsX5_share (va_wsS RX5 230 yX5_fraction wsX5_fraction) := goodIn_app (goodIn_of _ (by decide +kernel)) ggX5_share_X5_fraction
theorem dX5_share_0 : decode cX5_share 0 = .ok (.aload_n 0, 1) := by decide +kernel
theorem dX5_share_1 : decode cX5_share 1 = .ok (.getfield 38, 3) := by decide +kernel
theorem dX5_share_4 : decode cX5_share 4 = .ok (.iload_n 1, 1) := by decide +kernel
theorem dX5_share_5 : decode cX5_share 5 = .ok (.invokevirtual 102, 3) := by decide +kernel
theorem dX5_share_8 : decode cX5_share 8 = .ok (.ifCond .ne 5, 3) := by decide +kernel
theorem dX5_share_11 : decode cX5_share 11 = .ok (.iconst (-1), 1) := by decide +kernel
theorem dX5_share_12 : decode cX5_share 12 = .ok (.ireturn, 1) := by decide +kernel
theorem dX5_share_13 : decode cX5_share 13 = .ok (.iconst 0, 1) := by decide +kernel
theorem dX5_share_14 : decode cX5_share 14 = .ok (.istore_n 3, 1) := by decide +kernel
theorem dX5_share_15 : decode cX5_share 15 = .ok (.iconst 0, 1) := by decide +kernel
theorem dX5_share_16 : decode cX5_share 16 = .ok (.istore 4, 2) := by decide +kernel
theorem dX5_share_18 : decode cX5_share 18 = .ok (.iload 4, 2) := by decide +kernel
theorem dX5_share_20 : decode cX5_share 20 = .ok (.bipush 6, 2) := by decide +kernel
theorem dX5_share_22 : decode cX5_share 22 = .ok (.if_icmp .ge 50, 3) := by decide +kernel
theorem dX5_share_25 : decode cX5_share 25 = .ok (.aload_n 0, 1) := by decide +kernel
theorem dX5_share_26 : decode cX5_share 26 = .ok (.getfield 52, 3) := by decide +kernel
theorem dX5_share_29 : decode cX5_share 29 = .ok (.iload_n 1, 1) := by decide +kernel
theorem dX5_share_30 : decode cX5_share 30 = .ok (.iload 4, 2) := by decide +kernel
theorem dX5_share_32 : decode cX5_share 32 = .ok (.invokevirtual 182, 3) := by decide +kernel
theorem dX5_share_35 : decode cX5_share 35 = .ok (.ifCond .eq 31, 3) := by decide +kernel
theorem dX5_share_38 : decode cX5_share 38 = .ok (.aload_n 0, 1) := by decide +kernel
theorem dX5_share_39 : decode cX5_share 39 = .ok (.getfield 52, 3) := by decide +kernel
theorem dX5_share_42 : decode cX5_share 42 = .ok (.iload 4, 2) := by decide +kernel
theorem dX5_share_44 : decode cX5_share 44 = .ok (.invokevirtual 227, 3) := by decide +kernel
theorem dX5_share_47 : decode cX5_share 47 = .ok (.istore 5, 2) := by decide +kernel
theorem dX5_share_49 : decode cX5_share 49 = .ok (.iload_n 3, 1) := by decide +kernel
theorem dX5_share_50 : decode cX5_share 50 = .ok (.iload 5, 2) := by decide +kernel
theorem dX5_share_52 : decode cX5_share 52 = .ok (.ifCond .le 11, 3) := by decide +kernel
theorem dX5_share_55 : decode cX5_share 55 = .ok (.bipush 60, 2) := by decide +kernel
theorem dX5_share_57 : decode cX5_share 57 = .ok (.iload 5, 2) := by decide +kernel
theorem dX5_share_59 : decode cX5_share 59 = .ok (.idiv, 1) := by decide +kernel
theorem dX5_share_60 : decode cX5_share 60 = .ok (.goto 4, 3) := by decide +kernel
theorem dX5_share_63 : decode cX5_share 63 = .ok (.iconst 0, 1) := by decide +kernel
theorem dX5_share_64 : decode cX5_share 64 = .ok (.iadd, 1) := by decide +kernel
theorem dX5_share_65 : decode cX5_share 65 = .ok (.istore_n 3, 1) := by decide +kernel
theorem dX5_share_66 : decode cX5_share 66 = .ok (.iinc 4 1, 3) := by decide +kernel
theorem dX5_share_69 : decode cX5_share 69 = .ok (.goto (-51), 3) := by decide +kernel
theorem dX5_share_72 : decode cX5_share 72 = .ok (.iload_n 3, 1) := by decide +kernel
theorem dX5_share_73 : decode cX5_share 73 = .ok (.bipush 60, 2) := by decide +kernel
theorem dX5_share_75 : decode cX5_share 75 = .ok (.iload_n 2, 1) := by decide +kernel
theorem dX5_share_76 : decode cX5_share 76 = .ok (.invokestatic 230, 3) := by decide +kernel
theorem dX5_share_79 : decode cX5_share 79 = .ok (.ireturn, 1) := by decide +kernel
set_option maxRecDepth 20000 in
theorem ggX5_rests_X2_hasHouse : GoodIn wsX5_rests wsX2_hasHouse := goodIn_r _ [8, 9, 124, 125, 126, 127, 128, 129, 130, 131, 132] (by decide +kernel) (by decide +kernel)
set_option maxRecDepth 20000 in
theorem gX5_rests_X2_hasHouse : GoodIn wsX5_rests (wsV RX5 102 RX2 yX2_hasHouse wsX2_hasHouse) := goodIn_app (goodIn_of _ (by decide +kernel)) ggX5_rests_X2_hasHouse
set_option maxRecDepth 20000 in
theorem ggX5_rests_X5_isZeroOrOne : GoodIn wsX5_rests wsX5_isZeroOrOne := goodIn_r _ [13] (by decide +kernel) (by decide +kernel)
set_option maxRecDepth 20000 in
theorem gX5_rests_X5_isZeroOrOne : GoodIn wsX5_rests (va_wsS RX5 185 yX5_isZeroOrOne wsX5_isZeroOrOne) := goodIn_app (goodIn_of _ (by decide +kernel)) ggX5_rests_X5_isZeroOrOne
set_option maxRecDepth 20000 in
theorem ggX5_rests_X5_fillChoices : GoodIn wsX5_rests wsX5_fillChoices := goodIn_r _ [17, 18, 19, 2, 20, 3, 21, 22, 23, 24, 25, 26, 27, 28, 29, 30, 31, 32, 33, 34, 35, 36, 37, 38, 39, 40, 41, 42, 43, 44, 5, 6, 7, 8, 9, 45, 46, 47, 48, 49, 50, 51, 52, 53, 54, 55, 56, 57, 58, 59, 60, 61, 62, 63, 64, 65, 66, 67, 68, 69, 70, 71, 72, 73, 74, 75, 76, 77, 78, 79, 80, 81, 82, 83, 84, 85, 86, 87, 88, 89, 90, 91, 92, 93, 94, 95, 96, 97, 98, 99, 100, 101, 102, 103, 104, 105, 106, 107, 108, 109, 110, 111, 112, 113, 114, 115, 116, 117, 118, 119, 120, 121, 122, 123, 133, 134, 135, 136, 137, 138, 124, 125, 126, 127, 128, 129, 130, 131, 132] (by decide +kernel) (by decide +kernel)
set_option maxRecDepth 20000 in
theorem gX5_rests_X5_fillChoices : GoodIn wsX5_rests (wsV RX5 234 RX5 yX5_fillChoices wsX5_fillChoices) := goodIn_app (goodIn_of _ (by decide +kernel)) ggX5_rests_X5_fillChoices
theorem dX5_rests_0 : decode cX5_rests 0 = .ok (.aload_n 0, 1) := by decide +kernel
theorem dX5_rests_1 : decode cX5_rests 1 = .ok (.getfield 38, 3) := by decide +kernel
theorem dX5_rests_4 : decode cX5_rests 4 = .ok (.iload_n 1, 1) := by decide +kernel
theorem dX5_rests_5 : decode cX5_rests 5 = .ok (.invokevirtual 102, 3) := by decide +kernel
theorem dX5_rests_8 : decode cX5_rests 8 = .ok (.ifCond .eq 14, 3) := by decide +kernel
theorem dX5_rests_11 : decode cX5_rests 11 = .ok (.aload_n 0, 1) := by decide +kernel
theorem dX5_rests_12 : decode cX5_rests 12 = .ok (.getfield 38, 3) := by decide +kernel
theorem dX5_rests_15 : decode cX5_rests 15 = .ok (.iload_n 2, 1) := by decide +kernel
theorem dX5_rests_16 : decode cX5_rests 16 = .ok (.invokevirtual 102, 3) := by decide +kernel
theorem dX5_rests_19 : decode cX5_rests 19 = .ok (.ifCond .ne 5, 3) := by decide +kernel
theorem dX5_rests_22 : decode cX5_rests 22 = .ok (.iconst (-1), 1) := by decide +kernel
theorem dX5_rests_23 : decode cX5_rests 23 = .ok (.ireturn, 1) := by decide +kernel
theorem dX5_rests_24 : decode cX5_rests 24 = .ok (.iload_n 1, 1) := by decide +kernel
theorem dX5_rests_25 : decode cX5_rests 25 = .ok (.iload_n 2, 1) := by decide +kernel
theorem dX5_rests_26 : decode cX5_rests 26 = .ok (.if_icmp .eq 10, 3) := by decide +kernel
theorem dX5_rests_29 : decode cX5_rests 29 = .ok (.iload_n 3, 1) := by decide +kernel
theorem dX5_rests_30 : decode cX5_rests 30 = .ok (.invokestatic 185, 3) := by decide +kernel
theorem dX5_rests_33 : decode cX5_rests 33 = .ok (.ifCond .ne 6, 3) := by decide +kernel
theorem dX5_rests_36 : decode cX5_rests 36 = .ok (.bipush (-2), 2) := by decide +kernel
theorem dX5_rests_38 : decode cX5_rests 38 = .ok (.ireturn, 1) := by decide +kernel
theorem dX5_rests_39 : decode cX5_rests 39 = .ok (.aload_n 0, 1) := by decide +kernel
theorem dX5_rests_40 : decode cX5_rests 40 = .ok (.iload_n 1, 1) := by decide +kernel
theorem dX5_rests_41 : decode cX5_rests 41 = .ok (.iload_n 2, 1) := by decide +kernel
theorem dX5_rests_42 : decode cX5_rests 42 = .ok (.invokevirtual 234, 3) := by decide +kernel
theorem dX5_rests_45 : decode cX5_rests 45 = .ok (.iconst 0, 1) := by decide +kernel
theorem dX5_rests_46 : decode cX5_rests 46 = .ok (.istore 4, 2) := by decide +kernel
theorem dX5_rests_48 : decode cX5_rests 48 = .ok (.bipush (-9), 2) := by decide +kernel
theorem dX5_rests_50 : decode cX5_rests 50 = .ok (.istore 5, 2) := by decide +kernel
theorem dX5_rests_52 : decode cX5_rests 52 = .ok (.iconst 0, 1) := by decide +kernel
theorem dX5_rests_53 : decode cX5_rests 53 = .ok (.istore 6, 2) := by decide +kernel
theorem dX5_rests_55 : decode cX5_rests 55 = .ok (.iload 6, 2) := by decide +kernel
theorem dX5_rests_57 : decode cX5_rests 57 = .ok (.iconst 4, 1) := by decide +kernel
theorem dX5_rests_58 : decode cX5_rests 58 = .ok (.if_icmp .ge 74, 3) := by decide +kernel
theorem dX5_rests_61 : decode cX5_rests 61 = .ok (.aload_n 0, 1) := by decide +kernel
theorem dX5_rests_62 : decode cX5_rests 62 = .ok (.getfield 29, 3) := by decide +kernel
theorem dX5_rests_65 : decode cX5_rests 65 = .ok (.iload 6, 2) := by decide +kernel
theorem dX5_rests_67 : decode cX5_rests 67 = .ok (.iaload, 1) := by decide +kernel
theorem dX5_rests_68 : decode cX5_rests 68 = .ok (.aload_n 0, 1) := by decide +kernel
theorem dX5_rests_69 : decode cX5_rests 69 = .ok (.getfield 29, 3) := by decide +kernel
theorem dX5_rests_72 : decode cX5_rests 72 = .ok (.iload 6, 2) := by decide +kernel
theorem dX5_rests_74 : decode cX5_rests 74 = .ok (.iconst 2, 1) := by decide +kernel
theorem dX5_rests_75 : decode cX5_rests 75 = .ok (.ixor, 1) := by decide +kernel
theorem dX5_rests_76 : decode cX5_rests 76 = .ok (.iaload, 1) := by decide +kernel
theorem dX5_rests_77 : decode cX5_rests 77 = .ok (.if_icmp .lt 49, 3) := by decide +kernel
theorem dX5_rests_80 : decode cX5_rests 80 = .ok (.aload_n 0, 1) := by decide +kernel
theorem dX5_rests_81 : decode cX5_rests 81 = .ok (.getfield 32, 3) := by decide +kernel
theorem dX5_rests_84 : decode cX5_rests 84 = .ok (.iload 6, 2) := by decide +kernel
theorem dX5_rests_86 : decode cX5_rests 86 = .ok (.iaload, 1) := by decide +kernel
theorem dX5_rests_87 : decode cX5_rests 87 = .ok (.aload_n 0, 1) := by decide +kernel
theorem dX5_rests_88 : decode cX5_rests 88 = .ok (.getfield 32, 3) := by decide +kernel
theorem dX5_rests_91 : decode cX5_rests 91 = .ok (.iload 6, 2) := by decide +kernel
theorem dX5_rests_93 : decode cX5_rests 93 = .ok (.iconst 1, 1) := by decide +kernel
theorem dX5_rests_94 : decode cX5_rests 94 = .ok (.ixor, 1) := by decide +kernel
theorem dX5_rests_95 : decode cX5_rests 95 = .ok (.iaload, 1) := by decide +kernel
theorem dX5_rests_96 : decode cX5_rests 96 = .ok (.if_icmp .lt 30, 3) := by decide +kernel
theorem dX5_rests_99 : decode cX5_rests 99 = .ok (.iload 4, 2) := by decide +kernel
theorem dX5_rests_101 : decode cX5_rests 101 = .ok (.ifCond .ne 18, 3) := by decide +kernel
theorem dX5_rests_104 : decode cX5_rests 104 = .ok (.bipush 10, 2) := by decide +kernel
theorem dX5_rests_106 : decode cX5_rests 106 = .ok (.iload 6, 2) := by decide +kernel
theorem dX5_rests_108 : decode cX5_rests 108 = .ok (.iconst 1, 1) := by decide +kernel
theorem dX5_rests_109 : decode cX5_rests 109 = .ok (.ishr, 1) := by decide +kernel
theorem dX5_rests_110 : decode cX5_rests 110 = .ok (.imul, 1) := by decide +kernel
theorem dX5_rests_111 : decode cX5_rests 111 = .ok (.iload 6, 2) := by decide +kernel
theorem dX5_rests_113 : decode cX5_rests 113 = .ok (.iconst 1, 1) := by decide +kernel
theorem dX5_rests_114 : decode cX5_rests 114 = .ok (.iand, 1) := by decide +kernel
theorem dX5_rests_115 : decode cX5_rests 115 = .ok (.iadd, 1) := by decide +kernel
theorem dX5_rests_116 : decode cX5_rests 116 = .ok (.goto 5, 3) := by decide +kernel
theorem dX5_rests_119 : decode cX5_rests 119 = .ok (.iload 5, 2) := by decide +kernel
theorem dX5_rests_121 : decode cX5_rests 121 = .ok (.istore 5, 2) := by decide +kernel
theorem dX5_rests_123 : decode cX5_rests 123 = .ok (.iinc 4 1, 3) := by decide +kernel
theorem dX5_rests_126 : decode cX5_rests 126 = .ok (.iinc 6 1, 3) := by decide +kernel
theorem dX5_rests_129 : decode cX5_rests 129 = .ok (.goto (-74), 3) := by decide +kernel
theorem dX5_rests_132 : decode cX5_rests 132 = .ok (.iload_n 3, 1) := by decide +kernel
theorem dX5_rests_133 : decode cX5_rests 133 = .ok (.ifCond .ne 8, 3) := by decide +kernel
theorem dX5_rests_136 : decode cX5_rests 136 = .ok (.iload 4, 2) := by decide +kernel
theorem dX5_rests_138 : decode cX5_rests 138 = .ok (.goto 5, 3) := by decide +kernel
theorem dX5_rests_141 : decode cX5_rests 141 = .ok (.iload 5, 2) := by decide +kernel
theorem dX5_rests_143 : decode cX5_rests 143 = .ok (.ireturn, 1) := by decide +kernel
set_option maxRecDepth 20000 in
theorem ggX5_dries_X2_hasHouse : GoodIn wsX5_dries wsX2_hasHouse := goodIn_r _ [6, 7, 124, 125, 126, 127, 128, 129, 130, 131, 132] (by decide +kernel) (by decide +kernel)
set_option maxRecDepth 20000 in
theorem gX5_dries_X2_hasHouse : GoodIn wsX5_dries (wsV RX5 102 RX2 yX2_hasHouse wsX2_hasHouse) := goodIn_app (goodIn_of _ (by decide +kernel)) ggX5_dries_X2_hasHouse
set_option maxRecDepth 20000 in
theorem ggX5_dries_X5_isThing : GoodIn wsX5_dries wsX5_isThing := goodIn_r _ [11] (by decide +kernel) (by decide +kernel)
set_option maxRecDepth 20000 in
theorem gX5_dries_X5_isThing : GoodIn wsX5_dries (va_wsS RX5 179 yX5_isThing wsX5_isThing) := goodIn_app (goodIn_of _ (by decide +kernel)) ggX5_dries_X5_isThing
set_option maxRecDepth 20000 in
theorem ggX5_dries_X5_weightOf : GoodIn wsX5_dries wsX5_weightOf := goodIn_r _ [14] (by decide +kernel) (by decide +kernel)
set_option maxRecDepth 20000 in
theorem gX5_dries_X5_weightOf : GoodIn wsX5_dries (va_wsS RX5 238 yX5_weightOf wsX5_weightOf) := goodIn_app (goodIn_of _ (by decide +kernel)) ggX5_dries_X5_weightOf
set_option maxRecDepth 20000 in
theorem ggX5_dries_X5_knowsBehind : GoodIn wsX5_dries wsX5_knowsBehind := goodIn_r _ [18, 19, 20, 1, 21, 22, 23, 24, 25, 26, 27, 28, 29, 30, 31, 32, 33, 34, 35, 36, 37, 38, 5, 39, 40, 41, 42, 43, 44, 45, 46, 47, 48, 49, 50, 51, 52, 53, 54, 55, 56, 57, 58, 59, 60, 61, 62, 63, 64, 65, 66, 67, 68, 69, 70, 71, 72, 73, 74, 75, 76, 77, 78, 79, 80, 81, 82, 83, 84, 7, 85, 86, 87, 88, 89, 90, 91, 92, 93, 94, 95, 96, 97, 98, 99, 109, 110, 111, 112, 113, 114, 115, 116, 117, 118, 119, 120, 121, 122, 123, 133, 134, 135, 136, 137, 138, 124, 125, 126, 127, 128, 129, 130, 131, 132] (by decide +kernel) (by decide +kernel)
set_option maxRecDepth 20000 in
theorem gX5_dries_X5_knowsBehind : GoodIn wsX5_dries (wsV RX5 242 RX5 yX5_knowsBehind wsX5_knowsBehind) := goodIn_app (goodIn_of _ (by decide +kernel)) ggX5_dries_X5_knowsBehind
set_option maxRecDepth 20000 in
theorem ggX5_dries_X5_tenToThe : GoodIn wsX5_dries wsX5_tenToThe := goodIn_r _ [102] (by decide +kernel) (by decide +kernel)
set_option maxRecDepth 20000 in
theorem gX5_dries_X5_tenToThe : GoodIn wsX5_dries (va_wsS RX5 246 yX5_tenToThe wsX5_tenToThe) := goodIn_app (goodIn_of _ (by decide +kernel)) ggX5_dries_X5_tenToThe
set_option maxRecDepth 20000 in
theorem ggX5_dries_X5_fraction : GoodIn wsX5_dries wsX5_fraction := goodIn_r _ [105, 106, 107, 10, 108] (by decide +kernel) (by decide +kernel)
set_option maxRecDepth 20000 in
theorem gX5_dries_X5_fraction : GoodIn wsX5_dries (va_wsS RX5 230 yX5_fraction wsX5_fraction) := goodIn_app (goodIn_of _ (by decide +kernel)) ggX5_dries_X5_fraction
theorem dX5_dries_0 : decode cX5_dries 0 = .ok (.aload_n 0, 1) := by decide +kernel
theorem dX5_dries_1 : decode cX5_dries 1 = .ok (.getfield 38, 3) := by decide +kernel
theorem dX5_dries_4 : decode cX5_dries 4 = .ok (.iload_n 1, 1) := by decide +kernel
theorem dX5_dries_5 : decode cX5_dries 5 = .ok (.invokevirtual 102, 3) := by decide +kernel
theorem dX5_dries_8 : decode cX5_dries 8 = .ok (.ifCond .eq 10, 3) := by decide +kernel
theorem dX5_dries_11 : decode cX5_dries 11 = .ok (.iload_n 2, 1) := by decide +kernel
theorem dX5_dries_12 : decode cX5_dries 12 = .ok (.invokestatic 179, 3) := by decide +kernel
theorem dX5_dries_15 : decode cX5_dries 15 = .ok (.ifCond .ne 5, 3) := by decide +kernel
theorem dX5_dries_18 : decode cX5_dries 18 = .ok (.iconst (-1), 1) := by decide +kernel
theorem dX5_dries_19 : decode cX5_dries 19 = .ok (.ireturn, 1) := by decide +kernel
theorem dX5_dries_20 : decode cX5_dries 20 = .ok (.iload_n 3, 1) := by decide +kernel
theorem dX5_dries_21 : decode cX5_dries 21 = .ok (.iconst 1, 1) := by decide +kernel
theorem dX5_dries_22 : decode cX5_dries 22 = .ok (.if_icmp .lt 21, 3) := by decide +kernel
theorem dX5_dries_25 : decode cX5_dries 25 = .ok (.iload_n 3, 1) := by decide +kernel
theorem dX5_dries_26 : decode cX5_dries 26 = .ok (.bipush 6, 2) := by decide +kernel
theorem dX5_dries_28 : decode cX5_dries 28 = .ok (.if_icmp .gt 15, 3) := by decide +kernel
theorem dX5_dries_31 : decode cX5_dries 31 = .ok (.iload 4, 2) := by decide +kernel
theorem dX5_dries_33 : decode cX5_dries 33 = .ok (.ifCond .lt 10, 3) := by decide +kernel
theorem dX5_dries_36 : decode cX5_dries 36 = .ok (.iload 4, 2) := by decide +kernel
theorem dX5_dries_38 : decode cX5_dries 38 = .ok (.bipush 10, 2) := by decide +kernel
theorem dX5_dries_40 : decode cX5_dries 40 = .ok (.if_icmp .le 6, 3) := by decide +kernel
theorem dX5_dries_43 : decode cX5_dries 43 = .ok (.bipush (-2), 2) := by decide +kernel
theorem dX5_dries_45 : decode cX5_dries 45 = .ok (.ireturn, 1) := by decide +kernel
theorem dX5_dries_46 : decode cX5_dries 46 = .ok (.iconst 0, 1) := by decide +kernel
theorem dX5_dries_47 : decode cX5_dries 47 = .ok (.istore 6, 2) := by decide +kernel
theorem dX5_dries_49 : decode cX5_dries 49 = .ok (.iconst 0, 1) := by decide +kernel
theorem dX5_dries_50 : decode cX5_dries 50 = .ok (.istore 7, 2) := by decide +kernel
theorem dX5_dries_52 : decode cX5_dries 52 = .ok (.iload 7, 2) := by decide +kernel
theorem dX5_dries_54 : decode cX5_dries 54 = .ok (.iconst 1, 1) := by decide +kernel
theorem dX5_dries_55 : decode cX5_dries 55 = .ok (.iload_n 3, 1) := by decide +kernel
theorem dX5_dries_56 : decode cX5_dries 56 = .ok (.ishl, 1) := by decide +kernel
theorem dX5_dries_57 : decode cX5_dries 57 = .ok (.if_icmp .ge 43, 3) := by decide +kernel
theorem dX5_dries_60 : decode cX5_dries 60 = .ok (.iload 7, 2) := by decide +kernel
theorem dX5_dries_62 : decode cX5_dries 62 = .ok (.iload_n 3, 1) := by decide +kernel
theorem dX5_dries_63 : decode cX5_dries 63 = .ok (.iload 4, 2) := by decide +kernel
theorem dX5_dries_65 : decode cX5_dries 65 = .ok (.invokestatic 238, 3) := by decide +kernel
theorem dX5_dries_68 : decode cX5_dries 68 = .ok (.istore 8, 2) := by decide +kernel
theorem dX5_dries_70 : decode cX5_dries 70 = .ok (.iload 8, 2) := by decide +kernel
theorem dX5_dries_72 : decode cX5_dries 72 = .ok (.ifCond .le 22, 3) := by decide +kernel
theorem dX5_dries_75 : decode cX5_dries 75 = .ok (.aload_n 0, 1) := by decide +kernel
theorem dX5_dries_76 : decode cX5_dries 76 = .ok (.iload 7, 2) := by decide +kernel
theorem dX5_dries_78 : decode cX5_dries 78 = .ok (.iload_n 3, 1) := by decide +kernel
theorem dX5_dries_79 : decode cX5_dries 79 = .ok (.iload_n 1, 1) := by decide +kernel
theorem dX5_dries_80 : decode cX5_dries 80 = .ok (.iload_n 2, 1) := by decide +kernel
theorem dX5_dries_81 : decode cX5_dries 81 = .ok (.invokevirtual 242, 3) := by decide +kernel
theorem dX5_dries_84 : decode cX5_dries 84 = .ok (.ifCond .eq 10, 3) := by decide +kernel
theorem dX5_dries_87 : decode cX5_dries 87 = .ok (.iload 6, 2) := by decide +kernel
theorem dX5_dries_89 : decode cX5_dries 89 = .ok (.iload 8, 2) := by decide +kernel
theorem dX5_dries_91 : decode cX5_dries 91 = .ok (.iadd, 1) := by decide +kernel
theorem dX5_dries_92 : decode cX5_dries 92 = .ok (.istore 6, 2) := by decide +kernel
theorem dX5_dries_94 : decode cX5_dries 94 = .ok (.iinc 7 1, 3) := by decide +kernel
theorem dX5_dries_97 : decode cX5_dries 97 = .ok (.goto (-45), 3) := by decide +kernel
theorem dX5_dries_100 : decode cX5_dries 100 = .ok (.iload 6, 2) := by decide +kernel
theorem dX5_dries_102 : decode cX5_dries 102 = .ok (.iload_n 3, 1) := by decide +kernel
theorem dX5_dries_103 : decode cX5_dries 103 = .ok (.invokestatic 246, 3) := by decide +kernel
theorem dX5_dries_106 : decode cX5_dries 106 = .ok (.iload 5, 2) := by decide +kernel
theorem dX5_dries_108 : decode cX5_dries 108 = .ok (.invokestatic 230, 3) := by decide +kernel
theorem dX5_dries_111 : decode cX5_dries 111 = .ok (.ireturn, 1) := by decide +kernel
theorem dX5_seed_0 : decode cX5_seed 0 = .ok (.aload_n 0, 1) := by decide +kernel
theorem dX5_seed_1 : decode cX5_seed 1 = .ok (.getfield 249, 3) := by decide +kernel
theorem dX5_seed_4 : decode cX5_seed 4 = .ok (.lstore_n 3, 1) := by decide +kernel
theorem dX5_seed_5 : decode cX5_seed 5 = .ok (.aload_n 0, 1) := by decide +kernel
theorem dX5_seed_6 : decode cX5_seed 6 = .ok (.lload_n 1, 1) := by decide +kernel
theorem dX5_seed_7 : decode cX5_seed 7 = .ok (.putfield 249, 3) := by decide +kernel
theorem dX5_seed_10 : decode cX5_seed 10 = .ok (.lload_n 3, 1) := by decide +kernel
theorem dX5_seed_11 : decode cX5_seed 11 = .ok (.lreturn, 1) := by decide +kernel
set_option maxRecDepth 20000 in
theorem ggX5_years_X4_take : GoodIn wsX5_years wsX4_take := goodIn_r _ [11, 12, 13, 14, 15, 16, 17, 18, 19, 20, 143, 144, 145, 146, 147, 148] (by decide +kernel) (by decide +kernel)
set_option maxRecDepth 20000 in
theorem gX5_years_X4_take : GoodIn wsX5_years (wsV RX5 173 RX4 yX4_take wsX4_take) := goodIn_app (goodIn_of _ (by decide +kernel)) ggX5_years_X4_take
set_option maxRecDepth 20000 in
theorem ggX5_years_X5_doByLot : GoodIn wsX5_years wsX5_doByLot := goodIn_r _ [25, 1, 26, 27, 28, 10, 29, 18, 30, 31, 32, 33, 34, 35, 36, 37, 38, 39, 40, 41, 42, 43, 44, 45, 46, 47, 48, 49, 50, 51, 52, 12, 17, 53, 54, 55, 56, 57, 58, 59, 60, 61, 62, 63, 64, 20, 65, 66, 67, 68, 69, 70, 71, 72, 73, 74, 75, 19, 76, 77, 78, 79, 80, 81, 82, 83, 84, 85, 86, 87, 88, 89, 90, 91, 92, 93, 94, 95, 96, 97, 98, 99, 100, 101, 102, 103, 104, 105, 106, 107, 108, 109, 110, 111, 112, 113, 114, 115, 116, 117, 118, 119, 120, 121, 122, 123, 128, 129, 130, 131, 132, 133, 134, 135, 136, 137, 138, 139, 140, 141, 142, 143, 144, 145, 146, 147, 148, 149, 150, 151, 152, 153, 154, 155, 156, 157] (by decide +kernel) (by decide +kernel)
set_option maxRecDepth 20000 in
theorem gX5_years_X5_doByLot : GoodIn wsX5_years (wsV RX5 259 RX5 yX5_doByLot wsX5_doByLot) := goodIn_app (goodIn_of _ (by decide +kernel)) ggX5_years_X5_doByLot
set_option maxRecDepth 20000 in
theorem ggX5_years_X4_allKnown : GoodIn wsX5_years wsX4_allKnown := goodIn_r _ [127, 34, 96, 17, 117, 118, 119, 120, 121, 122, 123, 143, 144, 145, 146, 147, 148, 149, 150, 151, 152, 153, 154, 155, 156, 157] (by decide +kernel) (by decide +kernel)
set_option maxRecDepth 20000 in
theorem gX5_years_X4_allKnown : GoodIn wsX5_years (wsV RX5 262 RX4 yX4_allKnown wsX4_allKnown) := goodIn_app (goodIn_of _ (by decide +kernel)) ggX5_years_X4_allKnown
theorem dX5_years_0 : decode cX5_years 0 = .ok (.iload_n 1, 1) := by decide +kernel
theorem dX5_years_1 : decode cX5_years 1 = .ok (.iconst 1, 1) := by decide +kernel
theorem dX5_years_2 : decode cX5_years 2 = .ok (.if_icmp .lt 9, 3) := by decide +kernel
theorem dX5_years_5 : decode cX5_years 5 = .ok (.iload_n 1, 1) := by decide +kernel
theorem dX5_years_6 : decode cX5_years 6 = .ok (.bipush 30, 2) := by decide +kernel
theorem dX5_years_8 : decode cX5_years 8 = .ok (.if_icmp .le 6, 3) := by decide +kernel
theorem dX5_years_11 : decode cX5_years 11 = .ok (.bipush (-2), 2) := by decide +kernel
theorem dX5_years_13 : decode cX5_years 13 = .ok (.ireturn, 1) := by decide +kernel
theorem dX5_years_14 : decode cX5_years 14 = .ok (.aload_n 0, 1) := by decide +kernel
theorem dX5_years_15 : decode cX5_years 15 = .ok (.getfield 56, 3) := by decide +kernel
theorem dX5_years_18 : decode cX5_years 18 = .ok (.aload_n 0, 1) := by decide +kernel
theorem dX5_years_19 : decode cX5_years 19 = .ok (.getfield 52, 3) := by decide +kernel
theorem dX5_years_22 : decode cX5_years 22 = .ok (.invokevirtual 173, 3) := by decide +kernel
theorem dX5_years_25 : decode cX5_years 25 = .ok (.iconst 0, 1) := by decide +kernel
theorem dX5_years_26 : decode cX5_years 26 = .ok (.istore_n 2, 1) := by decide +kernel
theorem dX5_years_27 : decode cX5_years 27 = .ok (.iconst 0, 1) := by decide +kernel
theorem dX5_years_28 : decode cX5_years 28 = .ok (.istore_n 3, 1) := by decide +kernel
theorem dX5_years_29 : decode cX5_years 29 = .ok (.iload_n 3, 1) := by decide +kernel
theorem dX5_years_30 : decode cX5_years 30 = .ok (.iload_n 1, 1) := by decide +kernel
theorem dX5_years_31 : decode cX5_years 31 = .ok (.if_icmp .ge 51, 3) := by decide +kernel
theorem dX5_years_34 : decode cX5_years 34 = .ok (.aload_n 0, 1) := by decide +kernel
theorem dX5_years_35 : decode cX5_years 35 = .ok (.aload_n 0, 1) := by decide +kernel
theorem dX5_years_36 : decode cX5_years 36 = .ok (.getfield 249, 3) := by decide +kernel
theorem dX5_years_39 : decode cX5_years 39 = .ok (.ldc2_w 253, 3) := by decide +kernel
theorem dX5_years_42 : decode cX5_years 42 = .ok (.lmul, 1) := by decide +kernel
theorem dX5_years_43 : decode cX5_years 43 = .ok (.ldc2_w 255, 3) := by decide +kernel
theorem dX5_years_46 : decode cX5_years 46 = .ok (.ladd, 1) := by decide +kernel
theorem dX5_years_47 : decode cX5_years 47 = .ok (.putfield 249, 3) := by decide +kernel
theorem dX5_years_50 : decode cX5_years 50 = .ok (.aload_n 0, 1) := by decide +kernel
theorem dX5_years_51 : decode cX5_years 51 = .ok (.aload_n 0, 1) := by decide +kernel
theorem dX5_years_52 : decode cX5_years 52 = .ok (.getfield 249, 3) := by decide +kernel
theorem dX5_years_55 : decode cX5_years 55 = .ok (.bipush 33, 2) := by decide +kernel
theorem dX5_years_57 : decode cX5_years 57 = .ok (.lushr, 1) := by decide +kernel
theorem dX5_years_58 : decode cX5_years 58 = .ok (.ldc2_w 257, 3) := by decide +kernel
theorem dX5_years_61 : decode cX5_years 61 = .ok (.land, 1) := by decide +kernel
theorem dX5_years_62 : decode cX5_years 62 = .ok (.l2i, 1) := by decide +kernel
theorem dX5_years_63 : decode cX5_years 63 = .ok (.invokevirtual 259, 3) := by decide +kernel
theorem dX5_years_66 : decode cX5_years 66 = .ok (.iload_n 2, 1) := by decide +kernel
theorem dX5_years_67 : decode cX5_years 67 = .ok (.aload_n 0, 1) := by decide +kernel
theorem dX5_years_68 : decode cX5_years 68 = .ok (.getfield 56, 3) := by decide +kernel
theorem dX5_years_71 : decode cX5_years 71 = .ok (.invokevirtual 262, 3) := by decide +kernel
theorem dX5_years_74 : decode cX5_years 74 = .ok (.iadd, 1) := by decide +kernel
theorem dX5_years_75 : decode cX5_years 75 = .ok (.istore_n 2, 1) := by decide +kernel
theorem dX5_years_76 : decode cX5_years 76 = .ok (.iinc 3 1, 3) := by decide +kernel
theorem dX5_years_79 : decode cX5_years 79 = .ok (.goto (-50), 3) := by decide +kernel
theorem dX5_years_82 : decode cX5_years 82 = .ok (.iload_n 2, 1) := by decide +kernel
theorem dX5_years_83 : decode cX5_years 83 = .ok (.ireturn, 1) := by decide +kernel
set_option maxRecDepth 20000 in
theorem ggX5_keep_X4_take : GoodIn wsX5_keep wsX4_take := goodIn_r _ [9, 10, 11, 12, 13, 14, 15, 16, 17, 18, 34, 35, 36, 37, 38, 39] (by decide +kernel) (by decide +kernel)
set_option maxRecDepth 20000 in
theorem gX5_keep_X4_take : GoodIn wsX5_keep (wsV RX5 173 RX4 yX4_take wsX4_take) := goodIn_app (goodIn_of _ (by decide +kernel)) ggX5_keep_X4_take
theorem dX5_keep_0 : decode cX5_keep 0 = .ok (.iload_n 1, 1) := by decide +kernel
theorem dX5_keep_1 : decode cX5_keep 1 = .ok (.ifCond .lt 8, 3) := by decide +kernel
theorem dX5_keep_4 : decode cX5_keep 4 = .ok (.iload_n 1, 1) := by decide +kernel
theorem dX5_keep_5 : decode cX5_keep 5 = .ok (.iconst 2, 1) := by decide +kernel
theorem dX5_keep_6 : decode cX5_keep 6 = .ok (.if_icmp .lt 5, 3) := by decide +kernel
theorem dX5_keep_9 : decode cX5_keep 9 = .ok (.iconst (-1), 1) := by decide +kernel
theorem dX5_keep_10 : decode cX5_keep 10 = .ok (.ireturn, 1) := by decide +kernel
theorem dX5_keep_11 : decode cX5_keep 11 = .ok (.aload_n 0, 1) := by decide +kernel
theorem dX5_keep_12 : decode cX5_keep 12 = .ok (.getfield 15, 3) := by decide +kernel
theorem dX5_keep_15 : decode cX5_keep 15 = .ok (.iload_n 1, 1) := by decide +kernel
theorem dX5_keep_16 : decode cX5_keep 16 = .ok (.aaload, 1) := by decide +kernel
theorem dX5_keep_17 : decode cX5_keep 17 = .ok (.aload_n 0, 1) := by decide +kernel
theorem dX5_keep_18 : decode cX5_keep 18 = .ok (.getfield 52, 3) := by decide +kernel
theorem dX5_keep_21 : decode cX5_keep 21 = .ok (.invokevirtual 173, 3) := by decide +kernel
theorem dX5_keep_24 : decode cX5_keep 24 = .ok (.aload_n 0, 1) := by decide +kernel
theorem dX5_keep_25 : decode cX5_keep 25 = .ok (.getfield 19, 3) := by decide +kernel
theorem dX5_keep_28 : decode cX5_keep 28 = .ok (.iload_n 1, 1) := by decide +kernel
theorem dX5_keep_29 : decode cX5_keep 29 = .ok (.iconst 1, 1) := by decide +kernel
theorem dX5_keep_30 : decode cX5_keep 30 = .ok (.bastore, 1) := by decide +kernel
theorem dX5_keep_31 : decode cX5_keep 31 = .ok (.aload_n 0, 1) := by decide +kernel
theorem dX5_keep_32 : decode cX5_keep 32 = .ok (.getfield 52, 3) := by decide +kernel
theorem dX5_keep_35 : decode cX5_keep 35 = .ok (.getfield 265, 3) := by decide +kernel
theorem dX5_keep_38 : decode cX5_keep 38 = .ok (.ireturn, 1) := by decide +kernel
set_option maxRecDepth 20000 in
theorem ggX5_again_X4_take : GoodIn wsX5_again wsX4_take := goodIn_r _ [10, 11, 12, 13, 14, 15, 16, 17, 18, 19, 42, 43, 44, 45, 46, 47] (by decide +kernel) (by decide +kernel)
set_option maxRecDepth 20000 in
theorem gX5_again_X4_take : GoodIn wsX5_again (wsV RX5 173 RX4 yX4_take wsX4_take) := goodIn_app (goodIn_of _ (by decide +kernel)) ggX5_again_X4_take
set_option maxRecDepth 20000 in
theorem ggX5_again_X0_forget : GoodIn wsX5_again wsX0_forget := goodIn_r _ [24, 25, 26, 48, 49, 50] (by decide +kernel) (by decide +kernel)
set_option maxRecDepth 20000 in
theorem gX5_again_X0_forget : GoodIn wsX5_again (wsV RX5 90 RX0 yX0_forget wsX0_forget) := goodIn_app (goodIn_of _ (by decide +kernel)) ggX5_again_X0_forget
theorem dX5_again_0 : decode cX5_again 0 = .ok (.iload_n 1, 1) := by decide +kernel
theorem dX5_again_1 : decode cX5_again 1 = .ok (.ifCond .lt 8, 3) := by decide +kernel
theorem dX5_again_4 : decode cX5_again 4 = .ok (.iload_n 1, 1) := by decide +kernel
theorem dX5_again_5 : decode cX5_again 5 = .ok (.iconst 2, 1) := by decide +kernel
theorem dX5_again_6 : decode cX5_again 6 = .ok (.if_icmp .lt 5, 3) := by decide +kernel
theorem dX5_again_9 : decode cX5_again 9 = .ok (.iconst (-1), 1) := by decide +kernel
theorem dX5_again_10 : decode cX5_again 10 = .ok (.ireturn, 1) := by decide +kernel
theorem dX5_again_11 : decode cX5_again 11 = .ok (.aload_n 0, 1) := by decide +kernel
theorem dX5_again_12 : decode cX5_again 12 = .ok (.getfield 19, 3) := by decide +kernel
theorem dX5_again_15 : decode cX5_again 15 = .ok (.iload_n 1, 1) := by decide +kernel
theorem dX5_again_16 : decode cX5_again 16 = .ok (.baload, 1) := by decide +kernel
theorem dX5_again_17 : decode cX5_again 17 = .ok (.ifCond .ne 6, 3) := by decide +kernel
theorem dX5_again_20 : decode cX5_again 20 = .ok (.bipush (-3), 2) := by decide +kernel
theorem dX5_again_22 : decode cX5_again 22 = .ok (.ireturn, 1) := by decide +kernel
theorem dX5_again_23 : decode cX5_again 23 = .ok (.aload_n 0, 1) := by decide +kernel
theorem dX5_again_24 : decode cX5_again 24 = .ok (.getfield 52, 3) := by decide +kernel
theorem dX5_again_27 : decode cX5_again 27 = .ok (.aload_n 0, 1) := by decide +kernel
theorem dX5_again_28 : decode cX5_again 28 = .ok (.getfield 15, 3) := by decide +kernel
theorem dX5_again_31 : decode cX5_again 31 = .ok (.iload_n 1, 1) := by decide +kernel
theorem dX5_again_32 : decode cX5_again 32 = .ok (.aaload, 1) := by decide +kernel
theorem dX5_again_33 : decode cX5_again 33 = .ok (.invokevirtual 173, 3) := by decide +kernel
theorem dX5_again_36 : decode cX5_again 36 = .ok (.aload_n 0, 1) := by decide +kernel
theorem dX5_again_37 : decode cX5_again 37 = .ok (.getfield 62, 3) := by decide +kernel
theorem dX5_again_40 : decode cX5_again 40 = .ok (.invokevirtual 90, 3) := by decide +kernel
theorem dX5_again_43 : decode cX5_again 43 = .ok (.aload_n 0, 1) := by decide +kernel
theorem dX5_again_44 : decode cX5_again 44 = .ok (.getfield 52, 3) := by decide +kernel
theorem dX5_again_47 : decode cX5_again 47 = .ok (.getfield 265, 3) := by decide +kernel
theorem dX5_again_50 : decode cX5_again 50 = .ok (.ireturn, 1) := by decide +kernel
set_option maxRecDepth 20000 in
theorem ggX5_count_X2_rainAt : GoodIn wsX5_count wsX2_rainAt := goodIn_r _ [17, 18, 19, 83, 84, 85, 86, 87, 88, 89, 90, 91] (by decide +kernel) (by decide +kernel)
set_option maxRecDepth 20000 in
theorem gX5_count_X2_rainAt : GoodIn wsX5_count (wsV RX5 268 RX2 yX2_rainAt wsX2_rainAt) := goodIn_app (goodIn_of _ (by decide +kernel)) ggX5_count_X2_rainAt
set_option maxRecDepth 20000 in
theorem ggX5_count_X4_areStrayed : GoodIn wsX5_count wsX4_areStrayed := goodIn_r _ [24, 25, 92, 93, 94, 95, 96, 97] (by decide +kernel) (by decide +kernel)
set_option maxRecDepth 20000 in
theorem gX5_count_X4_areStrayed : GoodIn wsX5_count (wsV RX5 274 RX4 yX4_areStrayed wsX4_areStrayed) := goodIn_app (goodIn_of _ (by decide +kernel)) ggX5_count_X4_areStrayed
set_option maxRecDepth 20000 in
theorem ggX5_count_X2_allHouses : GoodIn wsX5_count wsX2_allHouses := goodIn_r _ [29, 30, 83, 84, 85, 86, 87, 88, 89, 90, 91] (by decide +kernel) (by decide +kernel)
set_option maxRecDepth 20000 in
theorem gX5_count_X2_allHouses : GoodIn wsX5_count (wsV RX5 198 RX2 yX2_allHouses wsX2_allHouses) := goodIn_app (goodIn_of _ (by decide +kernel)) ggX5_count_X2_allHouses
set_option maxRecDepth 20000 in
theorem ggX5_count_X4_knownBy : GoodIn wsX5_count wsX4_knownBy := goodIn_r _ [34, 35, 36, 37, 92, 93, 94, 95, 96, 97, 83, 84, 85, 86, 87, 88, 89, 90, 91] (by decide +kernel) (by decide +kernel)
set_option maxRecDepth 20000 in
theorem gX5_count_X4_knownBy : GoodIn wsX5_count (wsV RX5 206 RX4 yX4_knownBy wsX4_knownBy) := goodIn_app (goodIn_of _ (by decide +kernel)) ggX5_count_X4_knownBy
set_option maxRecDepth 20000 in
theorem ggX5_count_X4_housesThatHear : GoodIn wsX5_count wsX4_housesThatHear := goodIn_r _ [41, 35, 42, 43, 14, 15, 16, 17, 18, 19, 44, 45, 46, 23, 47, 48, 49, 50, 51, 36, 52, 53, 54, 55, 56, 57, 58, 59, 60, 61, 62, 63, 21, 22, 24, 25, 64, 65, 66, 67, 92, 93, 94, 95, 96, 97, 83, 84, 85, 86, 87, 88, 89, 90, 91] (by decide +kernel) (by decide +kernel)
set_option maxRecDepth 20000 in
theorem gX5_count_X4_housesThatHear : GoodIn wsX5_count (wsV RX5 122 RX4 yX4_housesThatHear wsX4_housesThatHear) := goodIn_app (goodIn_of _ (by decide +kernel)) ggX5_count_X4_housesThatHear
theorem dX5_count_0 : decode cX5_count 0 = .ok (.iload_n 1, 1) := by decide +kernel
theorem dX5_count_1 : decode cX5_count 1 = .ok (.tableswitch 178 0 11 #[63, 68, 76, 84, 92, 100, 115, 123, 139, 154, 162, 170], 63) := by decide +kernel
theorem dX5_count_64 : decode cX5_count 64 = .ok (.aload_n 0, 1) := by decide +kernel
theorem dX5_count_65 : decode cX5_count 65 = .ok (.getfield 73, 3) := by decide +kernel
theorem dX5_count_68 : decode cX5_count 68 = .ok (.ireturn, 1) := by decide +kernel
theorem dX5_count_69 : decode cX5_count 69 = .ok (.aload_n 0, 1) := by decide +kernel
theorem dX5_count_70 : decode cX5_count 70 = .ok (.getfield 38, 3) := by decide +kernel
theorem dX5_count_73 : decode cX5_count 73 = .ok (.getfield 93, 3) := by decide +kernel
theorem dX5_count_76 : decode cX5_count 76 = .ok (.ireturn, 1) := by decide +kernel
theorem dX5_count_77 : decode cX5_count 77 = .ok (.aload_n 0, 1) := by decide +kernel
theorem dX5_count_78 : decode cX5_count 78 = .ok (.getfield 38, 3) := by decide +kernel
theorem dX5_count_81 : decode cX5_count 81 = .ok (.getfield 96, 3) := by decide +kernel
theorem dX5_count_84 : decode cX5_count 84 = .ok (.ireturn, 1) := by decide +kernel
theorem dX5_count_85 : decode cX5_count 85 = .ok (.aload_n 0, 1) := by decide +kernel
theorem dX5_count_86 : decode cX5_count 86 = .ok (.getfield 38, 3) := by decide +kernel
theorem dX5_count_89 : decode cX5_count 89 = .ok (.getfield 99, 3) := by decide +kernel
theorem dX5_count_92 : decode cX5_count 92 = .ok (.ireturn, 1) := by decide +kernel
theorem dX5_count_93 : decode cX5_count 93 = .ok (.aload_n 0, 1) := by decide +kernel
theorem dX5_count_94 : decode cX5_count 94 = .ok (.getfield 52, 3) := by decide +kernel
theorem dX5_count_97 : decode cX5_count 97 = .ok (.getfield 265, 3) := by decide +kernel
theorem dX5_count_100 : decode cX5_count 100 = .ok (.ireturn, 1) := by decide +kernel
theorem dX5_count_101 : decode cX5_count 101 = .ok (.aload_n 0, 1) := by decide +kernel
theorem dX5_count_102 : decode cX5_count 102 = .ok (.getfield 38, 3) := by decide +kernel
theorem dX5_count_105 : decode cX5_count 105 = .ok (.aload_n 0, 1) := by decide +kernel
theorem dX5_count_106 : decode cX5_count 106 = .ok (.getfield 52, 3) := by decide +kernel
theorem dX5_count_109 : decode cX5_count 109 = .ok (.getfield 265, 3) := by decide +kernel
theorem dX5_count_112 : decode cX5_count 112 = .ok (.invokevirtual 268, 3) := by decide +kernel
theorem dX5_count_115 : decode cX5_count 115 = .ok (.ireturn, 1) := by decide +kernel
theorem dX5_count_116 : decode cX5_count 116 = .ok (.aload_n 0, 1) := by decide +kernel
theorem dX5_count_117 : decode cX5_count 117 = .ok (.getfield 52, 3) := by decide +kernel
theorem dX5_count_120 : decode cX5_count 120 = .ok (.getfield 271, 3) := by decide +kernel
theorem dX5_count_123 : decode cX5_count 123 = .ok (.ireturn, 1) := by decide +kernel
theorem dX5_count_124 : decode cX5_count 124 = .ok (.aload_n 0, 1) := by decide +kernel
theorem dX5_count_125 : decode cX5_count 125 = .ok (.getfield 52, 3) := by decide +kernel
theorem dX5_count_128 : decode cX5_count 128 = .ok (.invokevirtual 274, 3) := by decide +kernel
theorem dX5_count_131 : decode cX5_count 131 = .ok (.ifCond .eq 7, 3) := by decide +kernel
theorem dX5_count_134 : decode cX5_count 134 = .ok (.iconst 1, 1) := by decide +kernel
theorem dX5_count_135 : decode cX5_count 135 = .ok (.goto 4, 3) := by decide +kernel
theorem dX5_count_138 : decode cX5_count 138 = .ok (.iconst 0, 1) := by decide +kernel
theorem dX5_count_139 : decode cX5_count 139 = .ok (.ireturn, 1) := by decide +kernel
theorem dX5_count_140 : decode cX5_count 140 = .ok (.aload_n 0, 1) := by decide +kernel
theorem dX5_count_141 : decode cX5_count 141 = .ok (.getfield 52, 3) := by decide +kernel
theorem dX5_count_144 : decode cX5_count 144 = .ok (.aload_n 0, 1) := by decide +kernel
theorem dX5_count_145 : decode cX5_count 145 = .ok (.getfield 38, 3) := by decide +kernel
theorem dX5_count_148 : decode cX5_count 148 = .ok (.invokevirtual 198, 3) := by decide +kernel
theorem dX5_count_151 : decode cX5_count 151 = .ok (.invokevirtual 206, 3) := by decide +kernel
theorem dX5_count_154 : decode cX5_count 154 = .ok (.ireturn, 1) := by decide +kernel
theorem dX5_count_155 : decode cX5_count 155 = .ok (.aload_n 0, 1) := by decide +kernel
theorem dX5_count_156 : decode cX5_count 156 = .ok (.getfield 52, 3) := by decide +kernel
theorem dX5_count_159 : decode cX5_count 159 = .ok (.invokevirtual 122, 3) := by decide +kernel
theorem dX5_count_162 : decode cX5_count 162 = .ok (.ireturn, 1) := by decide +kernel
theorem dX5_count_163 : decode cX5_count 163 = .ok (.aload_n 0, 1) := by decide +kernel
theorem dX5_count_164 : decode cX5_count 164 = .ok (.getfield 62, 3) := by decide +kernel
theorem dX5_count_167 : decode cX5_count 167 = .ok (.getfield 167, 3) := by decide +kernel
theorem dX5_count_170 : decode cX5_count 170 = .ok (.ireturn, 1) := by decide +kernel
theorem dX5_count_171 : decode cX5_count 171 = .ok (.aload_n 0, 1) := by decide +kernel
theorem dX5_count_172 : decode cX5_count 172 = .ok (.getfield 69, 3) := by decide +kernel
theorem dX5_count_175 : decode cX5_count 175 = .ok (.getfield 219, 3) := by decide +kernel
theorem dX5_count_178 : decode cX5_count 178 = .ok (.ireturn, 1) := by decide +kernel
theorem dX5_count_179 : decode cX5_count 179 = .ok (.bipush (-2), 2) := by decide +kernel
theorem dX5_count_181 : decode cX5_count 181 = .ok (.ireturn, 1) := by decide +kernel
theorem dX5_isThing_0 : decode cX5_isThing 0 = .ok (.iload_n 0, 1) := by decide +kernel
theorem dX5_isThing_1 : decode cX5_isThing 1 = .ok (.ifCond .lt 13, 3) := by decide +kernel
theorem dX5_isThing_4 : decode cX5_isThing 4 = .ok (.iload_n 0, 1) := by decide +kernel
theorem dX5_isThing_5 : decode cX5_isThing 5 = .ok (.bipush 6, 2) := by decide +kernel
theorem dX5_isThing_7 : decode cX5_isThing 7 = .ok (.if_icmp .ge 7, 3) := by decide +kernel
theorem dX5_isThing_10 : decode cX5_isThing 10 = .ok (.iconst 1, 1) := by decide +kernel
theorem dX5_isThing_11 : decode cX5_isThing 11 = .ok (.goto 4, 3) := by decide +kernel
theorem dX5_isThing_14 : decode cX5_isThing 14 = .ok (.iconst 0, 1) := by decide +kernel
theorem dX5_isThing_15 : decode cX5_isThing 15 = .ok (.ireturn, 1) := by decide +kernel
theorem dX5_isFigure_0 : decode cX5_isFigure 0 = .ok (.iload_n 0, 1) := by decide +kernel
theorem dX5_isFigure_1 : decode cX5_isFigure 1 = .ok (.ifCond .lt 13, 3) := by decide +kernel
theorem dX5_isFigure_4 : decode cX5_isFigure 4 = .ok (.iload_n 0, 1) := by decide +kernel
theorem dX5_isFigure_5 : decode cX5_isFigure 5 = .ok (.bipush 10, 2) := by decide +kernel
theorem dX5_isFigure_7 : decode cX5_isFigure 7 = .ok (.if_icmp .ge 7, 3) := by decide +kernel
theorem dX5_isFigure_10 : decode cX5_isFigure 10 = .ok (.iconst 1, 1) := by decide +kernel
theorem dX5_isFigure_11 : decode cX5_isFigure 11 = .ok (.goto 4, 3) := by decide +kernel
theorem dX5_isFigure_14 : decode cX5_isFigure 14 = .ok (.iconst 0, 1) := by decide +kernel
theorem dX5_isFigure_15 : decode cX5_isFigure 15 = .ok (.ireturn, 1) := by decide +kernel
theorem dX5_isZeroOrOne_0 : decode cX5_isZeroOrOne 0 = .ok (.iload_n 0, 1) := by decide +kernel
theorem dX5_isZeroOrOne_1 : decode cX5_isZeroOrOne 1 = .ok (.ifCond .eq 8, 3) := by decide +kernel
theorem dX5_isZeroOrOne_4 : decode cX5_isZeroOrOne 4 = .ok (.iload_n 0, 1) := by decide +kernel
theorem dX5_isZeroOrOne_5 : decode cX5_isZeroOrOne 5 = .ok (.iconst 1, 1) := by decide +kernel
theorem dX5_isZeroOrOne_6 : decode cX5_isZeroOrOne 6 = .ok (.if_icmp .ne 7, 3) := by decide +kernel
theorem dX5_isZeroOrOne_9 : decode cX5_isZeroOrOne 9 = .ok (.iconst 1, 1) := by decide +kernel
theorem dX5_isZeroOrOne_10 : decode cX5_isZeroOrOne 10 = .ok (.goto 4, 3) := by decide +kernel
theorem dX5_isZeroOrOne_13 : decode cX5_isZeroOrOne 13 = .ok (.iconst 0, 1) := by decide +kernel
theorem dX5_isZeroOrOne_14 : decode cX5_isZeroOrOne 14 = .ok (.ireturn, 1) := by decide +kernel
set_option maxRecDepth 20000 in
theorem ggX5_fraction_X5_greatestDivisor : GoodIn wsX5_fraction wsX5_greatestDivisor := goodIn_r _ [4] (by decide +kernel) (by decide +kernel)
set_option maxRecDepth 20000 in
theorem gX5_fraction_X5_greatestDivisor : GoodIn wsX5_fraction (va_wsS RX5 278 yX5_greatestDivisor wsX5_greatestDivisor) := goodIn_app (goodIn_of _ (by decide +kernel)) ggX5_fraction_X5_greatestDivisor
theorem dX5_fraction_0 : decode cX5_fraction 0 = .ok (.iload_n 0, 1) := by decide +kernel
theorem dX5_fraction_1 : decode cX5_fraction 1 = .ok (.iload_n 1, 1) := by decide +kernel
theorem dX5_fraction_2 : decode cX5_fraction 2 = .ok (.invokestatic 278, 3) := by decide +kernel
theorem dX5_fraction_5 : decode cX5_fraction 5 = .ok (.istore_n 3, 1) := by decide +kernel
theorem dX5_fraction_6 : decode cX5_fraction 6 = .ok (.iload_n 3, 1) := by decide +kernel
theorem dX5_fraction_7 : decode cX5_fraction 7 = .ok (.ifCond .ne 13, 3) := by decide +kernel
theorem dX5_fraction_10 : decode cX5_fraction 10 = .ok (.iload_n 2, 1) := by decide +kernel
theorem dX5_fraction_11 : decode cX5_fraction 11 = .ok (.ifCond .eq 7, 3) := by decide +kernel
theorem dX5_fraction_14 : decode cX5_fraction 14 = .ok (.iload_n 0, 1) := by decide +kernel
theorem dX5_fraction_15 : decode cX5_fraction 15 = .ok (.goto 4, 3) := by decide +kernel
theorem dX5_fraction_18 : decode cX5_fraction 18 = .ok (.iload_n 1, 1) := by decide +kernel
theorem dX5_fraction_19 : decode cX5_fraction 19 = .ok (.ireturn, 1) := by decide +kernel
theorem dX5_fraction_20 : decode cX5_fraction 20 = .ok (.iload_n 2, 1) := by decide +kernel
theorem dX5_fraction_21 : decode cX5_fraction 21 = .ok (.ifCond .eq 9, 3) := by decide +kernel
theorem dX5_fraction_24 : decode cX5_fraction 24 = .ok (.iload_n 0, 1) := by decide +kernel
theorem dX5_fraction_25 : decode cX5_fraction 25 = .ok (.iload_n 3, 1) := by decide +kernel
theorem dX5_fraction_26 : decode cX5_fraction 26 = .ok (.idiv, 1) := by decide +kernel
theorem dX5_fraction_27 : decode cX5_fraction 27 = .ok (.goto 6, 3) := by decide +kernel
theorem dX5_fraction_30 : decode cX5_fraction 30 = .ok (.iload_n 1, 1) := by decide +kernel
theorem dX5_fraction_31 : decode cX5_fraction 31 = .ok (.iload_n 3, 1) := by decide +kernel
theorem dX5_fraction_32 : decode cX5_fraction 32 = .ok (.idiv, 1) := by decide +kernel
theorem dX5_fraction_33 : decode cX5_fraction 33 = .ok (.ireturn, 1) := by decide +kernel
theorem dX5_greatestDivisor_0 : decode cX5_greatestDivisor 0 = .ok (.iload_n 0, 1) := by decide +kernel
theorem dX5_greatestDivisor_1 : decode cX5_greatestDivisor 1 = .ok (.istore_n 2, 1) := by decide +kernel
theorem dX5_greatestDivisor_2 : decode cX5_greatestDivisor 2 = .ok (.iload_n 1, 1) := by decide +kernel
theorem dX5_greatestDivisor_3 : decode cX5_greatestDivisor 3 = .ok (.istore_n 3, 1) := by decide +kernel
theorem dX5_greatestDivisor_4 : decode cX5_greatestDivisor 4 = .ok (.iconst 0, 1) := by decide +kernel
theorem dX5_greatestDivisor_5 : decode cX5_greatestDivisor 5 = .ok (.istore 4, 2) := by decide +kernel
theorem dX5_greatestDivisor_7 : decode cX5_greatestDivisor 7 = .ok (.iload 4, 2) := by decide +kernel
theorem dX5_greatestDivisor_9 : decode cX5_greatestDivisor 9 = .ok (.bipush 64, 2) := by decide +kernel
theorem dX5_greatestDivisor_11 : decode cX5_greatestDivisor 11 = .ok (.if_icmp .ge 23, 3) := by decide +kernel
theorem dX5_greatestDivisor_14 : decode cX5_greatestDivisor 14 = .ok (.iload_n 3, 1) := by decide +kernel
theorem dX5_greatestDivisor_15 : decode cX5_greatestDivisor 15 = .ok (.ifCond .eq 19, 3) := by decide +kernel
theorem dX5_greatestDivisor_18 : decode cX5_greatestDivisor 18 = .ok (.iload_n 2, 1) := by decide +kernel
theorem dX5_greatestDivisor_19 : decode cX5_greatestDivisor 19 = .ok (.iload_n 3, 1) := by decide +kernel
theorem dX5_greatestDivisor_20 : decode cX5_greatestDivisor 20 = .ok (.irem, 1) := by decide +kernel
theorem dX5_greatestDivisor_21 : decode cX5_greatestDivisor 21 = .ok (.istore 5, 2) := by decide +kernel
theorem dX5_greatestDivisor_23 : decode cX5_greatestDivisor 23 = .ok (.iload_n 3, 1) := by decide +kernel
theorem dX5_greatestDivisor_24 : decode cX5_greatestDivisor 24 = .ok (.istore_n 2, 1) := by decide +kernel
theorem dX5_greatestDivisor_25 : decode cX5_greatestDivisor 25 = .ok (.iload 5, 2) := by decide +kernel
theorem dX5_greatestDivisor_27 : decode cX5_greatestDivisor 27 = .ok (.istore_n 3, 1) := by decide +kernel
theorem dX5_greatestDivisor_28 : decode cX5_greatestDivisor 28 = .ok (.iinc 4 1, 3) := by decide +kernel
theorem dX5_greatestDivisor_31 : decode cX5_greatestDivisor 31 = .ok (.goto (-24), 3) := by decide +kernel
theorem dX5_greatestDivisor_34 : decode cX5_greatestDivisor 34 = .ok (.iload_n 2, 1) := by decide +kernel
theorem dX5_greatestDivisor_35 : decode cX5_greatestDivisor 35 = .ok (.ireturn, 1) := by decide +kernel
theorem dX5_tenToThe_0 : decode cX5_tenToThe 0 = .ok (.iconst 1, 1) := by decide +kernel
theorem dX5_tenToThe_1 : decode cX5_tenToThe 1 = .ok (.istore_n 1, 1) := by decide +kernel
theorem dX5_tenToThe_2 : decode cX5_tenToThe 2 = .ok (.iconst 0, 1) := by decide +kernel
theorem dX5_tenToThe_3 : decode cX5_tenToThe 3 = .ok (.istore_n 2, 1) := by decide +kernel
theorem dX5_tenToThe_4 : decode cX5_tenToThe 4 = .ok (.iload_n 2, 1) := by decide +kernel
theorem dX5_tenToThe_5 : decode cX5_tenToThe 5 = .ok (.iload_n 0, 1) := by decide +kernel
theorem dX5_tenToThe_6 : decode cX5_tenToThe 6 = .ok (.if_icmp .ge 14, 3) := by decide +kernel
theorem dX5_tenToThe_9 : decode cX5_tenToThe 9 = .ok (.iload_n 1, 1) := by decide +kernel
theorem dX5_tenToThe_10 : decode cX5_tenToThe 10 = .ok (.bipush 10, 2) := by decide +kernel
theorem dX5_tenToThe_12 : decode cX5_tenToThe 12 = .ok (.imul, 1) := by decide +kernel
theorem dX5_tenToThe_13 : decode cX5_tenToThe 13 = .ok (.istore_n 1, 1) := by decide +kernel
theorem dX5_tenToThe_14 : decode cX5_tenToThe 14 = .ok (.iinc 2 1, 3) := by decide +kernel
theorem dX5_tenToThe_17 : decode cX5_tenToThe 17 = .ok (.goto (-13), 3) := by decide +kernel
theorem dX5_tenToThe_20 : decode cX5_tenToThe 20 = .ok (.iload_n 1, 1) := by decide +kernel
theorem dX5_tenToThe_21 : decode cX5_tenToThe 21 = .ok (.ireturn, 1) := by decide +kernel
theorem dX5_sumOfLowerings_0 : decode cX5_sumOfLowerings 0 = .ok (.iconst 0, 1) := by decide +kernel
theorem dX5_sumOfLowerings_1 : decode cX5_sumOfLowerings 1 = .ok (.istore_n 1, 1) := by decide +kernel
theorem dX5_sumOfLowerings_2 : decode cX5_sumOfLowerings 2 = .ok (.iconst 0, 1) := by decide +kernel
theorem dX5_sumOfLowerings_3 : decode cX5_sumOfLowerings 3 = .ok (.istore_n 2, 1) := by decide +kernel
theorem dX5_sumOfLowerings_4 : decode cX5_sumOfLowerings 4 = .ok (.iload_n 2, 1) := by decide +kernel
theorem dX5_sumOfLowerings_5 : decode cX5_sumOfLowerings 5 = .ok (.aload_n 0, 1) := by decide +kernel
theorem dX5_sumOfLowerings_6 : decode cX5_sumOfLowerings 6 = .ok (.getfield 38, 3) := by decide +kernel
theorem dX5_sumOfLowerings_9 : decode cX5_sumOfLowerings 9 = .ok (.getfield 93, 3) := by decide +kernel
theorem dX5_sumOfLowerings_12 : decode cX5_sumOfLowerings 12 = .ok (.if_icmp .ge 18, 3) := by decide +kernel
theorem dX5_sumOfLowerings_15 : decode cX5_sumOfLowerings 15 = .ok (.iload_n 1, 1) := by decide +kernel
theorem dX5_sumOfLowerings_16 : decode cX5_sumOfLowerings 16 = .ok (.aload_n 0, 1) := by decide +kernel
theorem dX5_sumOfLowerings_17 : decode cX5_sumOfLowerings 17 = .ok (.getfield 26, 3) := by decide +kernel
theorem dX5_sumOfLowerings_20 : decode cX5_sumOfLowerings 20 = .ok (.iload_n 2, 1) := by decide +kernel
theorem dX5_sumOfLowerings_21 : decode cX5_sumOfLowerings 21 = .ok (.iaload, 1) := by decide +kernel
theorem dX5_sumOfLowerings_22 : decode cX5_sumOfLowerings 22 = .ok (.iadd, 1) := by decide +kernel
theorem dX5_sumOfLowerings_23 : decode cX5_sumOfLowerings 23 = .ok (.istore_n 1, 1) := by decide +kernel
theorem dX5_sumOfLowerings_24 : decode cX5_sumOfLowerings 24 = .ok (.iinc 2 1, 3) := by decide +kernel
theorem dX5_sumOfLowerings_27 : decode cX5_sumOfLowerings 27 = .ok (.goto (-23), 3) := by decide +kernel
theorem dX5_sumOfLowerings_30 : decode cX5_sumOfLowerings 30 = .ok (.iload_n 1, 1) := by decide +kernel
theorem dX5_sumOfLowerings_31 : decode cX5_sumOfLowerings 31 = .ok (.ireturn, 1) := by decide +kernel
theorem dX5_figuresOfLowerings_0 : decode cX5_figuresOfLowerings 0 = .ok (.iconst 0, 1) := by decide +kernel
theorem dX5_figuresOfLowerings_1 : decode cX5_figuresOfLowerings 1 = .ok (.istore_n 1, 1) := by decide +kernel
theorem dX5_figuresOfLowerings_2 : decode cX5_figuresOfLowerings 2 = .ok (.iconst 0, 1) := by decide +kernel
theorem dX5_figuresOfLowerings_3 : decode cX5_figuresOfLowerings 3 = .ok (.istore_n 2, 1) := by decide +kernel
theorem dX5_figuresOfLowerings_4 : decode cX5_figuresOfLowerings 4 = .ok (.iload_n 2, 1) := by decide +kernel
theorem dX5_figuresOfLowerings_5 : decode cX5_figuresOfLowerings 5 = .ok (.aload_n 0, 1) := by decide +kernel
theorem dX5_figuresOfLowerings_6 : decode cX5_figuresOfLowerings 6 = .ok (.getfield 38, 3) := by decide +kernel
theorem dX5_figuresOfLowerings_9 : decode cX5_figuresOfLowerings 9 = .ok (.getfield 93, 3) := by decide +kernel
theorem dX5_figuresOfLowerings_12 : decode cX5_figuresOfLowerings 12 = .ok (.if_icmp .ge 21, 3) := by decide +kernel
theorem dX5_figuresOfLowerings_15 : decode cX5_figuresOfLowerings 15 = .ok (.bipush 10, 2) := by decide +kernel
theorem dX5_figuresOfLowerings_17 : decode cX5_figuresOfLowerings 17 = .ok (.iload_n 1, 1) := by decide +kernel
theorem dX5_figuresOfLowerings_18 : decode cX5_figuresOfLowerings 18 = .ok (.imul, 1) := by decide +kernel
theorem dX5_figuresOfLowerings_19 : decode cX5_figuresOfLowerings 19 = .ok (.aload_n 0, 1) := by decide +kernel
theorem dX5_figuresOfLowerings_20 : decode cX5_figuresOfLowerings 20 = .ok (.getfield 26, 3) := by decide +kernel
theorem dX5_figuresOfLowerings_23 : decode cX5_figuresOfLowerings 23 = .ok (.iload_n 2, 1) := by decide +kernel
theorem dX5_figuresOfLowerings_24 : decode cX5_figuresOfLowerings 24 = .ok (.iaload, 1) := by decide +kernel
theorem dX5_figuresOfLowerings_25 : decode cX5_figuresOfLowerings 25 = .ok (.iadd, 1) := by decide +kernel
theorem dX5_figuresOfLowerings_26 : decode cX5_figuresOfLowerings 26 = .ok (.istore_n 1, 1) := by decide +kernel
theorem dX5_figuresOfLowerings_27 : decode cX5_figuresOfLowerings 27 = .ok (.iinc 2 1, 3) := by decide +kernel
theorem dX5_figuresOfLowerings_30 : decode cX5_figuresOfLowerings 30 = .ok (.goto (-26), 3) := by decide +kernel
theorem dX5_figuresOfLowerings_33 : decode cX5_figuresOfLowerings 33 = .ok (.iload_n 1, 1) := by decide +kernel
theorem dX5_figuresOfLowerings_34 : decode cX5_figuresOfLowerings 34 = .ok (.ireturn, 1) := by decide +kernel
set_option maxRecDepth 20000 in
theorem ggX5_fillFewestLowerings_X5_isKeptFrom : GoodIn wsX5_fillFewestLowerings wsX5_isKeptFrom := goodIn_r _ [14, 15, 4, 1, 2, 5, 3, 16, 17, 18, 19, 20, 21, 22, 23, 24, 25, 26, 27, 28, 29, 30, 31, 32, 33, 34, 35, 36, 37, 38, 39, 40, 41, 42, 43, 44, 45, 46, 47, 7, 8, 9, 48, 49, 50, 51, 52, 53, 54, 55, 56, 57, 58, 59, 60, 61, 62, 63, 64, 65, 66, 67, 68, 69, 70, 71, 72, 73, 74, 75, 76, 77, 78, 79, 80, 81, 82, 83, 84, 85, 86, 87, 88, 89, 90, 91, 92, 93, 94, 95, 96, 97, 98, 99, 100, 101, 102, 103, 104, 105, 106, 107, 108, 109, 110, 111, 112, 113, 114, 115, 116, 117, 118, 119, 120, 121, 122, 123, 124, 125, 126] (by decide +kernel) (by decide +kernel)
set_option maxRecDepth 20000 in
theorem gX5_fillFewestLowerings_X5_isKeptFrom : GoodIn wsX5_fillFewestLowerings (wsV RX5 287 RX5 yX5_isKeptFrom wsX5_isKeptFrom) := goodIn_app (goodIn_of _ (by decide +kernel)) ggX5_fillFewestLowerings_X5_isKeptFrom
theorem dX5_fillFewestLowerings_0 : decode cX5_fillFewestLowerings 0 = .ok (.iconst 0, 1) := by decide +kernel
theorem dX5_fillFewestLowerings_1 : decode cX5_fillFewestLowerings 1 = .ok (.istore 4, 2) := by decide +kernel
theorem dX5_fillFewestLowerings_3 : decode cX5_fillFewestLowerings 3 = .ok (.iload 4, 2) := by decide +kernel
theorem dX5_fillFewestLowerings_5 : decode cX5_fillFewestLowerings 5 = .ok (.aload_n 0, 1) := by decide +kernel
theorem dX5_fillFewestLowerings_6 : decode cX5_fillFewestLowerings 6 = .ok (.getfield 38, 3) := by decide +kernel
theorem dX5_fillFewestLowerings_9 : decode cX5_fillFewestLowerings 9 = .ok (.getfield 93, 3) := by decide +kernel
theorem dX5_fillFewestLowerings_12 : decode cX5_fillFewestLowerings 12 = .ok (.if_icmp .ge 33, 3) := by decide +kernel
theorem dX5_fillFewestLowerings_15 : decode cX5_fillFewestLowerings 15 = .ok (.aload_n 0, 1) := by decide +kernel
theorem dX5_fillFewestLowerings_16 : decode cX5_fillFewestLowerings 16 = .ok (.getfield 26, 3) := by decide +kernel
theorem dX5_fillFewestLowerings_19 : decode cX5_fillFewestLowerings 19 = .ok (.iload 4, 2) := by decide +kernel
theorem dX5_fillFewestLowerings_21 : decode cX5_fillFewestLowerings 21 = .ok (.iconst 3, 1) := by decide +kernel
theorem dX5_fillFewestLowerings_22 : decode cX5_fillFewestLowerings 22 = .ok (.aload_n 0, 1) := by decide +kernel
theorem dX5_fillFewestLowerings_23 : decode cX5_fillFewestLowerings 23 = .ok (.getfield 52, 3) := by decide +kernel
theorem dX5_fillFewestLowerings_26 : decode cX5_fillFewestLowerings 26 = .ok (.getfield 109, 3) := by decide +kernel
theorem dX5_fillFewestLowerings_29 : decode cX5_fillFewestLowerings 29 = .ok (.iload 4, 2) := by decide +kernel
theorem dX5_fillFewestLowerings_31 : decode cX5_fillFewestLowerings 31 = .ok (.iaload, 1) := by decide +kernel
theorem dX5_fillFewestLowerings_32 : decode cX5_fillFewestLowerings 32 = .ok (.bipush (-3), 2) := by decide +kernel
theorem dX5_fillFewestLowerings_34 : decode cX5_fillFewestLowerings 34 = .ok (.isub, 1) := by decide +kernel
theorem dX5_fillFewestLowerings_35 : decode cX5_fillFewestLowerings 35 = .ok (.invokestatic 282, 3) := by decide +kernel
theorem dX5_fillFewestLowerings_38 : decode cX5_fillFewestLowerings 38 = .ok (.iastore, 1) := by decide +kernel
theorem dX5_fillFewestLowerings_39 : decode cX5_fillFewestLowerings 39 = .ok (.iinc 4 1, 3) := by decide +kernel
theorem dX5_fillFewestLowerings_42 : decode cX5_fillFewestLowerings 42 = .ok (.goto (-39), 3) := by decide +kernel
theorem dX5_fillFewestLowerings_45 : decode cX5_fillFewestLowerings 45 = .ok (.aload_n 0, 1) := by decide +kernel
theorem dX5_fillFewestLowerings_46 : decode cX5_fillFewestLowerings 46 = .ok (.iload_n 1, 1) := by decide +kernel
theorem dX5_fillFewestLowerings_47 : decode cX5_fillFewestLowerings 47 = .ok (.iload_n 2, 1) := by decide +kernel
theorem dX5_fillFewestLowerings_48 : decode cX5_fillFewestLowerings 48 = .ok (.iload_n 3, 1) := by decide +kernel
theorem dX5_fillFewestLowerings_49 : decode cX5_fillFewestLowerings 49 = .ok (.invokevirtual 287, 3) := by decide +kernel
theorem dX5_fillFewestLowerings_52 : decode cX5_fillFewestLowerings 52 = .ok (.ifCond .ne 5, 3) := by decide +kernel
theorem dX5_fillFewestLowerings_55 : decode cX5_fillFewestLowerings 55 = .ok (.iconst 0, 1) := by decide +kernel
theorem dX5_fillFewestLowerings_56 : decode cX5_fillFewestLowerings 56 = .ok (.ireturn, 1) := by decide +kernel
theorem dX5_fillFewestLowerings_57 : decode cX5_fillFewestLowerings 57 = .ok (.iconst 0, 1) := by decide +kernel
theorem dX5_fillFewestLowerings_58 : decode cX5_fillFewestLowerings 58 = .ok (.istore 4, 2) := by decide +kernel
theorem dX5_fillFewestLowerings_60 : decode cX5_fillFewestLowerings 60 = .ok (.iload 4, 2) := by decide +kernel
theorem dX5_fillFewestLowerings_62 : decode cX5_fillFewestLowerings 62 = .ok (.aload_n 0, 1) := by decide +kernel
theorem dX5_fillFewestLowerings_63 : decode cX5_fillFewestLowerings 63 = .ok (.getfield 38, 3) := by decide +kernel
theorem dX5_fillFewestLowerings_66 : decode cX5_fillFewestLowerings 66 = .ok (.getfield 93, 3) := by decide +kernel
theorem dX5_fillFewestLowerings_69 : decode cX5_fillFewestLowerings 69 = .ok (.if_icmp .ge 60, 3) := by decide +kernel
theorem dX5_fillFewestLowerings_72 : decode cX5_fillFewestLowerings 72 = .ok (.aload_n 0, 1) := by decide +kernel
theorem dX5_fillFewestLowerings_73 : decode cX5_fillFewestLowerings 73 = .ok (.getfield 26, 3) := by decide +kernel
theorem dX5_fillFewestLowerings_76 : decode cX5_fillFewestLowerings 76 = .ok (.iload 4, 2) := by decide +kernel
theorem dX5_fillFewestLowerings_78 : decode cX5_fillFewestLowerings 78 = .ok (.iaload, 1) := by decide +kernel
theorem dX5_fillFewestLowerings_79 : decode cX5_fillFewestLowerings 79 = .ok (.istore 5, 2) := by decide +kernel
theorem dX5_fillFewestLowerings_81 : decode cX5_fillFewestLowerings 81 = .ok (.iconst 0, 1) := by decide +kernel
theorem dX5_fillFewestLowerings_82 : decode cX5_fillFewestLowerings 82 = .ok (.istore 6, 2) := by decide +kernel
theorem dX5_fillFewestLowerings_84 : decode cX5_fillFewestLowerings 84 = .ok (.iconst 0, 1) := by decide +kernel
theorem dX5_fillFewestLowerings_85 : decode cX5_fillFewestLowerings 85 = .ok (.istore 7, 2) := by decide +kernel
theorem dX5_fillFewestLowerings_87 : decode cX5_fillFewestLowerings 87 = .ok (.iload 7, 2) := by decide +kernel
theorem dX5_fillFewestLowerings_89 : decode cX5_fillFewestLowerings 89 = .ok (.iload 5, 2) := by decide +kernel
theorem dX5_fillFewestLowerings_91 : decode cX5_fillFewestLowerings 91 = .ok (.if_icmp .gt 32, 3) := by decide +kernel
theorem dX5_fillFewestLowerings_94 : decode cX5_fillFewestLowerings 94 = .ok (.iload 6, 2) := by decide +kernel
theorem dX5_fillFewestLowerings_96 : decode cX5_fillFewestLowerings 96 = .ok (.ifCond .ne 27, 3) := by decide +kernel
theorem dX5_fillFewestLowerings_99 : decode cX5_fillFewestLowerings 99 = .ok (.aload_n 0, 1) := by decide +kernel
theorem dX5_fillFewestLowerings_100 : decode cX5_fillFewestLowerings 100 = .ok (.getfield 26, 3) := by decide +kernel
theorem dX5_fillFewestLowerings_103 : decode cX5_fillFewestLowerings 103 = .ok (.iload 4, 2) := by decide +kernel
theorem dX5_fillFewestLowerings_105 : decode cX5_fillFewestLowerings 105 = .ok (.iload 7, 2) := by decide +kernel
theorem dX5_fillFewestLowerings_107 : decode cX5_fillFewestLowerings 107 = .ok (.iastore, 1) := by decide +kernel
theorem dX5_fillFewestLowerings_108 : decode cX5_fillFewestLowerings 108 = .ok (.aload_n 0, 1) := by decide +kernel
theorem dX5_fillFewestLowerings_109 : decode cX5_fillFewestLowerings 109 = .ok (.iload_n 1, 1) := by decide +kernel
theorem dX5_fillFewestLowerings_110 : decode cX5_fillFewestLowerings 110 = .ok (.iload_n 2, 1) := by decide +kernel
theorem dX5_fillFewestLowerings_111 : decode cX5_fillFewestLowerings 111 = .ok (.iload_n 3, 1) := by decide +kernel
theorem dX5_fillFewestLowerings_112 : decode cX5_fillFewestLowerings 112 = .ok (.invokevirtual 287, 3) := by decide +kernel
theorem dX5_fillFewestLowerings_115 : decode cX5_fillFewestLowerings 115 = .ok (.istore 6, 2) := by decide +kernel
theorem dX5_fillFewestLowerings_117 : decode cX5_fillFewestLowerings 117 = .ok (.iinc 7 1, 3) := by decide +kernel
theorem dX5_fillFewestLowerings_120 : decode cX5_fillFewestLowerings 120 = .ok (.goto (-33), 3) := by decide +kernel
theorem dX5_fillFewestLowerings_123 : decode cX5_fillFewestLowerings 123 = .ok (.iinc 4 1, 3) := by decide +kernel
theorem dX5_fillFewestLowerings_126 : decode cX5_fillFewestLowerings 126 = .ok (.goto (-66), 3) := by decide +kernel
theorem dX5_fillFewestLowerings_129 : decode cX5_fillFewestLowerings 129 = .ok (.iconst 1, 1) := by decide +kernel
theorem dX5_fillFewestLowerings_130 : decode cX5_fillFewestLowerings 130 = .ok (.ireturn, 1) := by decide +kernel
set_option maxRecDepth 20000 in
theorem ggX5_isKeptFrom_X4_take : GoodIn wsX5_isKeptFrom wsX4_take := goodIn_r _ [11, 12, 13, 14, 15, 16, 17, 18, 19, 20, 115, 116, 117, 118, 119, 120] (by decide +kernel) (by decide +kernel)
set_option maxRecDepth 20000 in
theorem gX5_isKeptFrom_X4_take : GoodIn wsX5_isKeptFrom (wsV RX5 173 RX4 yX4_take wsX4_take) := goodIn_app (goodIn_of _ (by decide +kernel)) ggX5_isKeptFrom_X4_take
set_option maxRecDepth 20000 in
theorem ggX5_isKeptFrom_X4_passHours : GoodIn wsX5_isKeptFrom wsX4_passHours := goodIn_r _ [24, 25, 20, 26, 27, 28, 29, 30, 31, 32, 33, 34, 35, 10, 36, 37, 19, 38, 39, 40, 41, 42, 43, 44, 45, 46, 47, 48, 49, 50, 51, 52, 53, 54, 55, 56, 18, 57, 58, 59, 12, 60, 61, 62, 63, 64, 65, 66, 67, 68, 69, 70, 17, 71, 72, 73, 74, 75, 76, 77, 78, 79, 80, 81, 82, 83, 84, 85, 86, 115, 116, 117, 118, 119, 120, 106, 107, 108, 109, 110, 111, 112, 113, 114] (by decide +kernel) (by decide +kernel)
set_option maxRecDepth 20000 in
theorem gX5_isKeptFrom_X4_passHours : GoodIn wsX5_isKeptFrom (wsV RX5 175 RX4 yX4_passHours wsX4_passHours) := goodIn_app (goodIn_of _ (by decide +kernel)) ggX5_isKeptFrom_X4_passHours
set_option maxRecDepth 20000 in
theorem ggX5_isKeptFrom_X4_knowsThing : GoodIn wsX5_isKeptFrom wsX4_knowsThing := goodIn_r _ [90, 17, 115, 116, 117, 118, 119, 120] (by decide +kernel) (by decide +kernel)
set_option maxRecDepth 20000 in
theorem gX5_isKeptFrom_X4_knowsThing : GoodIn wsX5_isKeptFrom (wsV RX5 182 RX4 yX4_knowsThing wsX4_knowsThing) := goodIn_app (goodIn_of _ (by decide +kernel)) ggX5_isKeptFrom_X4_knowsThing
theorem dX5_isKeptFrom_0 : decode cX5_isKeptFrom 0 = .ok (.aload_n 0, 1) := by decide +kernel
theorem dX5_isKeptFrom_1 : decode cX5_isKeptFrom 1 = .ok (.getfield 56, 3) := by decide +kernel
theorem dX5_isKeptFrom_4 : decode cX5_isKeptFrom 4 = .ok (.aload_n 0, 1) := by decide +kernel
theorem dX5_isKeptFrom_5 : decode cX5_isKeptFrom 5 = .ok (.getfield 52, 3) := by decide +kernel
theorem dX5_isKeptFrom_8 : decode cX5_isKeptFrom 8 = .ok (.invokevirtual 173, 3) := by decide +kernel
theorem dX5_isKeptFrom_11 : decode cX5_isKeptFrom 11 = .ok (.iconst 0, 1) := by decide +kernel
theorem dX5_isKeptFrom_12 : decode cX5_isKeptFrom 12 = .ok (.istore 4, 2) := by decide +kernel
theorem dX5_isKeptFrom_14 : decode cX5_isKeptFrom 14 = .ok (.iload 4, 2) := by decide +kernel
theorem dX5_isKeptFrom_16 : decode cX5_isKeptFrom 16 = .ok (.aload_n 0, 1) := by decide +kernel
theorem dX5_isKeptFrom_17 : decode cX5_isKeptFrom 17 = .ok (.getfield 38, 3) := by decide +kernel
theorem dX5_isKeptFrom_20 : decode cX5_isKeptFrom 20 = .ok (.getfield 93, 3) := by decide +kernel
theorem dX5_isKeptFrom_23 : decode cX5_isKeptFrom 23 = .ok (.if_icmp .ge 29, 3) := by decide +kernel
theorem dX5_isKeptFrom_26 : decode cX5_isKeptFrom 26 = .ok (.aload_n 0, 1) := by decide +kernel
theorem dX5_isKeptFrom_27 : decode cX5_isKeptFrom 27 = .ok (.getfield 56, 3) := by decide +kernel
theorem dX5_isKeptFrom_30 : decode cX5_isKeptFrom 30 = .ok (.getfield 109, 3) := by decide +kernel
theorem dX5_isKeptFrom_33 : decode cX5_isKeptFrom 33 = .ok (.iload 4, 2) := by decide +kernel
theorem dX5_isKeptFrom_35 : decode cX5_isKeptFrom 35 = .ok (.dup2, 1) := by decide +kernel
theorem dX5_isKeptFrom_36 : decode cX5_isKeptFrom 36 = .ok (.iaload, 1) := by decide +kernel
theorem dX5_isKeptFrom_37 : decode cX5_isKeptFrom 37 = .ok (.aload_n 0, 1) := by decide +kernel
theorem dX5_isKeptFrom_38 : decode cX5_isKeptFrom 38 = .ok (.getfield 26, 3) := by decide +kernel
theorem dX5_isKeptFrom_41 : decode cX5_isKeptFrom 41 = .ok (.iload 4, 2) := by decide +kernel
theorem dX5_isKeptFrom_43 : decode cX5_isKeptFrom 43 = .ok (.iaload, 1) := by decide +kernel
theorem dX5_isKeptFrom_44 : decode cX5_isKeptFrom 44 = .ok (.isub, 1) := by decide +kernel
theorem dX5_isKeptFrom_45 : decode cX5_isKeptFrom 45 = .ok (.iastore, 1) := by decide +kernel
theorem dX5_isKeptFrom_46 : decode cX5_isKeptFrom 46 = .ok (.iinc 4 1, 3) := by decide +kernel
theorem dX5_isKeptFrom_49 : decode cX5_isKeptFrom 49 = .ok (.goto (-35), 3) := by decide +kernel
theorem dX5_isKeptFrom_52 : decode cX5_isKeptFrom 52 = .ok (.aload_n 0, 1) := by decide +kernel
theorem dX5_isKeptFrom_53 : decode cX5_isKeptFrom 53 = .ok (.getfield 56, 3) := by decide +kernel
theorem dX5_isKeptFrom_56 : decode cX5_isKeptFrom 56 = .ok (.iload_n 3, 1) := by decide +kernel
theorem dX5_isKeptFrom_57 : decode cX5_isKeptFrom 57 = .ok (.invokevirtual 175, 3) := by decide +kernel
theorem dX5_isKeptFrom_60 : decode cX5_isKeptFrom 60 = .ok (.aload_n 0, 1) := by decide +kernel
theorem dX5_isKeptFrom_61 : decode cX5_isKeptFrom 61 = .ok (.getfield 56, 3) := by decide +kernel
theorem dX5_isKeptFrom_64 : decode cX5_isKeptFrom 64 = .ok (.iload_n 1, 1) := by decide +kernel
theorem dX5_isKeptFrom_65 : decode cX5_isKeptFrom 65 = .ok (.iload_n 2, 1) := by decide +kernel
theorem dX5_isKeptFrom_66 : decode cX5_isKeptFrom 66 = .ok (.invokevirtual 182, 3) := by decide +kernel
theorem dX5_isKeptFrom_69 : decode cX5_isKeptFrom 69 = .ok (.ifCond .ne 7, 3) := by decide +kernel
theorem dX5_isKeptFrom_72 : decode cX5_isKeptFrom 72 = .ok (.iconst 1, 1) := by decide +kernel
theorem dX5_isKeptFrom_73 : decode cX5_isKeptFrom 73 = .ok (.goto 4, 3) := by decide +kernel
theorem dX5_isKeptFrom_76 : decode cX5_isKeptFrom 76 = .ok (.iconst 0, 1) := by decide +kernel
theorem dX5_isKeptFrom_77 : decode cX5_isKeptFrom 77 = .ok (.ireturn, 1) := by decide +kernel
theorem dX5_fillDoings_0 : decode cX5_fillDoings 0 = .ok (.lload_n 2, 1) := by decide +kernel
theorem dX5_fillDoings_1 : decode cX5_fillDoings 1 = .ok (.lstore 4, 2) := by decide +kernel
theorem dX5_fillDoings_3 : decode cX5_fillDoings 3 = .ok (.iconst 3, 1) := by decide +kernel
theorem dX5_fillDoings_4 : decode cX5_fillDoings 4 = .ok (.iload_n 1, 1) := by decide +kernel
theorem dX5_fillDoings_5 : decode cX5_fillDoings 5 = .ok (.imul, 1) := by decide +kernel
theorem dX5_fillDoings_6 : decode cX5_fillDoings 6 = .ok (.iconst 1, 1) := by decide +kernel
theorem dX5_fillDoings_7 : decode cX5_fillDoings 7 = .ok (.isub, 1) := by decide +kernel
theorem dX5_fillDoings_8 : decode cX5_fillDoings 8 = .ok (.istore 6, 2) := by decide +kernel
theorem dX5_fillDoings_10 : decode cX5_fillDoings 10 = .ok (.iload 6, 2) := by decide +kernel
theorem dX5_fillDoings_12 : decode cX5_fillDoings 12 = .ok (.ifCond .lt 31, 3) := by decide +kernel
theorem dX5_fillDoings_15 : decode cX5_fillDoings 15 = .ok (.aload_n 0, 1) := by decide +kernel
theorem dX5_fillDoings_16 : decode cX5_fillDoings 16 = .ok (.getfield 23, 3) := by decide +kernel
theorem dX5_fillDoings_19 : decode cX5_fillDoings 19 = .ok (.iload 6, 2) := by decide +kernel
theorem dX5_fillDoings_21 : decode cX5_fillDoings 21 = .ok (.lload 4, 2) := by decide +kernel
theorem dX5_fillDoings_23 : decode cX5_fillDoings 23 = .ok (.ldc2_w 290, 3) := by decide +kernel
theorem dX5_fillDoings_26 : decode cX5_fillDoings 26 = .ok (.lrem, 1) := by decide +kernel
theorem dX5_fillDoings_27 : decode cX5_fillDoings 27 = .ok (.l2i, 1) := by decide +kernel
theorem dX5_fillDoings_28 : decode cX5_fillDoings 28 = .ok (.iastore, 1) := by decide +kernel
theorem dX5_fillDoings_29 : decode cX5_fillDoings 29 = .ok (.lload 4, 2) := by decide +kernel
theorem dX5_fillDoings_31 : decode cX5_fillDoings 31 = .ok (.ldc2_w 290, 3) := by decide +kernel
theorem dX5_fillDoings_34 : decode cX5_fillDoings 34 = .ok (.ldiv, 1) := by decide +kernel
theorem dX5_fillDoings_35 : decode cX5_fillDoings 35 = .ok (.lstore 4, 2) := by decide +kernel
theorem dX5_fillDoings_37 : decode cX5_fillDoings 37 = .ok (.iinc 6 (-1), 3) := by decide +kernel
theorem dX5_fillDoings_40 : decode cX5_fillDoings 40 = .ok (.goto (-30), 3) := by decide +kernel
theorem dX5_fillDoings_43 : decode cX5_fillDoings 43 = .ok (.lload 4, 2) := by decide +kernel
theorem dX5_fillDoings_45 : decode cX5_fillDoings 45 = .ok (.lconst 0, 1) := by decide +kernel
theorem dX5_fillDoings_46 : decode cX5_fillDoings 46 = .ok (.lcmp, 1) := by decide +kernel
theorem dX5_fillDoings_47 : decode cX5_fillDoings 47 = .ok (.ifCond .ne 7, 3) := by decide +kernel
theorem dX5_fillDoings_50 : decode cX5_fillDoings 50 = .ok (.iconst 1, 1) := by decide +kernel
theorem dX5_fillDoings_51 : decode cX5_fillDoings 51 = .ok (.goto 4, 3) := by decide +kernel
theorem dX5_fillDoings_54 : decode cX5_fillDoings 54 = .ok (.iconst 0, 1) := by decide +kernel
theorem dX5_fillDoings_55 : decode cX5_fillDoings 55 = .ok (.ireturn, 1) := by decide +kernel
set_option maxRecDepth 20000 in
theorem ggX5_comesAbout_X4_passHour : GoodIn wsX5_comesAbout wsX4_passHour := goodIn_r _ [8, 9, 10, 11, 12, 13, 14, 15, 16, 17, 18, 19, 20, 7, 21, 22, 23, 24, 25, 26, 27, 28, 29, 30, 31, 32, 33, 34, 35, 36, 37, 38, 39, 40, 41, 42, 43, 44, 45, 46, 47, 48, 49, 50, 51, 52, 53, 54, 55, 56, 57, 58, 59, 60, 61, 62, 63, 64, 65, 66, 67, 68, 69, 70, 71, 72, 73, 74, 75, 132, 133, 134, 135, 136, 137, 138, 139, 140, 141, 142, 143, 144, 145, 146] (by decide +kernel) (by decide +kernel)
set_option maxRecDepth 20000 in
theorem gX5_comesAbout_X4_passHour : GoodIn wsX5_comesAbout (wsV RX5 142 RX4 yX4_passHour wsX4_passHour) := goodIn_app (goodIn_of _ (by decide +kernel)) ggX5_comesAbout_X4_passHour
set_option maxRecDepth 20000 in
theorem ggX5_comesAbout_X4_tryLowered : GoodIn wsX5_comesAbout wsX4_tryLowered := goodIn_r _ [79, 43, 80, 81, 82, 7, 83, 9, 84, 85, 86, 14, 87, 64, 132, 133, 134, 135, 136, 137, 138, 139, 140, 141, 142, 143, 144, 145, 146] (by decide +kernel) (by decide +kernel)
set_option maxRecDepth 20000 in
theorem gX5_comesAbout_X4_tryLowered : GoodIn wsX5_comesAbout (wsV RX5 148 RX4 yX4_tryLowered wsX4_tryLowered) := goodIn_app (goodIn_of _ (by decide +kernel)) ggX5_comesAbout_X4_tryLowered
set_option maxRecDepth 20000 in
theorem ggX5_comesAbout_X4_tryRaised : GoodIn wsX5_comesAbout wsX4_tryRaised := goodIn_r _ [91, 43, 92, 93, 94, 7, 95, 9, 84, 85, 86, 14, 87, 64, 132, 133, 134, 135, 136, 137, 138, 139, 140, 141, 142, 143, 144, 145, 146] (by decide +kernel) (by decide +kernel)
set_option maxRecDepth 20000 in
theorem gX5_comesAbout_X4_tryRaised : GoodIn wsX5_comesAbout (wsV RX5 154 RX4 yX4_tryRaised wsX4_tryRaised) := goodIn_app (goodIn_of _ (by decide +kernel)) ggX5_comesAbout_X4_tryRaised
set_option maxRecDepth 20000 in
theorem ggX5_comesAbout_X4_tryChanged : GoodIn wsX5_comesAbout wsX4_tryChanged := goodIn_r _ [99, 9, 47, 59, 84, 85, 86, 14, 87, 64, 132, 133, 134, 135, 136, 137, 138, 139, 140, 141, 142, 143, 144, 145, 146] (by decide +kernel) (by decide +kernel)
set_option maxRecDepth 20000 in
theorem gX5_comesAbout_X4_tryChanged : GoodIn wsX5_comesAbout (wsV RX5 157 RX4 yX4_tryChanged wsX4_tryChanged) := goodIn_app (goodIn_of _ (by decide +kernel)) ggX5_comesAbout_X4_tryChanged
set_option maxRecDepth 20000 in
theorem ggX5_comesAbout_X4_tryPlate : GoodIn wsX5_comesAbout wsX4_tryPlate := goodIn_r _ [103, 9, 59, 104, 105, 106, 14, 107, 64, 132, 133, 134, 135, 136, 137, 138, 139, 140, 141, 142, 143, 144, 145, 146] (by decide +kernel) (by decide +kernel)
set_option maxRecDepth 20000 in
theorem gX5_comesAbout_X4_tryPlate : GoodIn wsX5_comesAbout (wsV RX5 164 RX4 yX4_tryPlate wsX4_tryPlate) := goodIn_app (goodIn_of _ (by decide +kernel)) ggX5_comesAbout_X4_tryPlate
set_option maxRecDepth 20000 in
theorem ggX5_comesAbout_X2_hasHouse : GoodIn wsX5_comesAbout wsX2_hasHouse := goodIn_r _ [87, 64, 138, 139, 140, 141, 142, 143, 144, 145, 146] (by decide +kernel) (by decide +kernel)
set_option maxRecDepth 20000 in
theorem gX5_comesAbout_X2_hasHouse : GoodIn wsX5_comesAbout (wsV RX5 102 RX2 yX2_hasHouse wsX2_hasHouse) := goodIn_app (goodIn_of _ (by decide +kernel)) ggX5_comesAbout_X2_hasHouse
set_option maxRecDepth 20000 in
theorem ggX5_comesAbout_X5_isThing : GoodIn wsX5_comesAbout wsX5_isThing := goodIn_r _ [112] (by decide +kernel) (by decide +kernel)
set_option maxRecDepth 20000 in
theorem gX5_comesAbout_X5_isThing : GoodIn wsX5_comesAbout (va_wsS RX5 179 yX5_isThing wsX5_isThing) := goodIn_app (goodIn_of _ (by decide +kernel)) ggX5_comesAbout_X5_isThing
set_option maxRecDepth 20000 in
theorem ggX5_comesAbout_X4_knowsThing : GoodIn wsX5_comesAbout wsX4_knowsThing := goodIn_r _ [116, 59, 132, 133, 134, 135, 136, 137] (by decide +kernel) (by decide +kernel)
set_option maxRecDepth 20000 in
theorem gX5_comesAbout_X4_knowsThing : GoodIn wsX5_comesAbout (wsV RX5 182 RX4 yX4_knowsThing wsX4_knowsThing) := goodIn_app (goodIn_of _ (by decide +kernel)) ggX5_comesAbout_X4_knowsThing
theorem dX5_comesAbout_0 : decode cX5_comesAbout 0 = .ok (.iload_n 1, 1) := by decide +kernel
theorem dX5_comesAbout_1 : decode cX5_comesAbout 1 = .ok (.tableswitch 193 0 6 #[43, 63, 84, 105, 115, 136, 172], 43) := by decide +kernel
theorem dX5_comesAbout_44 : decode cX5_comesAbout 44 = .ok (.iload_n 2, 1) := by decide +kernel
theorem dX5_comesAbout_45 : decode cX5_comesAbout 45 = .ok (.ifCond .ne 7, 3) := by decide +kernel
theorem dX5_comesAbout_48 : decode cX5_comesAbout 48 = .ok (.iload_n 3, 1) := by decide +kernel
theorem dX5_comesAbout_49 : decode cX5_comesAbout 49 = .ok (.ifCond .eq 5, 3) := by decide +kernel
theorem dX5_comesAbout_52 : decode cX5_comesAbout 52 = .ok (.iconst 0, 1) := by decide +kernel
theorem dX5_comesAbout_53 : decode cX5_comesAbout 53 = .ok (.ireturn, 1) := by decide +kernel
theorem dX5_comesAbout_54 : decode cX5_comesAbout 54 = .ok (.aload_n 0, 1) := by decide +kernel
theorem dX5_comesAbout_55 : decode cX5_comesAbout 55 = .ok (.getfield 56, 3) := by decide +kernel
theorem dX5_comesAbout_58 : decode cX5_comesAbout 58 = .ok (.invokevirtual 142, 3) := by decide +kernel
theorem dX5_comesAbout_61 : decode cX5_comesAbout 61 = .ok (.pop, 1) := by decide +kernel
theorem dX5_comesAbout_62 : decode cX5_comesAbout 62 = .ok (.iconst 1, 1) := by decide +kernel
theorem dX5_comesAbout_63 : decode cX5_comesAbout 63 = .ok (.ireturn, 1) := by decide +kernel
theorem dX5_comesAbout_64 : decode cX5_comesAbout 64 = .ok (.iload_n 2, 1) := by decide +kernel
theorem dX5_comesAbout_65 : decode cX5_comesAbout 65 = .ok (.ifCond .ne 18, 3) := by decide +kernel
theorem dX5_comesAbout_68 : decode cX5_comesAbout 68 = .ok (.aload_n 0, 1) := by decide +kernel
theorem dX5_comesAbout_69 : decode cX5_comesAbout 69 = .ok (.getfield 56, 3) := by decide +kernel
theorem dX5_comesAbout_72 : decode cX5_comesAbout 72 = .ok (.iload_n 3, 1) := by decide +kernel
theorem dX5_comesAbout_73 : decode cX5_comesAbout 73 = .ok (.invokevirtual 148, 3) := by decide +kernel
theorem dX5_comesAbout_76 : decode cX5_comesAbout 76 = .ok (.ifCond .eq 7, 3) := by decide +kernel
theorem dX5_comesAbout_79 : decode cX5_comesAbout 79 = .ok (.iconst 1, 1) := by decide +kernel
theorem dX5_comesAbout_80 : decode cX5_comesAbout 80 = .ok (.goto 4, 3) := by decide +kernel
theorem dX5_comesAbout_83 : decode cX5_comesAbout 83 = .ok (.iconst 0, 1) := by decide +kernel
theorem dX5_comesAbout_84 : decode cX5_comesAbout 84 = .ok (.ireturn, 1) := by decide +kernel
theorem dX5_comesAbout_85 : decode cX5_comesAbout 85 = .ok (.iload_n 2, 1) := by decide +kernel
theorem dX5_comesAbout_86 : decode cX5_comesAbout 86 = .ok (.ifCond .ne 18, 3) := by decide +kernel
theorem dX5_comesAbout_89 : decode cX5_comesAbout 89 = .ok (.aload_n 0, 1) := by decide +kernel
theorem dX5_comesAbout_90 : decode cX5_comesAbout 90 = .ok (.getfield 56, 3) := by decide +kernel
theorem dX5_comesAbout_93 : decode cX5_comesAbout 93 = .ok (.iload_n 3, 1) := by decide +kernel
theorem dX5_comesAbout_94 : decode cX5_comesAbout 94 = .ok (.invokevirtual 154, 3) := by decide +kernel
theorem dX5_comesAbout_97 : decode cX5_comesAbout 97 = .ok (.ifCond .eq 7, 3) := by decide +kernel
theorem dX5_comesAbout_100 : decode cX5_comesAbout 100 = .ok (.iconst 1, 1) := by decide +kernel
theorem dX5_comesAbout_101 : decode cX5_comesAbout 101 = .ok (.goto 4, 3) := by decide +kernel
theorem dX5_comesAbout_104 : decode cX5_comesAbout 104 = .ok (.iconst 0, 1) := by decide +kernel
theorem dX5_comesAbout_105 : decode cX5_comesAbout 105 = .ok (.ireturn, 1) := by decide +kernel
theorem dX5_comesAbout_106 : decode cX5_comesAbout 106 = .ok (.aload_n 0, 1) := by decide +kernel
theorem dX5_comesAbout_107 : decode cX5_comesAbout 107 = .ok (.getfield 56, 3) := by decide +kernel
theorem dX5_comesAbout_110 : decode cX5_comesAbout 110 = .ok (.iload_n 2, 1) := by decide +kernel
theorem dX5_comesAbout_111 : decode cX5_comesAbout 111 = .ok (.iload_n 3, 1) := by decide +kernel
theorem dX5_comesAbout_112 : decode cX5_comesAbout 112 = .ok (.invokevirtual 157, 3) := by decide +kernel
theorem dX5_comesAbout_115 : decode cX5_comesAbout 115 = .ok (.ireturn, 1) := by decide +kernel
theorem dX5_comesAbout_116 : decode cX5_comesAbout 116 = .ok (.iload_n 2, 1) := by decide +kernel
theorem dX5_comesAbout_117 : decode cX5_comesAbout 117 = .ok (.ifCond .ne 18, 3) := by decide +kernel
theorem dX5_comesAbout_120 : decode cX5_comesAbout 120 = .ok (.aload_n 0, 1) := by decide +kernel
theorem dX5_comesAbout_121 : decode cX5_comesAbout 121 = .ok (.getfield 56, 3) := by decide +kernel
theorem dX5_comesAbout_124 : decode cX5_comesAbout 124 = .ok (.iload_n 3, 1) := by decide +kernel
theorem dX5_comesAbout_125 : decode cX5_comesAbout 125 = .ok (.invokevirtual 164, 3) := by decide +kernel
theorem dX5_comesAbout_128 : decode cX5_comesAbout 128 = .ok (.ifCond .eq 7, 3) := by decide +kernel
theorem dX5_comesAbout_131 : decode cX5_comesAbout 131 = .ok (.iconst 1, 1) := by decide +kernel
theorem dX5_comesAbout_132 : decode cX5_comesAbout 132 = .ok (.goto 4, 3) := by decide +kernel
theorem dX5_comesAbout_135 : decode cX5_comesAbout 135 = .ok (.iconst 0, 1) := by decide +kernel
theorem dX5_comesAbout_136 : decode cX5_comesAbout 136 = .ok (.ireturn, 1) := by decide +kernel
theorem dX5_comesAbout_137 : decode cX5_comesAbout 137 = .ok (.aload_n 0, 1) := by decide +kernel
theorem dX5_comesAbout_138 : decode cX5_comesAbout 138 = .ok (.getfield 38, 3) := by decide +kernel
theorem dX5_comesAbout_141 : decode cX5_comesAbout 141 = .ok (.iload_n 2, 1) := by decide +kernel
theorem dX5_comesAbout_142 : decode cX5_comesAbout 142 = .ok (.invokevirtual 102, 3) := by decide +kernel
theorem dX5_comesAbout_145 : decode cX5_comesAbout 145 = .ok (.ifCond .eq 26, 3) := by decide +kernel
theorem dX5_comesAbout_148 : decode cX5_comesAbout 148 = .ok (.iload_n 3, 1) := by decide +kernel
theorem dX5_comesAbout_149 : decode cX5_comesAbout 149 = .ok (.invokestatic 179, 3) := by decide +kernel
theorem dX5_comesAbout_152 : decode cX5_comesAbout 152 = .ok (.ifCond .eq 19, 3) := by decide +kernel
theorem dX5_comesAbout_155 : decode cX5_comesAbout 155 = .ok (.aload_n 0, 1) := by decide +kernel
theorem dX5_comesAbout_156 : decode cX5_comesAbout 156 = .ok (.getfield 56, 3) := by decide +kernel
theorem dX5_comesAbout_159 : decode cX5_comesAbout 159 = .ok (.iload_n 2, 1) := by decide +kernel
theorem dX5_comesAbout_160 : decode cX5_comesAbout 160 = .ok (.iload_n 3, 1) := by decide +kernel
theorem dX5_comesAbout_161 : decode cX5_comesAbout 161 = .ok (.invokevirtual 182, 3) := by decide +kernel
theorem dX5_comesAbout_164 : decode cX5_comesAbout 164 = .ok (.ifCond .eq 7, 3) := by decide +kernel
theorem dX5_comesAbout_167 : decode cX5_comesAbout 167 = .ok (.iconst 1, 1) := by decide +kernel
theorem dX5_comesAbout_168 : decode cX5_comesAbout 168 = .ok (.goto 4, 3) := by decide +kernel
theorem dX5_comesAbout_171 : decode cX5_comesAbout 171 = .ok (.iconst 0, 1) := by decide +kernel
theorem dX5_comesAbout_172 : decode cX5_comesAbout 172 = .ok (.ireturn, 1) := by decide +kernel
theorem dX5_comesAbout_173 : decode cX5_comesAbout 173 = .ok (.iload_n 2, 1) := by decide +kernel
theorem dX5_comesAbout_174 : decode cX5_comesAbout 174 = .ok (.ifCond .ne 18, 3) := by decide +kernel
theorem dX5_comesAbout_177 : decode cX5_comesAbout 177 = .ok (.aload_n 0, 1) := by decide +kernel
theorem dX5_comesAbout_178 : decode cX5_comesAbout 178 = .ok (.getfield 56, 3) := by decide +kernel
theorem dX5_comesAbout_181 : decode cX5_comesAbout 181 = .ok (.getfield 271, 3) := by decide +kernel
theorem dX5_comesAbout_184 : decode cX5_comesAbout 184 = .ok (.iload_n 3, 1) := by decide +kernel
theorem dX5_comesAbout_185 : decode cX5_comesAbout 185 = .ok (.if_icmp .lt 7, 3) := by decide +kernel
theorem dX5_comesAbout_188 : decode cX5_comesAbout 188 = .ok (.iconst 1, 1) := by decide +kernel
theorem dX5_comesAbout_189 : decode cX5_comesAbout 189 = .ok (.goto 4, 3) := by decide +kernel
theorem dX5_comesAbout_192 : decode cX5_comesAbout 192 = .ok (.iconst 0, 1) := by decide +kernel
theorem dX5_comesAbout_193 : decode cX5_comesAbout 193 = .ok (.ireturn, 1) := by decide +kernel
theorem dX5_comesAbout_194 : decode cX5_comesAbout 194 = .ok (.iconst 0, 1) := by decide +kernel
theorem dX5_comesAbout_195 : decode cX5_comesAbout 195 = .ok (.ireturn, 1) := by decide +kernel
set_option maxRecDepth 20000 in
theorem ggX5_fillChoices_X4_take : GoodIn wsX5_fillChoices wsX4_take := goodIn_r _ [10, 11, 12, 13, 14, 15, 16, 17, 18, 19, 114, 115, 116, 117, 118, 119] (by decide +kernel) (by decide +kernel)
set_option maxRecDepth 20000 in
theorem gX5_fillChoices_X4_take : GoodIn wsX5_fillChoices (wsV RX5 173 RX4 yX4_take wsX4_take) := goodIn_app (goodIn_of _ (by decide +kernel)) ggX5_fillChoices_X4_take
set_option maxRecDepth 20000 in
theorem ggX5_fillChoices_X4_tryLowered : GoodIn wsX5_fillChoices wsX4_tryLowered := goodIn_r _ [23, 17, 24, 25, 26, 9, 27, 28, 29, 30, 31, 32, 33, 34, 114, 115, 116, 117, 118, 119, 120, 121, 122, 123, 124, 125, 126, 127, 128] (by decide +kernel) (by decide +kernel)
set_option maxRecDepth 20000 in
theorem gX5_fillChoices_X4_tryLowered : GoodIn wsX5_fillChoices (wsV RX5 148 RX4 yX4_tryLowered wsX4_tryLowered) := goodIn_app (goodIn_of _ (by decide +kernel)) ggX5_fillChoices_X4_tryLowered
set_option maxRecDepth 20000 in
theorem ggX5_fillChoices_X4_passHours : GoodIn wsX5_fillChoices wsX4_passHours := goodIn_r _ [38, 28, 19, 39, 40, 41, 32, 42, 43, 44, 45, 46, 47, 9, 48, 49, 18, 50, 51, 52, 53, 54, 55, 56, 57, 58, 59, 60, 61, 62, 63, 64, 65, 66, 67, 68, 17, 69, 70, 71, 11, 72, 73, 74, 75, 76, 77, 78, 79, 80, 81, 82, 16, 83, 84, 85, 86, 34, 87, 88, 89, 90, 91, 92, 93, 94, 95, 96, 97, 114, 115, 116, 117, 118, 119, 120, 121, 122, 123, 124, 125, 126, 127, 128] (by decide +kernel) (by decide +kernel)
set_option maxRecDepth 20000 in
theorem gX5_fillChoices_X4_passHours : GoodIn wsX5_fillChoices (wsV RX5 175 RX4 yX4_passHours wsX4_passHours) := goodIn_app (goodIn_of _ (by decide +kernel)) ggX5_fillChoices_X4_passHours
set_option maxRecDepth 20000 in
theorem ggX5_fillChoices_J6_bitCount_0f7a4 : GoodIn wsX5_fillChoices wsJ6_bitCount_0f7a4 := goodIn_r _ [94, 95, 96, 97] (by decide +kernel) (by decide +kernel)
set_option maxRecDepth 20000 in
theorem gX5_fillChoices_J6_bitCount_0f7a4 : GoodIn wsX5_fillChoices (va_wsS RX5 201 yJ6_bitCount_0f7a4 wsJ6_bitCount_0f7a4) := goodIn_app (goodIn_of _ (by decide +kernel)) ggX5_fillChoices_J6_bitCount_0f7a4
theorem dX5_fillChoices_0 : decode cX5_fillChoices 0 = .ok (.iconst 0, 1) := by decide +kernel
theorem dX5_fillChoices_1 : decode cX5_fillChoices 1 = .ok (.istore_n 3, 1) := by decide +kernel
theorem dX5_fillChoices_2 : decode cX5_fillChoices 2 = .ok (.iload_n 3, 1) := by decide +kernel
theorem dX5_fillChoices_3 : decode cX5_fillChoices 3 = .ok (.iconst 4, 1) := by decide +kernel
theorem dX5_fillChoices_4 : decode cX5_fillChoices 4 = .ok (.if_icmp .ge 116, 3) := by decide +kernel
theorem dX5_fillChoices_7 : decode cX5_fillChoices 7 = .ok (.iload_n 3, 1) := by decide +kernel
theorem dX5_fillChoices_8 : decode cX5_fillChoices 8 = .ok (.iconst 1, 1) := by decide +kernel
theorem dX5_fillChoices_9 : decode cX5_fillChoices 9 = .ok (.ishr, 1) := by decide +kernel
theorem dX5_fillChoices_10 : decode cX5_fillChoices 10 = .ok (.istore 4, 2) := by decide +kernel
theorem dX5_fillChoices_12 : decode cX5_fillChoices 12 = .ok (.iload_n 3, 1) := by decide +kernel
theorem dX5_fillChoices_13 : decode cX5_fillChoices 13 = .ok (.iconst 1, 1) := by decide +kernel
theorem dX5_fillChoices_14 : decode cX5_fillChoices 14 = .ok (.iand, 1) := by decide +kernel
theorem dX5_fillChoices_15 : decode cX5_fillChoices 15 = .ok (.istore 5, 2) := by decide +kernel
theorem dX5_fillChoices_17 : decode cX5_fillChoices 17 = .ok (.aload_n 0, 1) := by decide +kernel
theorem dX5_fillChoices_18 : decode cX5_fillChoices 18 = .ok (.getfield 56, 3) := by decide +kernel
theorem dX5_fillChoices_21 : decode cX5_fillChoices 21 = .ok (.aload_n 0, 1) := by decide +kernel
theorem dX5_fillChoices_22 : decode cX5_fillChoices 22 = .ok (.getfield 52, 3) := by decide +kernel
theorem dX5_fillChoices_25 : decode cX5_fillChoices 25 = .ok (.invokevirtual 173, 3) := by decide +kernel
theorem dX5_fillChoices_28 : decode cX5_fillChoices 28 = .ok (.iload 4, 2) := by decide +kernel
theorem dX5_fillChoices_30 : decode cX5_fillChoices 30 = .ok (.iconst 1, 1) := by decide +kernel
theorem dX5_fillChoices_31 : decode cX5_fillChoices 31 = .ok (.if_icmp .ne 12, 3) := by decide +kernel
theorem dX5_fillChoices_34 : decode cX5_fillChoices 34 = .ok (.aload_n 0, 1) := by decide +kernel
theorem dX5_fillChoices_35 : decode cX5_fillChoices 35 = .ok (.getfield 56, 3) := by decide +kernel
theorem dX5_fillChoices_38 : decode cX5_fillChoices 38 = .ok (.iload_n 1, 1) := by decide +kernel
theorem dX5_fillChoices_39 : decode cX5_fillChoices 39 = .ok (.invokevirtual 148, 3) := by decide +kernel
theorem dX5_fillChoices_42 : decode cX5_fillChoices 42 = .ok (.pop, 1) := by decide +kernel
theorem dX5_fillChoices_43 : decode cX5_fillChoices 43 = .ok (.iload 5, 2) := by decide +kernel
theorem dX5_fillChoices_45 : decode cX5_fillChoices 45 = .ok (.iconst 1, 1) := by decide +kernel
theorem dX5_fillChoices_46 : decode cX5_fillChoices 46 = .ok (.if_icmp .ne 12, 3) := by decide +kernel
theorem dX5_fillChoices_49 : decode cX5_fillChoices 49 = .ok (.aload_n 0, 1) := by decide +kernel
theorem dX5_fillChoices_50 : decode cX5_fillChoices 50 = .ok (.getfield 56, 3) := by decide +kernel
theorem dX5_fillChoices_53 : decode cX5_fillChoices 53 = .ok (.iload_n 2, 1) := by decide +kernel
theorem dX5_fillChoices_54 : decode cX5_fillChoices 54 = .ok (.invokevirtual 148, 3) := by decide +kernel
theorem dX5_fillChoices_57 : decode cX5_fillChoices 57 = .ok (.pop, 1) := by decide +kernel
theorem dX5_fillChoices_58 : decode cX5_fillChoices 58 = .ok (.aload_n 0, 1) := by decide +kernel
theorem dX5_fillChoices_59 : decode cX5_fillChoices 59 = .ok (.getfield 56, 3) := by decide +kernel
theorem dX5_fillChoices_62 : decode cX5_fillChoices 62 = .ok (.iconst 4, 1) := by decide +kernel
theorem dX5_fillChoices_63 : decode cX5_fillChoices 63 = .ok (.invokevirtual 175, 3) := by decide +kernel
theorem dX5_fillChoices_66 : decode cX5_fillChoices 66 = .ok (.aload_n 0, 1) := by decide +kernel
theorem dX5_fillChoices_67 : decode cX5_fillChoices 67 = .ok (.getfield 29, 3) := by decide +kernel
theorem dX5_fillChoices_70 : decode cX5_fillChoices 70 = .ok (.iload_n 3, 1) := by decide +kernel
theorem dX5_fillChoices_71 : decode cX5_fillChoices 71 = .ok (.bipush 6, 2) := by decide +kernel
theorem dX5_fillChoices_73 : decode cX5_fillChoices 73 = .ok (.aload_n 0, 1) := by decide +kernel
theorem dX5_fillChoices_74 : decode cX5_fillChoices 74 = .ok (.getfield 56, 3) := by decide +kernel
theorem dX5_fillChoices_77 : decode cX5_fillChoices 77 = .ok (.getfield 116, 3) := by decide +kernel
theorem dX5_fillChoices_80 : decode cX5_fillChoices 80 = .ok (.iload_n 1, 1) := by decide +kernel
theorem dX5_fillChoices_81 : decode cX5_fillChoices 81 = .ok (.iaload, 1) := by decide +kernel
theorem dX5_fillChoices_82 : decode cX5_fillChoices 82 = .ok (.invokestatic 201, 3) := by decide +kernel
theorem dX5_fillChoices_85 : decode cX5_fillChoices 85 = .ok (.isub, 1) := by decide +kernel
theorem dX5_fillChoices_86 : decode cX5_fillChoices 86 = .ok (.iload 4, 2) := by decide +kernel
theorem dX5_fillChoices_88 : decode cX5_fillChoices 88 = .ok (.isub, 1) := by decide +kernel
theorem dX5_fillChoices_89 : decode cX5_fillChoices 89 = .ok (.iastore, 1) := by decide +kernel
theorem dX5_fillChoices_90 : decode cX5_fillChoices 90 = .ok (.aload_n 0, 1) := by decide +kernel
theorem dX5_fillChoices_91 : decode cX5_fillChoices 91 = .ok (.getfield 32, 3) := by decide +kernel
theorem dX5_fillChoices_94 : decode cX5_fillChoices 94 = .ok (.iload_n 3, 1) := by decide +kernel
theorem dX5_fillChoices_95 : decode cX5_fillChoices 95 = .ok (.bipush 6, 2) := by decide +kernel
theorem dX5_fillChoices_97 : decode cX5_fillChoices 97 = .ok (.aload_n 0, 1) := by decide +kernel
theorem dX5_fillChoices_98 : decode cX5_fillChoices 98 = .ok (.getfield 56, 3) := by decide +kernel
theorem dX5_fillChoices_101 : decode cX5_fillChoices 101 = .ok (.getfield 116, 3) := by decide +kernel
theorem dX5_fillChoices_104 : decode cX5_fillChoices 104 = .ok (.iload_n 2, 1) := by decide +kernel
theorem dX5_fillChoices_105 : decode cX5_fillChoices 105 = .ok (.iaload, 1) := by decide +kernel
theorem dX5_fillChoices_106 : decode cX5_fillChoices 106 = .ok (.invokestatic 201, 3) := by decide +kernel
theorem dX5_fillChoices_109 : decode cX5_fillChoices 109 = .ok (.isub, 1) := by decide +kernel
theorem dX5_fillChoices_110 : decode cX5_fillChoices 110 = .ok (.iload 5, 2) := by decide +kernel
theorem dX5_fillChoices_112 : decode cX5_fillChoices 112 = .ok (.isub, 1) := by decide +kernel
theorem dX5_fillChoices_113 : decode cX5_fillChoices 113 = .ok (.iastore, 1) := by decide +kernel
theorem dX5_fillChoices_114 : decode cX5_fillChoices 114 = .ok (.iinc 3 1, 3) := by decide +kernel
theorem dX5_fillChoices_117 : decode cX5_fillChoices 117 = .ok (.goto (-115), 3) := by decide +kernel
theorem dX5_fillChoices_120 : decode cX5_fillChoices 120 = .ok (.return_, 1) := by decide +kernel
theorem dX5_weightOf_0 : decode cX5_weightOf 0 = .ok (.iconst 1, 1) := by decide +kernel
theorem dX5_weightOf_1 : decode cX5_weightOf 1 = .ok (.istore_n 3, 1) := by decide +kernel
theorem dX5_weightOf_2 : decode cX5_weightOf 2 = .ok (.iconst 0, 1) := by decide +kernel
theorem dX5_weightOf_3 : decode cX5_weightOf 3 = .ok (.istore 4, 2) := by decide +kernel
theorem dX5_weightOf_5 : decode cX5_weightOf 5 = .ok (.iload 4, 2) := by decide +kernel
theorem dX5_weightOf_7 : decode cX5_weightOf 7 = .ok (.iload_n 1, 1) := by decide +kernel
theorem dX5_weightOf_8 : decode cX5_weightOf 8 = .ok (.if_icmp .ge 30, 3) := by decide +kernel
theorem dX5_weightOf_11 : decode cX5_weightOf 11 = .ok (.iload_n 3, 1) := by decide +kernel
theorem dX5_weightOf_12 : decode cX5_weightOf 12 = .ok (.iload_n 0, 1) := by decide +kernel
theorem dX5_weightOf_13 : decode cX5_weightOf 13 = .ok (.iload 4, 2) := by decide +kernel
theorem dX5_weightOf_15 : decode cX5_weightOf 15 = .ok (.ishr, 1) := by decide +kernel
theorem dX5_weightOf_16 : decode cX5_weightOf 16 = .ok (.iconst 1, 1) := by decide +kernel
theorem dX5_weightOf_17 : decode cX5_weightOf 17 = .ok (.iand, 1) := by decide +kernel
theorem dX5_weightOf_18 : decode cX5_weightOf 18 = .ok (.iconst 1, 1) := by decide +kernel
theorem dX5_weightOf_19 : decode cX5_weightOf 19 = .ok (.if_icmp .ne 7, 3) := by decide +kernel
theorem dX5_weightOf_22 : decode cX5_weightOf 22 = .ok (.iload_n 2, 1) := by decide +kernel
theorem dX5_weightOf_23 : decode cX5_weightOf 23 = .ok (.goto 7, 3) := by decide +kernel
theorem dX5_weightOf_26 : decode cX5_weightOf 26 = .ok (.bipush 10, 2) := by decide +kernel
theorem dX5_weightOf_28 : decode cX5_weightOf 28 = .ok (.iload_n 2, 1) := by decide +kernel
theorem dX5_weightOf_29 : decode cX5_weightOf 29 = .ok (.isub, 1) := by decide +kernel
theorem dX5_weightOf_30 : decode cX5_weightOf 30 = .ok (.imul, 1) := by decide +kernel
theorem dX5_weightOf_31 : decode cX5_weightOf 31 = .ok (.istore_n 3, 1) := by decide +kernel
theorem dX5_weightOf_32 : decode cX5_weightOf 32 = .ok (.iinc 4 1, 3) := by decide +kernel
theorem dX5_weightOf_35 : decode cX5_weightOf 35 = .ok (.goto (-30), 3) := by decide +kernel
theorem dX5_weightOf_38 : decode cX5_weightOf 38 = .ok (.iload_n 3, 1) := by decide +kernel
theorem dX5_weightOf_39 : decode cX5_weightOf 39 = .ok (.ireturn, 1) := by decide +kernel
set_option maxRecDepth 20000 in
theorem ggX5_knowsBehind_X4_take : GoodIn wsX5_knowsBehind wsX4_take := goodIn_r _ [9, 10, 11, 12, 13, 14, 15, 16, 17, 18, 100, 101, 102, 103, 104, 105] (by decide +kernel) (by decide +kernel)
set_option maxRecDepth 20000 in
theorem gX5_knowsBehind_X4_take : GoodIn wsX5_knowsBehind (wsV RX5 173 RX4 yX4_take wsX4_take) := goodIn_app (goodIn_of _ (by decide +kernel)) ggX5_knowsBehind_X4_take
set_option maxRecDepth 20000 in
theorem ggX5_knowsBehind_X2_rainAt : GoodIn wsX5_knowsBehind wsX2_rainAt := goodIn_r _ [23, 24, 25, 106, 107, 108, 109, 110, 111, 112, 113, 114] (by decide +kernel) (by decide +kernel)
set_option maxRecDepth 20000 in
theorem gX5_knowsBehind_X2_rainAt : GoodIn wsX5_knowsBehind (wsV RX5 268 RX2 yX2_rainAt wsX2_rainAt) := goodIn_app (goodIn_of _ (by decide +kernel)) ggX5_knowsBehind_X2_rainAt
set_option maxRecDepth 20000 in
theorem ggX5_knowsBehind_X4_passHourBy : GoodIn wsX5_knowsBehind wsX4_passHourBy := goodIn_r _ [29, 30, 18, 31, 17, 32, 33, 34, 35, 36, 37, 38, 22, 39, 40, 41, 42, 43, 44, 45, 46, 47, 8, 48, 49, 50, 16, 51, 52, 53, 10, 54, 55, 56, 57, 58, 59, 60, 61, 62, 63, 64, 15, 65, 66, 67, 68, 69, 70, 71, 72, 73, 74, 75, 76, 77, 78, 79, 80, 100, 101, 102, 103, 104, 105, 106, 107, 108, 109, 110, 111, 112, 113, 114] (by decide +kernel) (by decide +kernel)
set_option maxRecDepth 20000 in
theorem gX5_knowsBehind_X4_passHourBy : GoodIn wsX5_knowsBehind (wsV RX5 292 RX4 yX4_passHourBy wsX4_passHourBy) := goodIn_app (goodIn_of _ (by decide +kernel)) ggX5_knowsBehind_X4_passHourBy
set_option maxRecDepth 20000 in
theorem ggX5_knowsBehind_X4_knowsThing : GoodIn wsX5_knowsBehind wsX4_knowsThing := goodIn_r _ [84, 15, 100, 101, 102, 103, 104, 105] (by decide +kernel) (by decide +kernel)
set_option maxRecDepth 20000 in
theorem gX5_knowsBehind_X4_knowsThing : GoodIn wsX5_knowsBehind (wsV RX5 182 RX4 yX4_knowsThing wsX4_knowsThing) := goodIn_app (goodIn_of _ (by decide +kernel)) ggX5_knowsBehind_X4_knowsThing
theorem dX5_knowsBehind_0 : decode cX5_knowsBehind 0 = .ok (.aload_n 0, 1) := by decide +kernel
theorem dX5_knowsBehind_1 : decode cX5_knowsBehind 1 = .ok (.getfield 56, 3) := by decide +kernel
theorem dX5_knowsBehind_4 : decode cX5_knowsBehind 4 = .ok (.aload_n 0, 1) := by decide +kernel
theorem dX5_knowsBehind_5 : decode cX5_knowsBehind 5 = .ok (.getfield 52, 3) := by decide +kernel
theorem dX5_knowsBehind_8 : decode cX5_knowsBehind 8 = .ok (.invokevirtual 173, 3) := by decide +kernel
theorem dX5_knowsBehind_11 : decode cX5_knowsBehind 11 = .ok (.iconst 0, 1) := by decide +kernel
theorem dX5_knowsBehind_12 : decode cX5_knowsBehind 12 = .ok (.istore 5, 2) := by decide +kernel
theorem dX5_knowsBehind_14 : decode cX5_knowsBehind 14 = .ok (.iload 5, 2) := by decide +kernel
theorem dX5_knowsBehind_16 : decode cX5_knowsBehind 16 = .ok (.iload_n 2, 1) := by decide +kernel
theorem dX5_knowsBehind_17 : decode cX5_knowsBehind 17 = .ok (.if_icmp .ge 57, 3) := by decide +kernel
theorem dX5_knowsBehind_20 : decode cX5_knowsBehind 20 = .ok (.iload_n 1, 1) := by decide +kernel
theorem dX5_knowsBehind_21 : decode cX5_knowsBehind 21 = .ok (.iload 5, 2) := by decide +kernel
theorem dX5_knowsBehind_23 : decode cX5_knowsBehind 23 = .ok (.ishr, 1) := by decide +kernel
theorem dX5_knowsBehind_24 : decode cX5_knowsBehind 24 = .ok (.iconst 1, 1) := by decide +kernel
theorem dX5_knowsBehind_25 : decode cX5_knowsBehind 25 = .ok (.iand, 1) := by decide +kernel
theorem dX5_knowsBehind_26 : decode cX5_knowsBehind 26 = .ok (.iconst 1, 1) := by decide +kernel
theorem dX5_knowsBehind_27 : decode cX5_knowsBehind 27 = .ok (.if_icmp .ne 7, 3) := by decide +kernel
theorem dX5_knowsBehind_30 : decode cX5_knowsBehind 30 = .ok (.iconst 1, 1) := by decide +kernel
theorem dX5_knowsBehind_31 : decode cX5_knowsBehind 31 = .ok (.goto 4, 3) := by decide +kernel
theorem dX5_knowsBehind_34 : decode cX5_knowsBehind 34 = .ok (.iconst 0, 1) := by decide +kernel
theorem dX5_knowsBehind_35 : decode cX5_knowsBehind 35 = .ok (.istore 6, 2) := by decide +kernel
theorem dX5_knowsBehind_37 : decode cX5_knowsBehind 37 = .ok (.aload_n 0, 1) := by decide +kernel
theorem dX5_knowsBehind_38 : decode cX5_knowsBehind 38 = .ok (.getfield 56, 3) := by decide +kernel
theorem dX5_knowsBehind_41 : decode cX5_knowsBehind 41 = .ok (.iload 6, 2) := by decide +kernel
theorem dX5_knowsBehind_43 : decode cX5_knowsBehind 43 = .ok (.ifCond .eq 7, 3) := by decide +kernel
theorem dX5_knowsBehind_46 : decode cX5_knowsBehind 46 = .ok (.iconst 0, 1) := by decide +kernel
theorem dX5_knowsBehind_47 : decode cX5_knowsBehind 47 = .ok (.goto 17, 3) := by decide +kernel
theorem dX5_knowsBehind_50 : decode cX5_knowsBehind 50 = .ok (.aload_n 0, 1) := by decide +kernel
theorem dX5_knowsBehind_51 : decode cX5_knowsBehind 51 = .ok (.getfield 38, 3) := by decide +kernel
theorem dX5_knowsBehind_54 : decode cX5_knowsBehind 54 = .ok (.aload_n 0, 1) := by decide +kernel
theorem dX5_knowsBehind_55 : decode cX5_knowsBehind 55 = .ok (.getfield 56, 3) := by decide +kernel
theorem dX5_knowsBehind_58 : decode cX5_knowsBehind 58 = .ok (.getfield 265, 3) := by decide +kernel
theorem dX5_knowsBehind_61 : decode cX5_knowsBehind 61 = .ok (.invokevirtual 268, 3) := by decide +kernel
theorem dX5_knowsBehind_64 : decode cX5_knowsBehind 64 = .ok (.invokevirtual 292, 3) := by decide +kernel
theorem dX5_knowsBehind_67 : decode cX5_knowsBehind 67 = .ok (.pop, 1) := by decide +kernel
theorem dX5_knowsBehind_68 : decode cX5_knowsBehind 68 = .ok (.iinc 5 1, 3) := by decide +kernel
theorem dX5_knowsBehind_71 : decode cX5_knowsBehind 71 = .ok (.goto (-57), 3) := by decide +kernel
theorem dX5_knowsBehind_74 : decode cX5_knowsBehind 74 = .ok (.aload_n 0, 1) := by decide +kernel
theorem dX5_knowsBehind_75 : decode cX5_knowsBehind 75 = .ok (.getfield 56, 3) := by decide +kernel
theorem dX5_knowsBehind_78 : decode cX5_knowsBehind 78 = .ok (.iload_n 3, 1) := by decide +kernel
theorem dX5_knowsBehind_79 : decode cX5_knowsBehind 79 = .ok (.iload 4, 2) := by decide +kernel
theorem dX5_knowsBehind_81 : decode cX5_knowsBehind 81 = .ok (.invokevirtual 182, 3) := by decide +kernel
theorem dX5_knowsBehind_84 : decode cX5_knowsBehind 84 = .ok (.ireturn, 1) := by decide +kernel
set_option maxRecDepth 20000 in
theorem ggX5_doByLot_X4_tryLowered : GoodIn wsX5_doByLot wsX4_tryLowered := goodIn_r _ [6, 7, 8, 9, 10, 5, 11, 12, 13, 14, 15, 16, 17, 18, 121, 122, 123, 124, 125, 126, 127, 128, 129, 130, 131, 132, 133, 134, 135] (by decide +kernel) (by decide +kernel)
set_option maxRecDepth 20000 in
theorem gX5_doByLot_X4_tryLowered : GoodIn wsX5_doByLot (wsV RX5 148 RX4 yX4_tryLowered wsX4_tryLowered) := goodIn_app (goodIn_of _ (by decide +kernel)) ggX5_doByLot_X4_tryLowered
set_option maxRecDepth 20000 in
theorem ggX5_doByLot_X4_tryRaised : GoodIn wsX5_doByLot wsX4_tryRaised := goodIn_r _ [22, 7, 23, 24, 25, 5, 26, 12, 13, 14, 15, 16, 17, 18, 121, 122, 123, 124, 125, 126, 127, 128, 129, 130, 131, 132, 133, 134, 135] (by decide +kernel) (by decide +kernel)
set_option maxRecDepth 20000 in
theorem gX5_doByLot_X4_tryRaised : GoodIn wsX5_doByLot (wsV RX5 154 RX4 yX4_tryRaised wsX4_tryRaised) := goodIn_app (goodIn_of _ (by decide +kernel)) ggX5_doByLot_X4_tryRaised
set_option maxRecDepth 20000 in
theorem ggX5_doByLot_X4_tryChanged : GoodIn wsX5_doByLot wsX4_tryChanged := goodIn_r _ [30, 12, 31, 32, 13, 14, 15, 16, 17, 18, 121, 122, 123, 124, 125, 126, 127, 128, 129, 130, 131, 132, 133, 134, 135] (by decide +kernel) (by decide +kernel)
set_option maxRecDepth 20000 in
theorem gX5_doByLot_X4_tryChanged : GoodIn wsX5_doByLot (wsV RX5 157 RX4 yX4_tryChanged wsX4_tryChanged) := goodIn_app (goodIn_of _ (by decide +kernel)) ggX5_doByLot_X4_tryChanged
set_option maxRecDepth 20000 in
theorem ggX5_doByLot_X4_tryPlate : GoodIn wsX5_doByLot wsX4_tryPlate := goodIn_r _ [36, 12, 32, 37, 38, 39, 16, 40, 18, 121, 122, 123, 124, 125, 126, 127, 128, 129, 130, 131, 132, 133, 134, 135] (by decide +kernel) (by decide +kernel)
set_option maxRecDepth 20000 in
theorem gX5_doByLot_X4_tryPlate : GoodIn wsX5_doByLot (wsV RX5 164 RX4 yX4_tryPlate wsX4_tryPlate) := goodIn_app (goodIn_of _ (by decide +kernel)) ggX5_doByLot_X4_tryPlate
set_option maxRecDepth 20000 in
theorem ggX5_doByLot_X4_passHour : GoodIn wsX5_doByLot wsX4_passHour := goodIn_r _ [44, 12, 45, 46, 47, 48, 16, 49, 50, 51, 52, 53, 54, 5, 55, 56, 57, 58, 59, 60, 61, 62, 63, 64, 65, 66, 67, 68, 69, 70, 71, 72, 73, 74, 75, 76, 7, 77, 78, 79, 31, 80, 81, 82, 83, 84, 85, 86, 87, 88, 89, 90, 32, 91, 92, 93, 94, 18, 95, 96, 97, 98, 99, 100, 101, 102, 103, 104, 105, 121, 122, 123, 124, 125, 126, 127, 128, 129, 130, 131, 132, 133, 134, 135] (by decide +kernel) (by decide +kernel)
set_option maxRecDepth 20000 in
theorem gX5_doByLot_X4_passHour : GoodIn wsX5_doByLot (wsV RX5 142 RX4 yX4_passHour wsX4_passHour) := goodIn_app (goodIn_of _ (by decide +kernel)) ggX5_doByLot_X4_passHour
theorem dX5_doByLot_0 : decode cX5_doByLot 0 = .ok (.iload_n 1, 1) := by decide +kernel
theorem dX5_doByLot_1 : decode cX5_doByLot 1 = .ok (.iconst 5, 1) := by decide +kernel
theorem dX5_doByLot_2 : decode cX5_doByLot 2 = .ok (.if_icmp .ge 15, 3) := by decide +kernel
theorem dX5_doByLot_5 : decode cX5_doByLot 5 = .ok (.aload_n 0, 1) := by decide +kernel
theorem dX5_doByLot_6 : decode cX5_doByLot 6 = .ok (.getfield 56, 3) := by decide +kernel
theorem dX5_doByLot_9 : decode cX5_doByLot 9 = .ok (.iload_n 1, 1) := by decide +kernel
theorem dX5_doByLot_10 : decode cX5_doByLot 10 = .ok (.invokevirtual 148, 3) := by decide +kernel
theorem dX5_doByLot_13 : decode cX5_doByLot 13 = .ok (.pop, 1) := by decide +kernel
theorem dX5_doByLot_14 : decode cX5_doByLot 14 = .ok (.goto 77, 3) := by decide +kernel
theorem dX5_doByLot_17 : decode cX5_doByLot 17 = .ok (.iload_n 1, 1) := by decide +kernel
theorem dX5_doByLot_18 : decode cX5_doByLot 18 = .ok (.bipush 10, 2) := by decide +kernel
theorem dX5_doByLot_20 : decode cX5_doByLot 20 = .ok (.if_icmp .ge 17, 3) := by decide +kernel
theorem dX5_doByLot_23 : decode cX5_doByLot 23 = .ok (.aload_n 0, 1) := by decide +kernel
theorem dX5_doByLot_24 : decode cX5_doByLot 24 = .ok (.getfield 56, 3) := by decide +kernel
theorem dX5_doByLot_27 : decode cX5_doByLot 27 = .ok (.iload_n 1, 1) := by decide +kernel
theorem dX5_doByLot_28 : decode cX5_doByLot 28 = .ok (.iconst 5, 1) := by decide +kernel
theorem dX5_doByLot_29 : decode cX5_doByLot 29 = .ok (.isub, 1) := by decide +kernel
theorem dX5_doByLot_30 : decode cX5_doByLot 30 = .ok (.invokevirtual 154, 3) := by decide +kernel
theorem dX5_doByLot_33 : decode cX5_doByLot 33 = .ok (.pop, 1) := by decide +kernel
theorem dX5_doByLot_34 : decode cX5_doByLot 34 = .ok (.goto 57, 3) := by decide +kernel
theorem dX5_doByLot_37 : decode cX5_doByLot 37 = .ok (.iload_n 1, 1) := by decide +kernel
theorem dX5_doByLot_38 : decode cX5_doByLot 38 = .ok (.bipush 14, 2) := by decide +kernel
theorem dX5_doByLot_40 : decode cX5_doByLot 40 = .ok (.if_icmp .ge 22, 3) := by decide +kernel
theorem dX5_doByLot_43 : decode cX5_doByLot 43 = .ok (.aload_n 0, 1) := by decide +kernel
theorem dX5_doByLot_44 : decode cX5_doByLot 44 = .ok (.getfield 56, 3) := by decide +kernel
theorem dX5_doByLot_47 : decode cX5_doByLot 47 = .ok (.iload_n 1, 1) := by decide +kernel
theorem dX5_doByLot_48 : decode cX5_doByLot 48 = .ok (.bipush 10, 2) := by decide +kernel
theorem dX5_doByLot_50 : decode cX5_doByLot 50 = .ok (.isub, 1) := by decide +kernel
theorem dX5_doByLot_51 : decode cX5_doByLot 51 = .ok (.iload_n 1, 1) := by decide +kernel
theorem dX5_doByLot_52 : decode cX5_doByLot 52 = .ok (.bipush 9, 2) := by decide +kernel
theorem dX5_doByLot_54 : decode cX5_doByLot 54 = .ok (.isub, 1) := by decide +kernel
theorem dX5_doByLot_55 : decode cX5_doByLot 55 = .ok (.invokevirtual 157, 3) := by decide +kernel
theorem dX5_doByLot_58 : decode cX5_doByLot 58 = .ok (.pop, 1) := by decide +kernel
theorem dX5_doByLot_59 : decode cX5_doByLot 59 = .ok (.goto 32, 3) := by decide +kernel
theorem dX5_doByLot_62 : decode cX5_doByLot 62 = .ok (.iload_n 1, 1) := by decide +kernel
theorem dX5_doByLot_63 : decode cX5_doByLot 63 = .ok (.bipush 18, 2) := by decide +kernel
theorem dX5_doByLot_65 : decode cX5_doByLot 65 = .ok (.if_icmp .ge 18, 3) := by decide +kernel
theorem dX5_doByLot_68 : decode cX5_doByLot 68 = .ok (.aload_n 0, 1) := by decide +kernel
theorem dX5_doByLot_69 : decode cX5_doByLot 69 = .ok (.getfield 56, 3) := by decide +kernel
theorem dX5_doByLot_72 : decode cX5_doByLot 72 = .ok (.iload_n 1, 1) := by decide +kernel
theorem dX5_doByLot_73 : decode cX5_doByLot 73 = .ok (.bipush 14, 2) := by decide +kernel
theorem dX5_doByLot_75 : decode cX5_doByLot 75 = .ok (.isub, 1) := by decide +kernel
theorem dX5_doByLot_76 : decode cX5_doByLot 76 = .ok (.invokevirtual 164, 3) := by decide +kernel
theorem dX5_doByLot_79 : decode cX5_doByLot 79 = .ok (.pop, 1) := by decide +kernel
theorem dX5_doByLot_80 : decode cX5_doByLot 80 = .ok (.goto 11, 3) := by decide +kernel
theorem dX5_doByLot_83 : decode cX5_doByLot 83 = .ok (.aload_n 0, 1) := by decide +kernel
theorem dX5_doByLot_84 : decode cX5_doByLot 84 = .ok (.getfield 56, 3) := by decide +kernel
theorem dX5_doByLot_87 : decode cX5_doByLot 87 = .ok (.invokevirtual 142, 3) := by decide +kernel
theorem dX5_doByLot_90 : decode cX5_doByLot 90 = .ok (.pop, 1) := by decide +kernel
theorem dX5_doByLot_91 : decode cX5_doByLot 91 = .ok (.return_, 1) := by decide +kernel
theorem dX6_init_0 : decode cX6_init 0 = .ok (.aload_n 0, 1) := by decide +kernel
theorem dX6_init_1 : decode cX6_init 1 = .ok (.invokespecial 1, 3) := by decide +kernel
theorem dX6_init_4 : decode cX6_init 4 = .ok (.aload_n 0, 1) := by decide +kernel
theorem dX6_init_5 : decode cX6_init 5 = .ok (.iconst 5, 1) := by decide +kernel
theorem dX6_init_6 : decode cX6_init 6 = .ok (.newarray .int, 2) := by decide +kernel
theorem dX6_init_8 : decode cX6_init 8 = .ok (.putfield 7, 3) := by decide +kernel
theorem dX6_init_11 : decode cX6_init 11 = .ok (.aload_n 0, 1) := by decide +kernel
theorem dX6_init_12 : decode cX6_init 12 = .ok (.iconst 5, 1) := by decide +kernel
theorem dX6_init_13 : decode cX6_init 13 = .ok (.newarray .int, 2) := by decide +kernel
theorem dX6_init_15 : decode cX6_init 15 = .ok (.putfield 13, 3) := by decide +kernel
theorem dX6_init_18 : decode cX6_init 18 = .ok (.aload_n 0, 1) := by decide +kernel
theorem dX6_init_19 : decode cX6_init 19 = .ok (.bipush 24, 2) := by decide +kernel
theorem dX6_init_21 : decode cX6_init 21 = .ok (.newarray .int, 2) := by decide +kernel
theorem dX6_init_23 : decode cX6_init 23 = .ok (.putfield 16, 3) := by decide +kernel
theorem dX6_init_26 : decode cX6_init 26 = .ok (.aload_n 0, 1) := by decide +kernel
theorem dX6_init_27 : decode cX6_init 27 = .ok (.iconst 4, 1) := by decide +kernel
theorem dX6_init_28 : decode cX6_init 28 = .ok (.newarray .int, 2) := by decide +kernel
theorem dX6_init_30 : decode cX6_init 30 = .ok (.putfield 19, 3) := by decide +kernel
theorem dX6_init_33 : decode cX6_init 33 = .ok (.aload_n 0, 1) := by decide +kernel
theorem dX6_init_34 : decode cX6_init 34 = .ok (.bipush 34, 2) := by decide +kernel
theorem dX6_init_36 : decode cX6_init 36 = .ok (.newarray .int, 2) := by decide +kernel
theorem dX6_init_38 : decode cX6_init 38 = .ok (.putfield 22, 3) := by decide +kernel
theorem dX6_init_41 : decode cX6_init 41 = .ok (.aload_n 0, 1) := by decide +kernel
theorem dX6_init_42 : decode cX6_init 42 = .ok (.bipush 10, 2) := by decide +kernel
theorem dX6_init_44 : decode cX6_init 44 = .ok (.newarray .int, 2) := by decide +kernel
theorem dX6_init_46 : decode cX6_init 46 = .ok (.putfield 25, 3) := by decide +kernel
theorem dX6_init_49 : decode cX6_init 49 = .ok (.aload_n 0, 1) := by decide +kernel
theorem dX6_init_50 : decode cX6_init 50 = .ok (.bipush 24, 2) := by decide +kernel
theorem dX6_init_52 : decode cX6_init 52 = .ok (.newarray .int, 2) := by decide +kernel
theorem dX6_init_54 : decode cX6_init 54 = .ok (.putfield 28, 3) := by decide +kernel
theorem dX6_init_57 : decode cX6_init 57 = .ok (.aload_n 0, 1) := by decide +kernel
theorem dX6_init_58 : decode cX6_init 58 = .ok (.iconst 4, 1) := by decide +kernel
theorem dX6_init_59 : decode cX6_init 59 = .ok (.newarray .int, 2) := by decide +kernel
theorem dX6_init_61 : decode cX6_init 61 = .ok (.putfield 31, 3) := by decide +kernel
theorem dX6_init_64 : decode cX6_init 64 = .ok (.aload_n 0, 1) := by decide +kernel
theorem dX6_init_65 : decode cX6_init 65 = .ok (.bipush 64, 2) := by decide +kernel
theorem dX6_init_67 : decode cX6_init 67 = .ok (.newarray .int, 2) := by decide +kernel
theorem dX6_init_69 : decode cX6_init 69 = .ok (.putfield 34, 3) := by decide +kernel
theorem dX6_init_72 : decode cX6_init 72 = .ok (.aload_n 0, 1) := by decide +kernel
theorem dX6_init_73 : decode cX6_init 73 = .ok (.sipush 238, 3) := by decide +kernel
theorem dX6_init_76 : decode cX6_init 76 = .ok (.newarray .int, 2) := by decide +kernel
theorem dX6_init_78 : decode cX6_init 78 = .ok (.putfield 37, 3) := by decide +kernel
theorem dX6_init_81 : decode cX6_init 81 = .ok (.aload_n 0, 1) := by decide +kernel
theorem dX6_init_82 : decode cX6_init 82 = .ok (.bipush 6, 2) := by decide +kernel
theorem dX6_init_84 : decode cX6_init 84 = .ok (.newarray .int, 2) := by decide +kernel
theorem dX6_init_86 : decode cX6_init 86 = .ok (.putfield 40, 3) := by decide +kernel
theorem dX6_init_89 : decode cX6_init 89 = .ok (.aload_n 0, 1) := by decide +kernel
theorem dX6_init_90 : decode cX6_init 90 = .ok (.bipush 6, 2) := by decide +kernel
theorem dX6_init_92 : decode cX6_init 92 = .ok (.newarray .int, 2) := by decide +kernel
theorem dX6_init_94 : decode cX6_init 94 = .ok (.putfield 43, 3) := by decide +kernel
theorem dX6_init_97 : decode cX6_init 97 = .ok (.aload_n 0, 1) := by decide +kernel
theorem dX6_init_98 : decode cX6_init 98 = .ok (.bipush 6, 2) := by decide +kernel
theorem dX6_init_100 : decode cX6_init 100 = .ok (.newarray .int, 2) := by decide +kernel
theorem dX6_init_102 : decode cX6_init 102 = .ok (.putfield 46, 3) := by decide +kernel
theorem dX6_init_105 : decode cX6_init 105 = .ok (.aload_n 0, 1) := by decide +kernel
theorem dX6_init_106 : decode cX6_init 106 = .ok (.iconst 2, 1) := by decide +kernel
theorem dX6_init_107 : decode cX6_init 107 = .ok (.newarray .boolean, 2) := by decide +kernel
theorem dX6_init_109 : decode cX6_init 109 = .ok (.putfield 49, 3) := by decide +kernel
theorem dX6_init_112 : decode cX6_init 112 = .ok (.aload_n 0, 1) := by decide +kernel
theorem dX6_init_113 : decode cX6_init 113 = .ok (.bipush 34, 2) := by decide +kernel
theorem dX6_init_115 : decode cX6_init 115 = .ok (.newarray .int, 2) := by decide +kernel
theorem dX6_init_117 : decode cX6_init 117 = .ok (.putfield 53, 3) := by decide +kernel
theorem dX6_init_120 : decode cX6_init 120 = .ok (.return_, 1) := by decide +kernel
theorem dX6_in_0 : decode cX6_in 0 = .ok (.lload_n 0, 1) := by decide +kernel
theorem dX6_in_1 : decode cX6_in 1 = .ok (.lload_n 2, 1) := by decide +kernel
theorem dX6_in_2 : decode cX6_in 2 = .ok (.lcmp, 1) := by decide +kernel
theorem dX6_in_3 : decode cX6_in 3 = .ok (.ifCond .lt 14, 3) := by decide +kernel
theorem dX6_in_6 : decode cX6_in 6 = .ok (.lload_n 0, 1) := by decide +kernel
theorem dX6_in_7 : decode cX6_in 7 = .ok (.lload 4, 2) := by decide +kernel
theorem dX6_in_9 : decode cX6_in 9 = .ok (.lcmp, 1) := by decide +kernel
theorem dX6_in_10 : decode cX6_in 10 = .ok (.ifCond .gt 7, 3) := by decide +kernel
theorem dX6_in_13 : decode cX6_in 13 = .ok (.iconst 1, 1) := by decide +kernel
theorem dX6_in_14 : decode cX6_in 14 = .ok (.goto 4, 3) := by decide +kernel
theorem dX6_in_17 : decode cX6_in 17 = .ok (.iconst 0, 1) := by decide +kernel
theorem dX6_in_18 : decode cX6_in 18 = .ok (.ireturn, 1) := by decide +kernel
theorem dX6_has_0 : decode cX6_has 0 = .ok (.iload_n 0, 1) := by decide +kernel
theorem dX6_has_1 : decode cX6_has 1 = .ok (.iload_n 1, 1) := by decide +kernel
theorem dX6_has_2 : decode cX6_has 2 = .ok (.ishr, 1) := by decide +kernel
theorem dX6_has_3 : decode cX6_has 3 = .ok (.iconst 1, 1) := by decide +kernel
theorem dX6_has_4 : decode cX6_has 4 = .ok (.iand, 1) := by decide +kernel
theorem dX6_has_5 : decode cX6_has 5 = .ok (.iconst 1, 1) := by decide +kernel
theorem dX6_has_6 : decode cX6_has 6 = .ok (.if_icmp .ne 7, 3) := by decide +kernel
theorem dX6_has_9 : decode cX6_has 9 = .ok (.iconst 1, 1) := by decide +kernel
theorem dX6_has_10 : decode cX6_has 10 = .ok (.goto 4, 3) := by decide +kernel
theorem dX6_has_13 : decode cX6_has 13 = .ok (.iconst 0, 1) := by decide +kernel
theorem dX6_has_14 : decode cX6_has 14 = .ok (.ireturn, 1) := by decide +kernel
theorem dX6_ones_0 : decode cX6_ones 0 = .ok (.iconst 0, 1) := by decide +kernel
theorem dX6_ones_1 : decode cX6_ones 1 = .ok (.istore_n 1, 1) := by decide +kernel
theorem dX6_ones_2 : decode cX6_ones 2 = .ok (.iconst 0, 1) := by decide +kernel
theorem dX6_ones_3 : decode cX6_ones 3 = .ok (.istore_n 2, 1) := by decide +kernel
theorem dX6_ones_4 : decode cX6_ones 4 = .ok (.iload_n 2, 1) := by decide +kernel
theorem dX6_ones_5 : decode cX6_ones 5 = .ok (.bipush 8, 2) := by decide +kernel
theorem dX6_ones_7 : decode cX6_ones 7 = .ok (.if_icmp .ge 17, 3) := by decide +kernel
theorem dX6_ones_10 : decode cX6_ones 10 = .ok (.iload_n 1, 1) := by decide +kernel
theorem dX6_ones_11 : decode cX6_ones 11 = .ok (.iload_n 0, 1) := by decide +kernel
theorem dX6_ones_12 : decode cX6_ones 12 = .ok (.iload_n 2, 1) := by decide +kernel
theorem dX6_ones_13 : decode cX6_ones 13 = .ok (.ishr, 1) := by decide +kernel
theorem dX6_ones_14 : decode cX6_ones 14 = .ok (.iconst 1, 1) := by decide +kernel
theorem dX6_ones_15 : decode cX6_ones 15 = .ok (.iand, 1) := by decide +kernel
theorem dX6_ones_16 : decode cX6_ones 16 = .ok (.iadd, 1) := by decide +kernel
theorem dX6_ones_17 : decode cX6_ones 17 = .ok (.istore_n 1, 1) := by decide +kernel
theorem dX6_ones_18 : decode cX6_ones 18 = .ok (.iinc 2 1, 3) := by decide +kernel
theorem dX6_ones_21 : decode cX6_ones 21 = .ok (.goto (-17), 3) := by decide +kernel
theorem dX6_ones_24 : decode cX6_ones 24 = .ok (.iload_n 1, 1) := by decide +kernel
theorem dX6_ones_25 : decode cX6_ones 25 = .ok (.ireturn, 1) := by decide +kernel
set_option maxRecDepth 20000 in
theorem ggX6_write_X6_in : GoodIn wsX6_write wsX6_in := goodIn_r _ [7] (by decide +kernel) (by decide +kernel)
set_option maxRecDepth 20000 in
theorem gX6_write_X6_in : GoodIn wsX6_write (va_wsS RX6 58 yX6_in wsX6_in) := goodIn_app (goodIn_of _ (by decide +kernel)) ggX6_write_X6_in
theorem dX6_write_0 : decode cX6_write 0 = .ok (.iload_n 1, 1) := by decide +kernel
theorem dX6_write_1 : decode cX6_write 1 = .ok (.i2l, 1) := by decide +kernel
theorem dX6_write_2 : decode cX6_write 2 = .ok (.lconst 0, 1) := by decide +kernel
theorem dX6_write_3 : decode cX6_write 3 = .ok (.ldc2_w 56, 3) := by decide +kernel
theorem dX6_write_6 : decode cX6_write 6 = .ok (.invokestatic 58, 3) := by decide +kernel
theorem dX6_write_9 : decode cX6_write 9 = .ok (.ifCond .ne 6, 3) := by decide +kernel
theorem dX6_write_12 : decode cX6_write 12 = .ok (.bipush (-2), 2) := by decide +kernel
theorem dX6_write_14 : decode cX6_write 14 = .ok (.ireturn, 1) := by decide +kernel
theorem dX6_write_15 : decode cX6_write 15 = .ok (.aload_n 0, 1) := by decide +kernel
theorem dX6_write_16 : decode cX6_write 16 = .ok (.getfield 62, 3) := by decide +kernel
theorem dX6_write_19 : decode cX6_write 19 = .ok (.bipush 64, 2) := by decide +kernel
theorem dX6_write_21 : decode cX6_write 21 = .ok (.if_icmp .ne 6, 3) := by decide +kernel
theorem dX6_write_24 : decode cX6_write 24 = .ok (.bipush (-4), 2) := by decide +kernel
theorem dX6_write_26 : decode cX6_write 26 = .ok (.ireturn, 1) := by decide +kernel
theorem dX6_write_27 : decode cX6_write 27 = .ok (.aload_n 0, 1) := by decide +kernel
theorem dX6_write_28 : decode cX6_write 28 = .ok (.getfield 34, 3) := by decide +kernel
theorem dX6_write_31 : decode cX6_write 31 = .ok (.aload_n 0, 1) := by decide +kernel
theorem dX6_write_32 : decode cX6_write 32 = .ok (.getfield 62, 3) := by decide +kernel
theorem dX6_write_35 : decode cX6_write 35 = .ok (.iload_n 1, 1) := by decide +kernel
theorem dX6_write_36 : decode cX6_write 36 = .ok (.iastore, 1) := by decide +kernel
theorem dX6_write_37 : decode cX6_write 37 = .ok (.aload_n 0, 1) := by decide +kernel
theorem dX6_write_38 : decode cX6_write 38 = .ok (.dup, 1) := by decide +kernel
theorem dX6_write_39 : decode cX6_write 39 = .ok (.getfield 62, 3) := by decide +kernel
theorem dX6_write_42 : decode cX6_write 42 = .ok (.iconst 1, 1) := by decide +kernel
theorem dX6_write_43 : decode cX6_write 43 = .ok (.iadd, 1) := by decide +kernel
theorem dX6_write_44 : decode cX6_write 44 = .ok (.putfield 62, 3) := by decide +kernel
theorem dX6_write_47 : decode cX6_write 47 = .ok (.aload_n 0, 1) := by decide +kernel
theorem dX6_write_48 : decode cX6_write 48 = .ok (.getfield 62, 3) := by decide +kernel
theorem dX6_write_51 : decode cX6_write 51 = .ok (.ireturn, 1) := by decide +kernel
theorem dX6_wipe_0 : decode cX6_wipe 0 = .ok (.aload_n 0, 1) := by decide +kernel
theorem dX6_wipe_1 : decode cX6_wipe 1 = .ok (.getfield 62, 3) := by decide +kernel
theorem dX6_wipe_4 : decode cX6_wipe 4 = .ok (.istore_n 1, 1) := by decide +kernel
theorem dX6_wipe_5 : decode cX6_wipe 5 = .ok (.aload_n 0, 1) := by decide +kernel
theorem dX6_wipe_6 : decode cX6_wipe 6 = .ok (.iconst 0, 1) := by decide +kernel
theorem dX6_wipe_7 : decode cX6_wipe 7 = .ok (.putfield 62, 3) := by decide +kernel
theorem dX6_wipe_10 : decode cX6_wipe 10 = .ok (.iload_n 1, 1) := by decide +kernel
theorem dX6_wipe_11 : decode cX6_wipe 11 = .ok (.ireturn, 1) := by decide +kernel
set_option maxRecDepth 20000 in
theorem ggX6_figureUpTo_X6_in : GoodIn wsX6_figureUpTo wsX6_in := goodIn_r _ [8] (by decide +kernel) (by decide +kernel)
set_option maxRecDepth 20000 in
theorem gX6_figureUpTo_X6_in : GoodIn wsX6_figureUpTo (va_wsS RX6 58 yX6_in wsX6_in) := goodIn_app (goodIn_of _ (by decide +kernel)) ggX6_figureUpTo_X6_in
theorem dX6_figureUpTo_0 : decode cX6_figureUpTo 0 = .ok (.aload_n 0, 1) := by decide +kernel
theorem dX6_figureUpTo_1 : decode cX6_figureUpTo 1 = .ok (.getfield 66, 3) := by decide +kernel
theorem dX6_figureUpTo_4 : decode cX6_figureUpTo 4 = .ok (.bipush (-9), 2) := by decide +kernel
theorem dX6_figureUpTo_6 : decode cX6_figureUpTo 6 = .ok (.if_icmp .ne 40, 3) := by decide +kernel
theorem dX6_figureUpTo_9 : decode cX6_figureUpTo 9 = .ok (.aload_n 0, 1) := by decide +kernel
theorem dX6_figureUpTo_10 : decode cX6_figureUpTo 10 = .ok (.getfield 69, 3) := by decide +kernel
theorem dX6_figureUpTo_13 : decode cX6_figureUpTo 13 = .ok (.aload_n 0, 1) := by decide +kernel
theorem dX6_figureUpTo_14 : decode cX6_figureUpTo 14 = .ok (.getfield 62, 3) := by decide +kernel
theorem dX6_figureUpTo_17 : decode cX6_figureUpTo 17 = .ok (.if_icmp .ge 29, 3) := by decide +kernel
theorem dX6_figureUpTo_20 : decode cX6_figureUpTo 20 = .ok (.aload_n 0, 1) := by decide +kernel
theorem dX6_figureUpTo_21 : decode cX6_figureUpTo 21 = .ok (.getfield 34, 3) := by decide +kernel
theorem dX6_figureUpTo_24 : decode cX6_figureUpTo 24 = .ok (.aload_n 0, 1) := by decide +kernel
theorem dX6_figureUpTo_25 : decode cX6_figureUpTo 25 = .ok (.getfield 69, 3) := by decide +kernel
theorem dX6_figureUpTo_28 : decode cX6_figureUpTo 28 = .ok (.iaload, 1) := by decide +kernel
theorem dX6_figureUpTo_29 : decode cX6_figureUpTo 29 = .ok (.bipush 48, 2) := by decide +kernel
theorem dX6_figureUpTo_31 : decode cX6_figureUpTo 31 = .ok (.isub, 1) := by decide +kernel
theorem dX6_figureUpTo_32 : decode cX6_figureUpTo 32 = .ok (.i2l, 1) := by decide +kernel
theorem dX6_figureUpTo_33 : decode cX6_figureUpTo 33 = .ok (.lconst 0, 1) := by decide +kernel
theorem dX6_figureUpTo_34 : decode cX6_figureUpTo 34 = .ok (.iload_n 1, 1) := by decide +kernel
theorem dX6_figureUpTo_35 : decode cX6_figureUpTo 35 = .ok (.i2l, 1) := by decide +kernel
theorem dX6_figureUpTo_36 : decode cX6_figureUpTo 36 = .ok (.invokestatic 58, 3) := by decide +kernel
theorem dX6_figureUpTo_39 : decode cX6_figureUpTo 39 = .ok (.ifCond .eq 7, 3) := by decide +kernel
theorem dX6_figureUpTo_42 : decode cX6_figureUpTo 42 = .ok (.iconst 1, 1) := by decide +kernel
theorem dX6_figureUpTo_43 : decode cX6_figureUpTo 43 = .ok (.goto 4, 3) := by decide +kernel
theorem dX6_figureUpTo_46 : decode cX6_figureUpTo 46 = .ok (.iconst 0, 1) := by decide +kernel
theorem dX6_figureUpTo_47 : decode cX6_figureUpTo 47 = .ok (.istore_n 2, 1) := by decide +kernel
theorem dX6_figureUpTo_48 : decode cX6_figureUpTo 48 = .ok (.iload_n 2, 1) := by decide +kernel
theorem dX6_figureUpTo_49 : decode cX6_figureUpTo 49 = .ok (.ifCond .ne 29, 3) := by decide +kernel
theorem dX6_figureUpTo_52 : decode cX6_figureUpTo 52 = .ok (.aload_n 0, 1) := by decide +kernel
theorem dX6_figureUpTo_53 : decode cX6_figureUpTo 53 = .ok (.aload_n 0, 1) := by decide +kernel
theorem dX6_figureUpTo_54 : decode cX6_figureUpTo 54 = .ok (.getfield 66, 3) := by decide +kernel
theorem dX6_figureUpTo_57 : decode cX6_figureUpTo 57 = .ok (.bipush (-9), 2) := by decide +kernel
theorem dX6_figureUpTo_59 : decode cX6_figureUpTo 59 = .ok (.if_icmp .ne 10, 3) := by decide +kernel
theorem dX6_figureUpTo_62 : decode cX6_figureUpTo 62 = .ok (.aload_n 0, 1) := by decide +kernel
theorem dX6_figureUpTo_63 : decode cX6_figureUpTo 63 = .ok (.getfield 69, 3) := by decide +kernel
theorem dX6_figureUpTo_66 : decode cX6_figureUpTo 66 = .ok (.goto 7, 3) := by decide +kernel
theorem dX6_figureUpTo_69 : decode cX6_figureUpTo 69 = .ok (.aload_n 0, 1) := by decide +kernel
theorem dX6_figureUpTo_70 : decode cX6_figureUpTo 70 = .ok (.getfield 66, 3) := by decide +kernel
theorem dX6_figureUpTo_73 : decode cX6_figureUpTo 73 = .ok (.putfield 66, 3) := by decide +kernel
theorem dX6_figureUpTo_76 : decode cX6_figureUpTo 76 = .ok (.iconst 0, 1) := by decide +kernel
theorem dX6_figureUpTo_77 : decode cX6_figureUpTo 77 = .ok (.ireturn, 1) := by decide +kernel
theorem dX6_figureUpTo_78 : decode cX6_figureUpTo 78 = .ok (.aload_n 0, 1) := by decide +kernel
theorem dX6_figureUpTo_79 : decode cX6_figureUpTo 79 = .ok (.dup, 1) := by decide +kernel
theorem dX6_figureUpTo_80 : decode cX6_figureUpTo 80 = .ok (.getfield 69, 3) := by decide +kernel
theorem dX6_figureUpTo_83 : decode cX6_figureUpTo 83 = .ok (.iconst 1, 1) := by decide +kernel
theorem dX6_figureUpTo_84 : decode cX6_figureUpTo 84 = .ok (.iadd, 1) := by decide +kernel
theorem dX6_figureUpTo_85 : decode cX6_figureUpTo 85 = .ok (.putfield 69, 3) := by decide +kernel
theorem dX6_figureUpTo_88 : decode cX6_figureUpTo 88 = .ok (.aload_n 0, 1) := by decide +kernel
theorem dX6_figureUpTo_89 : decode cX6_figureUpTo 89 = .ok (.getfield 34, 3) := by decide +kernel
theorem dX6_figureUpTo_92 : decode cX6_figureUpTo 92 = .ok (.aload_n 0, 1) := by decide +kernel
theorem dX6_figureUpTo_93 : decode cX6_figureUpTo 93 = .ok (.getfield 69, 3) := by decide +kernel
theorem dX6_figureUpTo_96 : decode cX6_figureUpTo 96 = .ok (.iconst 1, 1) := by decide +kernel
theorem dX6_figureUpTo_97 : decode cX6_figureUpTo 97 = .ok (.isub, 1) := by decide +kernel
theorem dX6_figureUpTo_98 : decode cX6_figureUpTo 98 = .ok (.iaload, 1) := by decide +kernel
theorem dX6_figureUpTo_99 : decode cX6_figureUpTo 99 = .ok (.bipush 48, 2) := by decide +kernel
theorem dX6_figureUpTo_101 : decode cX6_figureUpTo 101 = .ok (.isub, 1) := by decide +kernel
theorem dX6_figureUpTo_102 : decode cX6_figureUpTo 102 = .ok (.ireturn, 1) := by decide +kernel
set_option maxRecDepth 20000 in
theorem ggX6_readText_X6_readPart : GoodIn wsX6_readText wsX6_readPart := goodIn_r _ [12, 3, 1, 13, 4, 14, 5, 15, 2, 16, 17, 18, 11, 19, 6, 7, 20, 21, 22, 23, 24, 25, 26, 27, 28, 29, 30, 31, 32, 33, 34, 35, 36, 37, 38, 39, 40, 41, 42, 43, 44, 45, 46, 47, 48, 49, 50] (by decide +kernel) (by decide +kernel)
set_option maxRecDepth 20000 in
theorem gX6_readText_X6_readPart : GoodIn wsX6_readText (wsV RX6 81 RX6 yX6_readPart wsX6_readPart) := goodIn_app (goodIn_of _ (by decide +kernel)) ggX6_readText_X6_readPart
theorem dX6_readText_0 : decode cX6_readText 0 = .ok (.aload_n 0, 1) := by decide +kernel
theorem dX6_readText_1 : decode cX6_readText 1 = .ok (.iconst 0, 1) := by decide +kernel
theorem dX6_readText_2 : decode cX6_readText 2 = .ok (.putfield 69, 3) := by decide +kernel
theorem dX6_readText_5 : decode cX6_readText 5 = .ok (.aload_n 0, 1) := by decide +kernel
theorem dX6_readText_6 : decode cX6_readText 6 = .ok (.bipush (-9), 2) := by decide +kernel
theorem dX6_readText_8 : decode cX6_readText 8 = .ok (.putfield 66, 3) := by decide +kernel
theorem dX6_readText_11 : decode cX6_readText 11 = .ok (.aload_n 0, 1) := by decide +kernel
theorem dX6_readText_12 : decode cX6_readText 12 = .ok (.iconst 0, 1) := by decide +kernel
theorem dX6_readText_13 : decode cX6_readText 13 = .ok (.putfield 72, 3) := by decide +kernel
theorem dX6_readText_16 : decode cX6_readText 16 = .ok (.aload_n 0, 1) := by decide +kernel
theorem dX6_readText_17 : decode cX6_readText 17 = .ok (.iconst 0, 1) := by decide +kernel
theorem dX6_readText_18 : decode cX6_readText 18 = .ok (.putfield 75, 3) := by decide +kernel
theorem dX6_readText_21 : decode cX6_readText 21 = .ok (.aload_n 0, 1) := by decide +kernel
theorem dX6_readText_22 : decode cX6_readText 22 = .ok (.iconst 0, 1) := by decide +kernel
theorem dX6_readText_23 : decode cX6_readText 23 = .ok (.putfield 78, 3) := by decide +kernel
theorem dX6_readText_26 : decode cX6_readText 26 = .ok (.aload_n 0, 1) := by decide +kernel
theorem dX6_readText_27 : decode cX6_readText 27 = .ok (.getfield 62, 3) := by decide +kernel
theorem dX6_readText_30 : decode cX6_readText 30 = .ok (.ifCond .eq 14, 3) := by decide +kernel
theorem dX6_readText_33 : decode cX6_readText 33 = .ok (.aload_n 0, 1) := by decide +kernel
theorem dX6_readText_34 : decode cX6_readText 34 = .ok (.getfield 34, 3) := by decide +kernel
theorem dX6_readText_37 : decode cX6_readText 37 = .ok (.iconst 0, 1) := by decide +kernel
theorem dX6_readText_38 : decode cX6_readText 38 = .ok (.iaload, 1) := by decide +kernel
theorem dX6_readText_39 : decode cX6_readText 39 = .ok (.bipush 69, 2) := by decide +kernel
theorem dX6_readText_41 : decode cX6_readText 41 = .ok (.if_icmp .eq 5, 3) := by decide +kernel
theorem dX6_readText_44 : decode cX6_readText 44 = .ok (.iconst 0, 1) := by decide +kernel
theorem dX6_readText_45 : decode cX6_readText 45 = .ok (.ireturn, 1) := by decide +kernel
theorem dX6_readText_46 : decode cX6_readText 46 = .ok (.aload_n 0, 1) := by decide +kernel
theorem dX6_readText_47 : decode cX6_readText 47 = .ok (.iconst 1, 1) := by decide +kernel
theorem dX6_readText_48 : decode cX6_readText 48 = .ok (.putfield 69, 3) := by decide +kernel
theorem dX6_readText_51 : decode cX6_readText 51 = .ok (.aload_n 0, 1) := by decide +kernel
theorem dX6_readText_52 : decode cX6_readText 52 = .ok (.getfield 66, 3) := by decide +kernel
theorem dX6_readText_55 : decode cX6_readText 55 = .ok (.bipush (-9), 2) := by decide +kernel
theorem dX6_readText_57 : decode cX6_readText 57 = .ok (.if_icmp .ne 30, 3) := by decide +kernel
theorem dX6_readText_60 : decode cX6_readText 60 = .ok (.aload_n 0, 1) := by decide +kernel
theorem dX6_readText_61 : decode cX6_readText 61 = .ok (.getfield 69, 3) := by decide +kernel
theorem dX6_readText_64 : decode cX6_readText 64 = .ok (.aload_n 0, 1) := by decide +kernel
theorem dX6_readText_65 : decode cX6_readText 65 = .ok (.getfield 62, 3) := by decide +kernel
theorem dX6_readText_68 : decode cX6_readText 68 = .ok (.if_icmp .ge 19, 3) := by decide +kernel
theorem dX6_readText_71 : decode cX6_readText 71 = .ok (.aload_n 0, 1) := by decide +kernel
theorem dX6_readText_72 : decode cX6_readText 72 = .ok (.aload_n 0, 1) := by decide +kernel
theorem dX6_readText_73 : decode cX6_readText 73 = .ok (.getfield 34, 3) := by decide +kernel
theorem dX6_readText_76 : decode cX6_readText 76 = .ok (.aload_n 0, 1) := by decide +kernel
theorem dX6_readText_77 : decode cX6_readText 77 = .ok (.getfield 69, 3) := by decide +kernel
theorem dX6_readText_80 : decode cX6_readText 80 = .ok (.iaload, 1) := by decide +kernel
theorem dX6_readText_81 : decode cX6_readText 81 = .ok (.invokevirtual 81, 3) := by decide +kernel
theorem dX6_readText_84 : decode cX6_readText 84 = .ok (.goto (-33), 3) := by decide +kernel
theorem dX6_readText_87 : decode cX6_readText 87 = .ok (.aload_n 0, 1) := by decide +kernel
theorem dX6_readText_88 : decode cX6_readText 88 = .ok (.getfield 66, 3) := by decide +kernel
theorem dX6_readText_91 : decode cX6_readText 91 = .ok (.ireturn, 1) := by decide +kernel
set_option maxRecDepth 20000 in
theorem ggX6_readPart_X6_figureUpTo : GoodIn wsX6_readPart wsX6_figureUpTo := goodIn_r _ [13, 8, 2, 14, 15, 16, 17, 12, 18, 19, 20, 21, 22, 23, 24, 25, 26, 27, 28, 29, 30, 31, 32, 33, 34, 35, 36, 37, 38, 39, 40, 41, 42, 43, 44, 45, 46] (by decide +kernel) (by decide +kernel)
set_option maxRecDepth 20000 in
theorem gX6_readPart_X6_figureUpTo : GoodIn wsX6_readPart (wsV RX6 85 RX6 yX6_figureUpTo wsX6_figureUpTo) := goodIn_app (goodIn_of _ (by decide +kernel)) ggX6_readPart_X6_figureUpTo
theorem dX6_readPart_0 : decode cX6_readPart 0 = .ok (.iload_n 1, 1) := by decide +kernel
theorem dX6_readPart_1 : decode cX6_readPart 1 = .ok (.bipush 72, 2) := by decide +kernel
theorem dX6_readPart_3 : decode cX6_readPart 3 = .ok (.if_icmp .ne 69, 3) := by decide +kernel
theorem dX6_readPart_6 : decode cX6_readPart 6 = .ok (.aload_n 0, 1) := by decide +kernel
theorem dX6_readPart_7 : decode cX6_readPart 7 = .ok (.getfield 72, 3) := by decide +kernel
theorem dX6_readPart_10 : decode cX6_readPart 10 = .ok (.iconst 5, 1) := by decide +kernel
theorem dX6_readPart_11 : decode cX6_readPart 11 = .ok (.if_icmp .ge 61, 3) := by decide +kernel
theorem dX6_readPart_14 : decode cX6_readPart 14 = .ok (.aload_n 0, 1) := by decide +kernel
theorem dX6_readPart_15 : decode cX6_readPart 15 = .ok (.dup, 1) := by decide +kernel
theorem dX6_readPart_16 : decode cX6_readPart 16 = .ok (.getfield 69, 3) := by decide +kernel
theorem dX6_readPart_19 : decode cX6_readPart 19 = .ok (.iconst 1, 1) := by decide +kernel
theorem dX6_readPart_20 : decode cX6_readPart 20 = .ok (.iadd, 1) := by decide +kernel
theorem dX6_readPart_21 : decode cX6_readPart 21 = .ok (.putfield 69, 3) := by decide +kernel
theorem dX6_readPart_24 : decode cX6_readPart 24 = .ok (.aload_n 0, 1) := by decide +kernel
theorem dX6_readPart_25 : decode cX6_readPart 25 = .ok (.getfield 25, 3) := by decide +kernel
theorem dX6_readPart_28 : decode cX6_readPart 28 = .ok (.iconst 2, 1) := by decide +kernel
theorem dX6_readPart_29 : decode cX6_readPart 29 = .ok (.aload_n 0, 1) := by decide +kernel
theorem dX6_readPart_30 : decode cX6_readPart 30 = .ok (.getfield 72, 3) := by decide +kernel
theorem dX6_readPart_33 : decode cX6_readPart 33 = .ok (.imul, 1) := by decide +kernel
theorem dX6_readPart_34 : decode cX6_readPart 34 = .ok (.aload_n 0, 1) := by decide +kernel
theorem dX6_readPart_35 : decode cX6_readPart 35 = .ok (.iconst 3, 1) := by decide +kernel
theorem dX6_readPart_36 : decode cX6_readPart 36 = .ok (.invokevirtual 85, 3) := by decide +kernel
theorem dX6_readPart_39 : decode cX6_readPart 39 = .ok (.iastore, 1) := by decide +kernel
theorem dX6_readPart_40 : decode cX6_readPart 40 = .ok (.aload_n 0, 1) := by decide +kernel
theorem dX6_readPart_41 : decode cX6_readPart 41 = .ok (.getfield 25, 3) := by decide +kernel
theorem dX6_readPart_44 : decode cX6_readPart 44 = .ok (.iconst 2, 1) := by decide +kernel
theorem dX6_readPart_45 : decode cX6_readPart 45 = .ok (.aload_n 0, 1) := by decide +kernel
theorem dX6_readPart_46 : decode cX6_readPart 46 = .ok (.getfield 72, 3) := by decide +kernel
theorem dX6_readPart_49 : decode cX6_readPart 49 = .ok (.imul, 1) := by decide +kernel
theorem dX6_readPart_50 : decode cX6_readPart 50 = .ok (.iconst 1, 1) := by decide +kernel
theorem dX6_readPart_51 : decode cX6_readPart 51 = .ok (.iadd, 1) := by decide +kernel
theorem dX6_readPart_52 : decode cX6_readPart 52 = .ok (.aload_n 0, 1) := by decide +kernel
theorem dX6_readPart_53 : decode cX6_readPart 53 = .ok (.bipush 9, 2) := by decide +kernel
theorem dX6_readPart_55 : decode cX6_readPart 55 = .ok (.invokevirtual 85, 3) := by decide +kernel
theorem dX6_readPart_58 : decode cX6_readPart 58 = .ok (.iastore, 1) := by decide +kernel
theorem dX6_readPart_59 : decode cX6_readPart 59 = .ok (.aload_n 0, 1) := by decide +kernel
theorem dX6_readPart_60 : decode cX6_readPart 60 = .ok (.dup, 1) := by decide +kernel
theorem dX6_readPart_61 : decode cX6_readPart 61 = .ok (.getfield 72, 3) := by decide +kernel
theorem dX6_readPart_64 : decode cX6_readPart 64 = .ok (.iconst 1, 1) := by decide +kernel
theorem dX6_readPart_65 : decode cX6_readPart 65 = .ok (.iadd, 1) := by decide +kernel
theorem dX6_readPart_66 : decode cX6_readPart 66 = .ok (.putfield 72, 3) := by decide +kernel
theorem dX6_readPart_69 : decode cX6_readPart 69 = .ok (.goto 166, 3) := by decide +kernel
theorem dX6_readPart_72 : decode cX6_readPart 72 = .ok (.iload_n 1, 1) := by decide +kernel
theorem dX6_readPart_73 : decode cX6_readPart 73 = .ok (.bipush 83, 2) := by decide +kernel
theorem dX6_readPart_75 : decode cX6_readPart 75 = .ok (.if_icmp .ne 100, 3) := by decide +kernel
theorem dX6_readPart_78 : decode cX6_readPart 78 = .ok (.aload_n 0, 1) := by decide +kernel
theorem dX6_readPart_79 : decode cX6_readPart 79 = .ok (.getfield 75, 3) := by decide +kernel
theorem dX6_readPart_82 : decode cX6_readPart 82 = .ok (.bipush 8, 2) := by decide +kernel
theorem dX6_readPart_84 : decode cX6_readPart 84 = .ok (.if_icmp .ge 91, 3) := by decide +kernel
theorem dX6_readPart_87 : decode cX6_readPart 87 = .ok (.aload_n 0, 1) := by decide +kernel
theorem dX6_readPart_88 : decode cX6_readPart 88 = .ok (.getfield 72, 3) := by decide +kernel
theorem dX6_readPart_91 : decode cX6_readPart 91 = .ok (.ifCond .le 84, 3) := by decide +kernel
theorem dX6_readPart_94 : decode cX6_readPart 94 = .ok (.aload_n 0, 1) := by decide +kernel
theorem dX6_readPart_95 : decode cX6_readPart 95 = .ok (.dup, 1) := by decide +kernel
theorem dX6_readPart_96 : decode cX6_readPart 96 = .ok (.getfield 69, 3) := by decide +kernel
theorem dX6_readPart_99 : decode cX6_readPart 99 = .ok (.iconst 1, 1) := by decide +kernel
theorem dX6_readPart_100 : decode cX6_readPart 100 = .ok (.iadd, 1) := by decide +kernel
theorem dX6_readPart_101 : decode cX6_readPart 101 = .ok (.putfield 69, 3) := by decide +kernel
theorem dX6_readPart_104 : decode cX6_readPart 104 = .ok (.aload_n 0, 1) := by decide +kernel
theorem dX6_readPart_105 : decode cX6_readPart 105 = .ok (.getfield 28, 3) := by decide +kernel
theorem dX6_readPart_108 : decode cX6_readPart 108 = .ok (.iconst 3, 1) := by decide +kernel
theorem dX6_readPart_109 : decode cX6_readPart 109 = .ok (.aload_n 0, 1) := by decide +kernel
theorem dX6_readPart_110 : decode cX6_readPart 110 = .ok (.getfield 75, 3) := by decide +kernel
theorem dX6_readPart_113 : decode cX6_readPart 113 = .ok (.imul, 1) := by decide +kernel
theorem dX6_readPart_114 : decode cX6_readPart 114 = .ok (.aload_n 0, 1) := by decide +kernel
theorem dX6_readPart_115 : decode cX6_readPart 115 = .ok (.aload_n 0, 1) := by decide +kernel
theorem dX6_readPart_116 : decode cX6_readPart 116 = .ok (.getfield 72, 3) := by decide +kernel
theorem dX6_readPart_119 : decode cX6_readPart 119 = .ok (.iconst 1, 1) := by decide +kernel
theorem dX6_readPart_120 : decode cX6_readPart 120 = .ok (.isub, 1) := by decide +kernel
theorem dX6_readPart_121 : decode cX6_readPart 121 = .ok (.invokevirtual 85, 3) := by decide +kernel
theorem dX6_readPart_124 : decode cX6_readPart 124 = .ok (.iastore, 1) := by decide +kernel
theorem dX6_readPart_125 : decode cX6_readPart 125 = .ok (.aload_n 0, 1) := by decide +kernel
theorem dX6_readPart_126 : decode cX6_readPart 126 = .ok (.getfield 28, 3) := by decide +kernel
theorem dX6_readPart_129 : decode cX6_readPart 129 = .ok (.iconst 3, 1) := by decide +kernel
theorem dX6_readPart_130 : decode cX6_readPart 130 = .ok (.aload_n 0, 1) := by decide +kernel
theorem dX6_readPart_131 : decode cX6_readPart 131 = .ok (.getfield 75, 3) := by decide +kernel
theorem dX6_readPart_134 : decode cX6_readPart 134 = .ok (.imul, 1) := by decide +kernel
theorem dX6_readPart_135 : decode cX6_readPart 135 = .ok (.iconst 1, 1) := by decide +kernel
theorem dX6_readPart_136 : decode cX6_readPart 136 = .ok (.iadd, 1) := by decide +kernel
theorem dX6_readPart_137 : decode cX6_readPart 137 = .ok (.aload_n 0, 1) := by decide +kernel
theorem dX6_readPart_138 : decode cX6_readPart 138 = .ok (.iconst 5, 1) := by decide +kernel
theorem dX6_readPart_139 : decode cX6_readPart 139 = .ok (.invokevirtual 85, 3) := by decide +kernel
theorem dX6_readPart_142 : decode cX6_readPart 142 = .ok (.iastore, 1) := by decide +kernel
theorem dX6_readPart_143 : decode cX6_readPart 143 = .ok (.aload_n 0, 1) := by decide +kernel
theorem dX6_readPart_144 : decode cX6_readPart 144 = .ok (.getfield 28, 3) := by decide +kernel
theorem dX6_readPart_147 : decode cX6_readPart 147 = .ok (.iconst 3, 1) := by decide +kernel
theorem dX6_readPart_148 : decode cX6_readPart 148 = .ok (.aload_n 0, 1) := by decide +kernel
theorem dX6_readPart_149 : decode cX6_readPart 149 = .ok (.getfield 75, 3) := by decide +kernel
theorem dX6_readPart_152 : decode cX6_readPart 152 = .ok (.imul, 1) := by decide +kernel
theorem dX6_readPart_153 : decode cX6_readPart 153 = .ok (.iconst 2, 1) := by decide +kernel
theorem dX6_readPart_154 : decode cX6_readPart 154 = .ok (.iadd, 1) := by decide +kernel
theorem dX6_readPart_155 : decode cX6_readPart 155 = .ok (.aload_n 0, 1) := by decide +kernel
theorem dX6_readPart_156 : decode cX6_readPart 156 = .ok (.bipush 9, 2) := by decide +kernel
theorem dX6_readPart_158 : decode cX6_readPart 158 = .ok (.invokevirtual 85, 3) := by decide +kernel
theorem dX6_readPart_161 : decode cX6_readPart 161 = .ok (.iastore, 1) := by decide +kernel
theorem dX6_readPart_162 : decode cX6_readPart 162 = .ok (.aload_n 0, 1) := by decide +kernel
theorem dX6_readPart_163 : decode cX6_readPart 163 = .ok (.dup, 1) := by decide +kernel
theorem dX6_readPart_164 : decode cX6_readPart 164 = .ok (.getfield 75, 3) := by decide +kernel
theorem dX6_readPart_167 : decode cX6_readPart 167 = .ok (.iconst 1, 1) := by decide +kernel
theorem dX6_readPart_168 : decode cX6_readPart 168 = .ok (.iadd, 1) := by decide +kernel
theorem dX6_readPart_169 : decode cX6_readPart 169 = .ok (.putfield 75, 3) := by decide +kernel
theorem dX6_readPart_172 : decode cX6_readPart 172 = .ok (.goto 63, 3) := by decide +kernel
theorem dX6_readPart_175 : decode cX6_readPart 175 = .ok (.iload_n 1, 1) := by decide +kernel
theorem dX6_readPart_176 : decode cX6_readPart 176 = .ok (.bipush 82, 2) := by decide +kernel
theorem dX6_readPart_178 : decode cX6_readPart 178 = .ok (.if_icmp .ne 49, 3) := by decide +kernel
theorem dX6_readPart_181 : decode cX6_readPart 181 = .ok (.aload_n 0, 1) := by decide +kernel
theorem dX6_readPart_182 : decode cX6_readPart 182 = .ok (.getfield 78, 3) := by decide +kernel
theorem dX6_readPart_185 : decode cX6_readPart 185 = .ok (.iconst 4, 1) := by decide +kernel
theorem dX6_readPart_186 : decode cX6_readPart 186 = .ok (.if_icmp .ge 41, 3) := by decide +kernel
theorem dX6_readPart_189 : decode cX6_readPart 189 = .ok (.aload_n 0, 1) := by decide +kernel
theorem dX6_readPart_190 : decode cX6_readPart 190 = .ok (.dup, 1) := by decide +kernel
theorem dX6_readPart_191 : decode cX6_readPart 191 = .ok (.getfield 69, 3) := by decide +kernel
theorem dX6_readPart_194 : decode cX6_readPart 194 = .ok (.iconst 1, 1) := by decide +kernel
theorem dX6_readPart_195 : decode cX6_readPart 195 = .ok (.iadd, 1) := by decide +kernel
theorem dX6_readPart_196 : decode cX6_readPart 196 = .ok (.putfield 69, 3) := by decide +kernel
theorem dX6_readPart_199 : decode cX6_readPart 199 = .ok (.aload_n 0, 1) := by decide +kernel
theorem dX6_readPart_200 : decode cX6_readPart 200 = .ok (.getfield 31, 3) := by decide +kernel
theorem dX6_readPart_203 : decode cX6_readPart 203 = .ok (.aload_n 0, 1) := by decide +kernel
theorem dX6_readPart_204 : decode cX6_readPart 204 = .ok (.getfield 78, 3) := by decide +kernel
theorem dX6_readPart_207 : decode cX6_readPart 207 = .ok (.aload_n 0, 1) := by decide +kernel
theorem dX6_readPart_208 : decode cX6_readPart 208 = .ok (.bipush 9, 2) := by decide +kernel
theorem dX6_readPart_210 : decode cX6_readPart 210 = .ok (.invokevirtual 85, 3) := by decide +kernel
theorem dX6_readPart_213 : decode cX6_readPart 213 = .ok (.iastore, 1) := by decide +kernel
theorem dX6_readPart_214 : decode cX6_readPart 214 = .ok (.aload_n 0, 1) := by decide +kernel
theorem dX6_readPart_215 : decode cX6_readPart 215 = .ok (.dup, 1) := by decide +kernel
theorem dX6_readPart_216 : decode cX6_readPart 216 = .ok (.getfield 78, 3) := by decide +kernel
theorem dX6_readPart_219 : decode cX6_readPart 219 = .ok (.iconst 1, 1) := by decide +kernel
theorem dX6_readPart_220 : decode cX6_readPart 220 = .ok (.iadd, 1) := by decide +kernel
theorem dX6_readPart_221 : decode cX6_readPart 221 = .ok (.putfield 78, 3) := by decide +kernel
theorem dX6_readPart_224 : decode cX6_readPart 224 = .ok (.goto 11, 3) := by decide +kernel
theorem dX6_readPart_227 : decode cX6_readPart 227 = .ok (.aload_n 0, 1) := by decide +kernel
theorem dX6_readPart_228 : decode cX6_readPart 228 = .ok (.aload_n 0, 1) := by decide +kernel
theorem dX6_readPart_229 : decode cX6_readPart 229 = .ok (.getfield 69, 3) := by decide +kernel
theorem dX6_readPart_232 : decode cX6_readPart 232 = .ok (.putfield 66, 3) := by decide +kernel
theorem dX6_readPart_235 : decode cX6_readPart 235 = .ok (.return_, 1) := by decide +kernel
set_option maxRecDepth 20000 in
theorem ggX6_fault_X6_readText : GoodIn wsX6_fault wsX6_readText := goodIn_r _ [5, 6, 7, 8, 9, 10, 11, 12, 13, 14, 15, 4, 16, 17, 18, 19, 20, 21, 22, 23, 24, 25, 26, 27, 28, 29, 30, 31, 32, 33, 34, 35, 36, 37, 38, 39, 40, 41, 42, 43, 44, 45, 46, 47, 48, 49, 50, 51, 52, 53, 54] (by decide +kernel) (by decide +kernel)
set_option maxRecDepth 20000 in
theorem gX6_fault_X6_readText : GoodIn wsX6_fault (wsV RX6 89 RX6 yX6_readText wsX6_readText) := goodIn_app (goodIn_of _ (by decide +kernel)) ggX6_fault_X6_readText
theorem dX6_fault_0 : decode cX6_fault 0 = .ok (.aload_n 0, 1) := by decide +kernel
theorem dX6_fault_1 : decode cX6_fault 1 = .ok (.invokevirtual 89, 3) := by decide +kernel
theorem dX6_fault_4 : decode cX6_fault 4 = .ok (.ireturn, 1) := by decide +kernel
set_option maxRecDepth 20000 in
theorem ggX6_lane_X6_readText : GoodIn wsX6_lane wsX6_readText := goodIn_r _ [21, 22, 23, 1, 3, 5, 24, 25, 26, 27, 28, 20, 29, 9, 12, 14, 30, 31, 32, 33, 34, 35, 36, 37, 38, 39, 40, 41, 42, 43, 44, 45, 46, 47, 48, 49, 50, 51, 52, 53, 54, 55, 56, 57, 58, 59, 60, 61, 62, 63, 64] (by decide +kernel) (by decide +kernel)
set_option maxRecDepth 20000 in
theorem gX6_lane_X6_readText : GoodIn wsX6_lane (wsV RX6 89 RX6 yX6_readText wsX6_readText) := goodIn_app (goodIn_of _ (by decide +kernel)) ggX6_lane_X6_readText
theorem dX6_lane_0 : decode cX6_lane 0 = .ok (.aload_n 0, 1) := by decide +kernel
theorem dX6_lane_1 : decode cX6_lane 1 = .ok (.invokevirtual 89, 3) := by decide +kernel
theorem dX6_lane_4 : decode cX6_lane 4 = .ok (.bipush (-9), 2) := by decide +kernel
theorem dX6_lane_6 : decode cX6_lane 6 = .ok (.if_icmp .eq 6, 3) := by decide +kernel
theorem dX6_lane_9 : decode cX6_lane 9 = .ok (.bipush (-3), 2) := by decide +kernel
theorem dX6_lane_11 : decode cX6_lane 11 = .ok (.ireturn, 1) := by decide +kernel
theorem dX6_lane_12 : decode cX6_lane 12 = .ok (.aload_n 0, 1) := by decide +kernel
theorem dX6_lane_13 : decode cX6_lane 13 = .ok (.aload_n 0, 1) := by decide +kernel
theorem dX6_lane_14 : decode cX6_lane 14 = .ok (.getfield 72, 3) := by decide +kernel
theorem dX6_lane_17 : decode cX6_lane 17 = .ok (.putfield 93, 3) := by decide +kernel
theorem dX6_lane_20 : decode cX6_lane 20 = .ok (.aload_n 0, 1) := by decide +kernel
theorem dX6_lane_21 : decode cX6_lane 21 = .ok (.aload_n 0, 1) := by decide +kernel
theorem dX6_lane_22 : decode cX6_lane 22 = .ok (.getfield 75, 3) := by decide +kernel
theorem dX6_lane_25 : decode cX6_lane 25 = .ok (.putfield 96, 3) := by decide +kernel
theorem dX6_lane_28 : decode cX6_lane 28 = .ok (.aload_n 0, 1) := by decide +kernel
theorem dX6_lane_29 : decode cX6_lane 29 = .ok (.aload_n 0, 1) := by decide +kernel
theorem dX6_lane_30 : decode cX6_lane 30 = .ok (.getfield 78, 3) := by decide +kernel
theorem dX6_lane_33 : decode cX6_lane 33 = .ok (.putfield 99, 3) := by decide +kernel
theorem dX6_lane_36 : decode cX6_lane 36 = .ok (.iconst 0, 1) := by decide +kernel
theorem dX6_lane_37 : decode cX6_lane 37 = .ok (.istore_n 1, 1) := by decide +kernel
theorem dX6_lane_38 : decode cX6_lane 38 = .ok (.iload_n 1, 1) := by decide +kernel
theorem dX6_lane_39 : decode cX6_lane 39 = .ok (.bipush 17, 2) := by decide +kernel
theorem dX6_lane_41 : decode cX6_lane 41 = .ok (.if_icmp .ge 25, 3) := by decide +kernel
theorem dX6_lane_44 : decode cX6_lane 44 = .ok (.aload_n 0, 1) := by decide +kernel
theorem dX6_lane_45 : decode cX6_lane 45 = .ok (.getfield 22, 3) := by decide +kernel
theorem dX6_lane_48 : decode cX6_lane 48 = .ok (.iload_n 1, 1) := by decide +kernel
theorem dX6_lane_49 : decode cX6_lane 49 = .ok (.iload_n 1, 1) := by decide +kernel
theorem dX6_lane_50 : decode cX6_lane 50 = .ok (.iconst 5, 1) := by decide +kernel
theorem dX6_lane_51 : decode cX6_lane 51 = .ok (.if_icmp .ge 7, 3) := by decide +kernel
theorem dX6_lane_54 : decode cX6_lane 54 = .ok (.iload_n 1, 1) := by decide +kernel
theorem dX6_lane_55 : decode cX6_lane 55 = .ok (.goto 4, 3) := by decide +kernel
theorem dX6_lane_58 : decode cX6_lane 58 = .ok (.iconst 0, 1) := by decide +kernel
theorem dX6_lane_59 : decode cX6_lane 59 = .ok (.iastore, 1) := by decide +kernel
theorem dX6_lane_60 : decode cX6_lane 60 = .ok (.iinc 1 1, 3) := by decide +kernel
theorem dX6_lane_63 : decode cX6_lane 63 = .ok (.goto (-25), 3) := by decide +kernel
theorem dX6_lane_66 : decode cX6_lane 66 = .ok (.iconst 0, 1) := by decide +kernel
theorem dX6_lane_67 : decode cX6_lane 67 = .ok (.istore_n 1, 1) := by decide +kernel
theorem dX6_lane_68 : decode cX6_lane 68 = .ok (.iload_n 1, 1) := by decide +kernel
theorem dX6_lane_69 : decode cX6_lane 69 = .ok (.aload_n 0, 1) := by decide +kernel
theorem dX6_lane_70 : decode cX6_lane 70 = .ok (.getfield 93, 3) := by decide +kernel
theorem dX6_lane_73 : decode cX6_lane 73 = .ok (.if_icmp .ge 39, 3) := by decide +kernel
theorem dX6_lane_76 : decode cX6_lane 76 = .ok (.aload_n 0, 1) := by decide +kernel
theorem dX6_lane_77 : decode cX6_lane 77 = .ok (.getfield 7, 3) := by decide +kernel
theorem dX6_lane_80 : decode cX6_lane 80 = .ok (.iload_n 1, 1) := by decide +kernel
theorem dX6_lane_81 : decode cX6_lane 81 = .ok (.aload_n 0, 1) := by decide +kernel
theorem dX6_lane_82 : decode cX6_lane 82 = .ok (.getfield 25, 3) := by decide +kernel
theorem dX6_lane_85 : decode cX6_lane 85 = .ok (.iconst 2, 1) := by decide +kernel
theorem dX6_lane_86 : decode cX6_lane 86 = .ok (.iload_n 1, 1) := by decide +kernel
theorem dX6_lane_87 : decode cX6_lane 87 = .ok (.imul, 1) := by decide +kernel
theorem dX6_lane_88 : decode cX6_lane 88 = .ok (.iaload, 1) := by decide +kernel
theorem dX6_lane_89 : decode cX6_lane 89 = .ok (.iastore, 1) := by decide +kernel
theorem dX6_lane_90 : decode cX6_lane 90 = .ok (.aload_n 0, 1) := by decide +kernel
theorem dX6_lane_91 : decode cX6_lane 91 = .ok (.getfield 13, 3) := by decide +kernel
theorem dX6_lane_94 : decode cX6_lane 94 = .ok (.iload_n 1, 1) := by decide +kernel
theorem dX6_lane_95 : decode cX6_lane 95 = .ok (.aload_n 0, 1) := by decide +kernel
theorem dX6_lane_96 : decode cX6_lane 96 = .ok (.getfield 25, 3) := by decide +kernel
theorem dX6_lane_99 : decode cX6_lane 99 = .ok (.iconst 2, 1) := by decide +kernel
theorem dX6_lane_100 : decode cX6_lane 100 = .ok (.iload_n 1, 1) := by decide +kernel
theorem dX6_lane_101 : decode cX6_lane 101 = .ok (.imul, 1) := by decide +kernel
theorem dX6_lane_102 : decode cX6_lane 102 = .ok (.iconst 1, 1) := by decide +kernel
theorem dX6_lane_103 : decode cX6_lane 103 = .ok (.iadd, 1) := by decide +kernel
theorem dX6_lane_104 : decode cX6_lane 104 = .ok (.iaload, 1) := by decide +kernel
theorem dX6_lane_105 : decode cX6_lane 105 = .ok (.iastore, 1) := by decide +kernel
theorem dX6_lane_106 : decode cX6_lane 106 = .ok (.iinc 1 1, 3) := by decide +kernel
theorem dX6_lane_109 : decode cX6_lane 109 = .ok (.goto (-41), 3) := by decide +kernel
theorem dX6_lane_112 : decode cX6_lane 112 = .ok (.iconst 0, 1) := by decide +kernel
theorem dX6_lane_113 : decode cX6_lane 113 = .ok (.istore_n 1, 1) := by decide +kernel
theorem dX6_lane_114 : decode cX6_lane 114 = .ok (.iload_n 1, 1) := by decide +kernel
theorem dX6_lane_115 : decode cX6_lane 115 = .ok (.iconst 3, 1) := by decide +kernel
theorem dX6_lane_116 : decode cX6_lane 116 = .ok (.aload_n 0, 1) := by decide +kernel
theorem dX6_lane_117 : decode cX6_lane 117 = .ok (.getfield 96, 3) := by decide +kernel
theorem dX6_lane_120 : decode cX6_lane 120 = .ok (.imul, 1) := by decide +kernel
theorem dX6_lane_121 : decode cX6_lane 121 = .ok (.if_icmp .ge 21, 3) := by decide +kernel
theorem dX6_lane_124 : decode cX6_lane 124 = .ok (.aload_n 0, 1) := by decide +kernel
theorem dX6_lane_125 : decode cX6_lane 125 = .ok (.getfield 16, 3) := by decide +kernel
theorem dX6_lane_128 : decode cX6_lane 128 = .ok (.iload_n 1, 1) := by decide +kernel
theorem dX6_lane_129 : decode cX6_lane 129 = .ok (.aload_n 0, 1) := by decide +kernel
theorem dX6_lane_130 : decode cX6_lane 130 = .ok (.getfield 28, 3) := by decide +kernel
theorem dX6_lane_133 : decode cX6_lane 133 = .ok (.iload_n 1, 1) := by decide +kernel
theorem dX6_lane_134 : decode cX6_lane 134 = .ok (.iaload, 1) := by decide +kernel
theorem dX6_lane_135 : decode cX6_lane 135 = .ok (.iastore, 1) := by decide +kernel
theorem dX6_lane_136 : decode cX6_lane 136 = .ok (.iinc 1 1, 3) := by decide +kernel
theorem dX6_lane_139 : decode cX6_lane 139 = .ok (.goto (-25), 3) := by decide +kernel
theorem dX6_lane_142 : decode cX6_lane 142 = .ok (.iconst 0, 1) := by decide +kernel
theorem dX6_lane_143 : decode cX6_lane 143 = .ok (.istore_n 1, 1) := by decide +kernel
theorem dX6_lane_144 : decode cX6_lane 144 = .ok (.iload_n 1, 1) := by decide +kernel
theorem dX6_lane_145 : decode cX6_lane 145 = .ok (.aload_n 0, 1) := by decide +kernel
theorem dX6_lane_146 : decode cX6_lane 146 = .ok (.getfield 99, 3) := by decide +kernel
theorem dX6_lane_149 : decode cX6_lane 149 = .ok (.if_icmp .ge 21, 3) := by decide +kernel
theorem dX6_lane_152 : decode cX6_lane 152 = .ok (.aload_n 0, 1) := by decide +kernel
theorem dX6_lane_153 : decode cX6_lane 153 = .ok (.getfield 19, 3) := by decide +kernel
theorem dX6_lane_156 : decode cX6_lane 156 = .ok (.iload_n 1, 1) := by decide +kernel
theorem dX6_lane_157 : decode cX6_lane 157 = .ok (.aload_n 0, 1) := by decide +kernel
theorem dX6_lane_158 : decode cX6_lane 158 = .ok (.getfield 31, 3) := by decide +kernel
theorem dX6_lane_161 : decode cX6_lane 161 = .ok (.iload_n 1, 1) := by decide +kernel
theorem dX6_lane_162 : decode cX6_lane 162 = .ok (.iaload, 1) := by decide +kernel
theorem dX6_lane_163 : decode cX6_lane 163 = .ok (.iastore, 1) := by decide +kernel
theorem dX6_lane_164 : decode cX6_lane 164 = .ok (.iinc 1 1, 3) := by decide +kernel
theorem dX6_lane_167 : decode cX6_lane 167 = .ok (.goto (-23), 3) := by decide +kernel
theorem dX6_lane_170 : decode cX6_lane 170 = .ok (.aload_n 0, 1) := by decide +kernel
theorem dX6_lane_171 : decode cX6_lane 171 = .ok (.iconst 0, 1) := by decide +kernel
theorem dX6_lane_172 : decode cX6_lane 172 = .ok (.putfield 102, 3) := by decide +kernel
theorem dX6_lane_175 : decode cX6_lane 175 = .ok (.aload_n 0, 1) := by decide +kernel
theorem dX6_lane_176 : decode cX6_lane 176 = .ok (.getfield 49, 3) := by decide +kernel
theorem dX6_lane_179 : decode cX6_lane 179 = .ok (.iconst 0, 1) := by decide +kernel
theorem dX6_lane_180 : decode cX6_lane 180 = .ok (.iconst 0, 1) := by decide +kernel
theorem dX6_lane_181 : decode cX6_lane 181 = .ok (.bastore, 1) := by decide +kernel
theorem dX6_lane_182 : decode cX6_lane 182 = .ok (.aload_n 0, 1) := by decide +kernel
theorem dX6_lane_183 : decode cX6_lane 183 = .ok (.getfield 49, 3) := by decide +kernel
theorem dX6_lane_186 : decode cX6_lane 186 = .ok (.iconst 1, 1) := by decide +kernel
theorem dX6_lane_187 : decode cX6_lane 187 = .ok (.iconst 0, 1) := by decide +kernel
theorem dX6_lane_188 : decode cX6_lane 188 = .ok (.bastore, 1) := by decide +kernel
theorem dX6_lane_189 : decode cX6_lane 189 = .ok (.bipush 100, 2) := by decide +kernel
theorem dX6_lane_191 : decode cX6_lane 191 = .ok (.aload_n 0, 1) := by decide +kernel
theorem dX6_lane_192 : decode cX6_lane 192 = .ok (.getfield 93, 3) := by decide +kernel
theorem dX6_lane_195 : decode cX6_lane 195 = .ok (.imul, 1) := by decide +kernel
theorem dX6_lane_196 : decode cX6_lane 196 = .ok (.bipush 10, 2) := by decide +kernel
theorem dX6_lane_198 : decode cX6_lane 198 = .ok (.aload_n 0, 1) := by decide +kernel
theorem dX6_lane_199 : decode cX6_lane 199 = .ok (.getfield 96, 3) := by decide +kernel
theorem dX6_lane_202 : decode cX6_lane 202 = .ok (.imul, 1) := by decide +kernel
theorem dX6_lane_203 : decode cX6_lane 203 = .ok (.iadd, 1) := by decide +kernel
theorem dX6_lane_204 : decode cX6_lane 204 = .ok (.aload_n 0, 1) := by decide +kernel
theorem dX6_lane_205 : decode cX6_lane 205 = .ok (.getfield 99, 3) := by decide +kernel
theorem dX6_lane_208 : decode cX6_lane 208 = .ok (.iadd, 1) := by decide +kernel
theorem dX6_lane_209 : decode cX6_lane 209 = .ok (.ireturn, 1) := by decide +kernel
set_option maxRecDepth 20000 in
theorem ggX6_isHouse_X6_in : GoodIn wsX6_isHouse wsX6_in := goodIn_r _ [5] (by decide +kernel) (by decide +kernel)
set_option maxRecDepth 20000 in
theorem gX6_isHouse_X6_in : GoodIn wsX6_isHouse (va_wsS RX6 58 yX6_in wsX6_in) := goodIn_app (goodIn_of _ (by decide +kernel)) ggX6_isHouse_X6_in
theorem dX6_isHouse_0 : decode cX6_isHouse 0 = .ok (.iload_n 1, 1) := by decide +kernel
theorem dX6_isHouse_1 : decode cX6_isHouse 1 = .ok (.i2l, 1) := by decide +kernel
theorem dX6_isHouse_2 : decode cX6_isHouse 2 = .ok (.lconst 0, 1) := by decide +kernel
theorem dX6_isHouse_3 : decode cX6_isHouse 3 = .ok (.aload_n 0, 1) := by decide +kernel
theorem dX6_isHouse_4 : decode cX6_isHouse 4 = .ok (.getfield 93, 3) := by decide +kernel
theorem dX6_isHouse_7 : decode cX6_isHouse 7 = .ok (.iconst 1, 1) := by decide +kernel
theorem dX6_isHouse_8 : decode cX6_isHouse 8 = .ok (.isub, 1) := by decide +kernel
theorem dX6_isHouse_9 : decode cX6_isHouse 9 = .ok (.i2l, 1) := by decide +kernel
theorem dX6_isHouse_10 : decode cX6_isHouse 10 = .ok (.invokestatic 58, 3) := by decide +kernel
theorem dX6_isHouse_13 : decode cX6_isHouse 13 = .ok (.ireturn, 1) := by decide +kernel
set_option maxRecDepth 20000 in
theorem ggX6_isThing_X6_in : GoodIn wsX6_isThing wsX6_in := goodIn_r _ [5] (by decide +kernel) (by decide +kernel)
set_option maxRecDepth 20000 in
theorem gX6_isThing_X6_in : GoodIn wsX6_isThing (va_wsS RX6 58 yX6_in wsX6_in) := goodIn_app (goodIn_of _ (by decide +kernel)) ggX6_isThing_X6_in
theorem dX6_isThing_0 : decode cX6_isThing 0 = .ok (.iload_n 0, 1) := by decide +kernel
theorem dX6_isThing_1 : decode cX6_isThing 1 = .ok (.i2l, 1) := by decide +kernel
theorem dX6_isThing_2 : decode cX6_isThing 2 = .ok (.lconst 0, 1) := by decide +kernel
theorem dX6_isThing_3 : decode cX6_isThing 3 = .ok (.ldc2_w 105, 3) := by decide +kernel
theorem dX6_isThing_6 : decode cX6_isThing 6 = .ok (.invokestatic 58, 3) := by decide +kernel
theorem dX6_isThing_9 : decode cX6_isThing 9 = .ok (.ireturn, 1) := by decide +kernel
theorem dX6_rainOn_0 : decode cX6_rainOn 0 = .ok (.aload_n 0, 1) := by decide +kernel
theorem dX6_rainOn_1 : decode cX6_rainOn 1 = .ok (.getfield 99, 3) := by decide +kernel
theorem dX6_rainOn_4 : decode cX6_rainOn 4 = .ok (.ifCond .ne 7, 3) := by decide +kernel
theorem dX6_rainOn_7 : decode cX6_rainOn 7 = .ok (.iconst 0, 1) := by decide +kernel
theorem dX6_rainOn_8 : decode cX6_rainOn 8 = .ok (.goto 25, 3) := by decide +kernel
theorem dX6_rainOn_11 : decode cX6_rainOn 11 = .ok (.aload_n 0, 1) := by decide +kernel
theorem dX6_rainOn_12 : decode cX6_rainOn 12 = .ok (.getfield 19, 3) := by decide +kernel
theorem dX6_rainOn_15 : decode cX6_rainOn 15 = .ok (.aload_n 0, 1) := by decide +kernel
theorem dX6_rainOn_16 : decode cX6_rainOn 16 = .ok (.getfield 22, 3) := by decide +kernel
theorem dX6_rainOn_19 : decode cX6_rainOn 19 = .ok (.bipush 17, 2) := by decide +kernel
theorem dX6_rainOn_21 : decode cX6_rainOn 21 = .ok (.iload_n 1, 1) := by decide +kernel
theorem dX6_rainOn_22 : decode cX6_rainOn 22 = .ok (.imul, 1) := by decide +kernel
theorem dX6_rainOn_23 : decode cX6_rainOn 23 = .ok (.bipush 15, 2) := by decide +kernel
theorem dX6_rainOn_25 : decode cX6_rainOn 25 = .ok (.iadd, 1) := by decide +kernel
theorem dX6_rainOn_26 : decode cX6_rainOn 26 = .ok (.iaload, 1) := by decide +kernel
theorem dX6_rainOn_27 : decode cX6_rainOn 27 = .ok (.aload_n 0, 1) := by decide +kernel
theorem dX6_rainOn_28 : decode cX6_rainOn 28 = .ok (.getfield 99, 3) := by decide +kernel
theorem dX6_rainOn_31 : decode cX6_rainOn 31 = .ok (.irem, 1) := by decide +kernel
theorem dX6_rainOn_32 : decode cX6_rainOn 32 = .ok (.iaload, 1) := by decide +kernel
theorem dX6_rainOn_33 : decode cX6_rainOn 33 = .ok (.ireturn, 1) := by decide +kernel
theorem dX6_sayingOn_0 : decode cX6_sayingOn 0 = .ok (.aload_n 0, 1) := by decide +kernel
theorem dX6_sayingOn_1 : decode cX6_sayingOn 1 = .ok (.getfield 96, 3) := by decide +kernel
theorem dX6_sayingOn_4 : decode cX6_sayingOn 4 = .ok (.ifCond .ne 8, 3) := by decide +kernel
theorem dX6_sayingOn_7 : decode cX6_sayingOn 7 = .ok (.bipush (-9), 2) := by decide +kernel
theorem dX6_sayingOn_9 : decode cX6_sayingOn 9 = .ok (.goto 20, 3) := by decide +kernel
theorem dX6_sayingOn_12 : decode cX6_sayingOn 12 = .ok (.aload_n 0, 1) := by decide +kernel
theorem dX6_sayingOn_13 : decode cX6_sayingOn 13 = .ok (.getfield 22, 3) := by decide +kernel
theorem dX6_sayingOn_16 : decode cX6_sayingOn 16 = .ok (.bipush 17, 2) := by decide +kernel
theorem dX6_sayingOn_18 : decode cX6_sayingOn 18 = .ok (.iload_n 1, 1) := by decide +kernel
theorem dX6_sayingOn_19 : decode cX6_sayingOn 19 = .ok (.imul, 1) := by decide +kernel
theorem dX6_sayingOn_20 : decode cX6_sayingOn 20 = .ok (.bipush 15, 2) := by decide +kernel
theorem dX6_sayingOn_22 : decode cX6_sayingOn 22 = .ok (.iadd, 1) := by decide +kernel
theorem dX6_sayingOn_23 : decode cX6_sayingOn 23 = .ok (.iaload, 1) := by decide +kernel
theorem dX6_sayingOn_24 : decode cX6_sayingOn 24 = .ok (.aload_n 0, 1) := by decide +kernel
theorem dX6_sayingOn_25 : decode cX6_sayingOn 25 = .ok (.getfield 96, 3) := by decide +kernel
theorem dX6_sayingOn_28 : decode cX6_sayingOn 28 = .ok (.irem, 1) := by decide +kernel
theorem dX6_sayingOn_29 : decode cX6_sayingOn 29 = .ok (.ireturn, 1) := by decide +kernel
theorem dX6_earOf_0 : decode cX6_earOf 0 = .ok (.iload_n 0, 1) := by decide +kernel
theorem dX6_earOf_1 : decode cX6_earOf 1 = .ok (.iconst 1, 1) := by decide +kernel
theorem dX6_earOf_2 : decode cX6_earOf 2 = .ok (.if_icmp .ne 7, 3) := by decide +kernel
theorem dX6_earOf_5 : decode cX6_earOf 5 = .ok (.iconst 2, 1) := by decide +kernel
theorem dX6_earOf_6 : decode cX6_earOf 6 = .ok (.goto 14, 3) := by decide +kernel
theorem dX6_earOf_9 : decode cX6_earOf 9 = .ok (.iload_n 0, 1) := by decide +kernel
theorem dX6_earOf_10 : decode cX6_earOf 10 = .ok (.iconst 2, 1) := by decide +kernel
theorem dX6_earOf_11 : decode cX6_earOf 11 = .ok (.if_icmp .ne 8, 3) := by decide +kernel
theorem dX6_earOf_14 : decode cX6_earOf 14 = .ok (.bipush (-2), 2) := by decide +kernel
theorem dX6_earOf_16 : decode cX6_earOf 16 = .ok (.goto 4, 3) := by decide +kernel
theorem dX6_earOf_19 : decode cX6_earOf 19 = .ok (.iconst 0, 1) := by decide +kernel
theorem dX6_earOf_20 : decode cX6_earOf 20 = .ok (.ireturn, 1) := by decide +kernel
theorem dX6_isStrayed_0 : decode cX6_isStrayed 0 = .ok (.aload_n 0, 1) := by decide +kernel
theorem dX6_isStrayed_1 : decode cX6_isStrayed 1 = .ok (.getfield 22, 3) := by decide +kernel
theorem dX6_isStrayed_4 : decode cX6_isStrayed 4 = .ok (.bipush 17, 2) := by decide +kernel
theorem dX6_isStrayed_6 : decode cX6_isStrayed 6 = .ok (.iload_n 1, 1) := by decide +kernel
theorem dX6_isStrayed_7 : decode cX6_isStrayed 7 = .ok (.imul, 1) := by decide +kernel
theorem dX6_isStrayed_8 : decode cX6_isStrayed 8 = .ok (.bipush 16, 2) := by decide +kernel
theorem dX6_isStrayed_10 : decode cX6_isStrayed 10 = .ok (.iadd, 1) := by decide +kernel
theorem dX6_isStrayed_11 : decode cX6_isStrayed 11 = .ok (.iaload, 1) := by decide +kernel
theorem dX6_isStrayed_12 : decode cX6_isStrayed 12 = .ok (.iconst 3, 1) := by decide +kernel
theorem dX6_isStrayed_13 : decode cX6_isStrayed 13 = .ok (.if_icmp .lt 7, 3) := by decide +kernel
theorem dX6_isStrayed_16 : decode cX6_isStrayed 16 = .ok (.iconst 1, 1) := by decide +kernel
theorem dX6_isStrayed_17 : decode cX6_isStrayed 17 = .ok (.goto 4, 3) := by decide +kernel
theorem dX6_isStrayed_20 : decode cX6_isStrayed 20 = .ok (.iconst 0, 1) := by decide +kernel
theorem dX6_isStrayed_21 : decode cX6_isStrayed 21 = .ok (.ireturn, 1) := by decide +kernel
set_option maxRecDepth 20000 in
theorem ggX6_hears_X6_isStrayed : GoodIn wsX6_hears wsX6_isStrayed := goodIn_r _ [9, 3, 13, 14, 15, 16, 17, 18, 19, 20, 21, 22, 23, 24, 25, 26, 27, 28, 29, 30, 31, 32, 33, 34, 35, 36, 37, 38, 39, 40] (by decide +kernel) (by decide +kernel)
set_option maxRecDepth 20000 in
theorem gX6_hears_X6_isStrayed : GoodIn wsX6_hears (wsV RX6 107 RX6 yX6_isStrayed wsX6_isStrayed) := goodIn_app (goodIn_of _ (by decide +kernel)) ggX6_hears_X6_isStrayed
set_option maxRecDepth 20000 in
theorem ggX6_hears_X6_earOf : GoodIn wsX6_hears wsX6_earOf := goodIn_r _ [12] (by decide +kernel) (by decide +kernel)
set_option maxRecDepth 20000 in
theorem gX6_hears_X6_earOf : GoodIn wsX6_hears (va_wsS RX6 111 yX6_earOf wsX6_earOf) := goodIn_app (goodIn_of _ (by decide +kernel)) ggX6_hears_X6_earOf
theorem dX6_hears_0 : decode cX6_hears 0 = .ok (.iload_n 3, 1) := by decide +kernel
theorem dX6_hears_1 : decode cX6_hears 1 = .ok (.bipush (-9), 2) := by decide +kernel
theorem dX6_hears_3 : decode cX6_hears 3 = .ok (.if_icmp .eq 11, 3) := by decide +kernel
theorem dX6_hears_6 : decode cX6_hears 6 = .ok (.aload_n 0, 1) := by decide +kernel
theorem dX6_hears_7 : decode cX6_hears 7 = .ok (.iload_n 1, 1) := by decide +kernel
theorem dX6_hears_8 : decode cX6_hears 8 = .ok (.invokevirtual 107, 3) := by decide +kernel
theorem dX6_hears_11 : decode cX6_hears 11 = .ok (.ifCond .eq 5, 3) := by decide +kernel
theorem dX6_hears_14 : decode cX6_hears 14 = .ok (.iconst 0, 1) := by decide +kernel
theorem dX6_hears_15 : decode cX6_hears 15 = .ok (.ireturn, 1) := by decide +kernel
theorem dX6_hears_16 : decode cX6_hears 16 = .ok (.bipush 17, 2) := by decide +kernel
theorem dX6_hears_18 : decode cX6_hears 18 = .ok (.iload_n 1, 1) := by decide +kernel
theorem dX6_hears_19 : decode cX6_hears 19 = .ok (.imul, 1) := by decide +kernel
theorem dX6_hears_20 : decode cX6_hears 20 = .ok (.istore 5, 2) := by decide +kernel
theorem dX6_hears_22 : decode cX6_hears 22 = .ok (.aload_n 0, 1) := by decide +kernel
theorem dX6_hears_23 : decode cX6_hears 23 = .ok (.getfield 16, 3) := by decide +kernel
theorem dX6_hears_26 : decode cX6_hears 26 = .ok (.iconst 3, 1) := by decide +kernel
theorem dX6_hears_27 : decode cX6_hears 27 = .ok (.iload_n 3, 1) := by decide +kernel
theorem dX6_hears_28 : decode cX6_hears 28 = .ok (.imul, 1) := by decide +kernel
theorem dX6_hears_29 : decode cX6_hears 29 = .ok (.iaload, 1) := by decide +kernel
theorem dX6_hears_30 : decode cX6_hears 30 = .ok (.istore 6, 2) := by decide +kernel
theorem dX6_hears_32 : decode cX6_hears 32 = .ok (.aload_n 0, 1) := by decide +kernel
theorem dX6_hears_33 : decode cX6_hears 33 = .ok (.getfield 7, 3) := by decide +kernel
theorem dX6_hears_36 : decode cX6_hears 36 = .ok (.aload_n 0, 1) := by decide +kernel
theorem dX6_hears_37 : decode cX6_hears 37 = .ok (.getfield 22, 3) := by decide +kernel
theorem dX6_hears_40 : decode cX6_hears 40 = .ok (.iload 5, 2) := by decide +kernel
theorem dX6_hears_42 : decode cX6_hears 42 = .ok (.iload_n 2, 1) := by decide +kernel
theorem dX6_hears_43 : decode cX6_hears 43 = .ok (.iadd, 1) := by decide +kernel
theorem dX6_hears_44 : decode cX6_hears 44 = .ok (.iaload, 1) := by decide +kernel
theorem dX6_hears_45 : decode cX6_hears 45 = .ok (.iaload, 1) := by decide +kernel
theorem dX6_hears_46 : decode cX6_hears 46 = .ok (.istore 7, 2) := by decide +kernel
theorem dX6_hears_48 : decode cX6_hears 48 = .ok (.iload 7, 2) := by decide +kernel
theorem dX6_hears_50 : decode cX6_hears 50 = .ok (.iconst 3, 1) := by decide +kernel
theorem dX6_hears_51 : decode cX6_hears 51 = .ok (.if_icmp .ne 11, 3) := by decide +kernel
theorem dX6_hears_54 : decode cX6_hears 54 = .ok (.iload_n 2, 1) := by decide +kernel
theorem dX6_hears_55 : decode cX6_hears 55 = .ok (.iload 6, 2) := by decide +kernel
theorem dX6_hears_57 : decode cX6_hears 57 = .ok (.if_icmp .ne 5, 3) := by decide +kernel
theorem dX6_hears_60 : decode cX6_hears 60 = .ok (.iconst 1, 1) := by decide +kernel
theorem dX6_hears_61 : decode cX6_hears 61 = .ok (.ireturn, 1) := by decide +kernel
theorem dX6_hears_62 : decode cX6_hears 62 = .ok (.iload_n 2, 1) := by decide +kernel
theorem dX6_hears_63 : decode cX6_hears 63 = .ok (.iload 6, 2) := by decide +kernel
theorem dX6_hears_65 : decode cX6_hears 65 = .ok (.if_icmp .le 10, 3) := by decide +kernel
theorem dX6_hears_68 : decode cX6_hears 68 = .ok (.iload_n 2, 1) := by decide +kernel
theorem dX6_hears_69 : decode cX6_hears 69 = .ok (.iload 6, 2) := by decide +kernel
theorem dX6_hears_71 : decode cX6_hears 71 = .ok (.isub, 1) := by decide +kernel
theorem dX6_hears_72 : decode cX6_hears 72 = .ok (.goto 7, 3) := by decide +kernel
theorem dX6_hears_75 : decode cX6_hears 75 = .ok (.iload 6, 2) := by decide +kernel
theorem dX6_hears_77 : decode cX6_hears 77 = .ok (.iload_n 2, 1) := by decide +kernel
theorem dX6_hears_78 : decode cX6_hears 78 = .ok (.isub, 1) := by decide +kernel
theorem dX6_hears_79 : decode cX6_hears 79 = .ok (.istore 8, 2) := by decide +kernel
theorem dX6_hears_81 : decode cX6_hears 81 = .ok (.aload_n 0, 1) := by decide +kernel
theorem dX6_hears_82 : decode cX6_hears 82 = .ok (.getfield 16, 3) := by decide +kernel
theorem dX6_hears_85 : decode cX6_hears 85 = .ok (.iconst 3, 1) := by decide +kernel
theorem dX6_hears_86 : decode cX6_hears 86 = .ok (.iload_n 3, 1) := by decide +kernel
theorem dX6_hears_87 : decode cX6_hears 87 = .ok (.imul, 1) := by decide +kernel
theorem dX6_hears_88 : decode cX6_hears 88 = .ok (.iconst 2, 1) := by decide +kernel
theorem dX6_hears_89 : decode cX6_hears 89 = .ok (.iadd, 1) := by decide +kernel
theorem dX6_hears_90 : decode cX6_hears 90 = .ok (.iaload, 1) := by decide +kernel
theorem dX6_hears_91 : decode cX6_hears 91 = .ok (.aload_n 0, 1) := by decide +kernel
theorem dX6_hears_92 : decode cX6_hears 92 = .ok (.getfield 22, 3) := by decide +kernel
theorem dX6_hears_95 : decode cX6_hears 95 = .ok (.iload 5, 2) := by decide +kernel
theorem dX6_hears_97 : decode cX6_hears 97 = .ok (.bipush 10, 2) := by decide +kernel
theorem dX6_hears_99 : decode cX6_hears 99 = .ok (.iadd, 1) := by decide +kernel
theorem dX6_hears_100 : decode cX6_hears 100 = .ok (.iload 6, 2) := by decide +kernel
theorem dX6_hears_102 : decode cX6_hears 102 = .ok (.iadd, 1) := by decide +kernel
theorem dX6_hears_103 : decode cX6_hears 103 = .ok (.iaload, 1) := by decide +kernel
theorem dX6_hears_104 : decode cX6_hears 104 = .ok (.iadd, 1) := by decide +kernel
theorem dX6_hears_105 : decode cX6_hears 105 = .ok (.iload 7, 2) := by decide +kernel
theorem dX6_hears_107 : decode cX6_hears 107 = .ok (.invokestatic 111, 3) := by decide +kernel
theorem dX6_hears_110 : decode cX6_hears 110 = .ok (.iadd, 1) := by decide +kernel
theorem dX6_hears_111 : decode cX6_hears 111 = .ok (.aload_n 0, 1) := by decide +kernel
theorem dX6_hears_112 : decode cX6_hears 112 = .ok (.getfield 13, 3) := by decide +kernel
theorem dX6_hears_115 : decode cX6_hears 115 = .ok (.iload 6, 2) := by decide +kernel
theorem dX6_hears_117 : decode cX6_hears 117 = .ok (.iaload, 1) := by decide +kernel
theorem dX6_hears_118 : decode cX6_hears 118 = .ok (.iconst 2, 1) := by decide +kernel
theorem dX6_hears_119 : decode cX6_hears 119 = .ok (.iload 8, 2) := by decide +kernel
theorem dX6_hears_121 : decode cX6_hears 121 = .ok (.imul, 1) := by decide +kernel
theorem dX6_hears_122 : decode cX6_hears 122 = .ok (.iadd, 1) := by decide +kernel
theorem dX6_hears_123 : decode cX6_hears 123 = .ok (.iload 4, 2) := by decide +kernel
theorem dX6_hears_125 : decode cX6_hears 125 = .ok (.iadd, 1) := by decide +kernel
theorem dX6_hears_126 : decode cX6_hears 126 = .ok (.if_icmp .le 7, 3) := by decide +kernel
theorem dX6_hears_129 : decode cX6_hears 129 = .ok (.iconst 1, 1) := by decide +kernel
theorem dX6_hears_130 : decode cX6_hears 130 = .ok (.goto 4, 3) := by decide +kernel
theorem dX6_hears_133 : decode cX6_hears 133 = .ok (.iconst 0, 1) := by decide +kernel
theorem dX6_hears_134 : decode cX6_hears 134 = .ok (.ireturn, 1) := by decide +kernel
set_option maxRecDepth 20000 in
theorem ggX6_hourBy_X6_sayingOn : GoodIn wsX6_hourBy wsX6_sayingOn := goodIn_r _ [8, 9, 2, 33, 34, 35, 36, 37, 38, 39, 40, 41, 42, 43, 44, 45, 46, 47, 48, 49, 50, 51, 52, 53, 54, 55, 56, 57, 58, 59, 60] (by decide +kernel) (by decide +kernel)
set_option maxRecDepth 20000 in
theorem gX6_hourBy_X6_sayingOn : GoodIn wsX6_hourBy (wsV RX6 114 RX6 yX6_sayingOn wsX6_sayingOn) := goodIn_app (goodIn_of _ (by decide +kernel)) ggX6_hourBy_X6_sayingOn
set_option maxRecDepth 20000 in
theorem ggX6_hourBy_X6_hears : GoodIn wsX6_hourBy wsX6_hears := goodIn_r _ [13, 3, 14, 2, 15, 16, 17, 18, 7, 19, 20, 21, 22, 33, 34, 35, 36, 37, 38, 39, 40, 41, 42, 43, 44, 45, 46, 47, 48, 49, 50, 51, 52, 53, 54, 55, 56, 57, 58, 59, 60] (by decide +kernel) (by decide +kernel)
set_option maxRecDepth 20000 in
theorem gX6_hourBy_X6_hears : GoodIn wsX6_hourBy (wsV RX6 117 RX6 yX6_hears wsX6_hears) := goodIn_app (goodIn_of _ (by decide +kernel)) ggX6_hourBy_X6_hears
set_option maxRecDepth 20000 in
theorem ggX6_hourBy_X6_has : GoodIn wsX6_hourBy wsX6_has := goodIn_r _ [25] (by decide +kernel) (by decide +kernel)
set_option maxRecDepth 20000 in
theorem gX6_hourBy_X6_has : GoodIn wsX6_hourBy (va_wsS RX6 121 yX6_has wsX6_has) := goodIn_app (goodIn_of _ (by decide +kernel)) ggX6_hourBy_X6_has
set_option maxRecDepth 20000 in
theorem ggX6_hourBy_X6_isStrayed : GoodIn wsX6_hourBy wsX6_isStrayed := goodIn_r _ [19, 2, 33, 34, 35, 36, 37, 38, 39, 40, 41, 42, 43, 44, 45, 46, 47, 48, 49, 50, 51, 52, 53, 54, 55, 56, 57, 58, 59, 60] (by decide +kernel) (by decide +kernel)
set_option maxRecDepth 20000 in
theorem gX6_hourBy_X6_isStrayed : GoodIn wsX6_hourBy (wsV RX6 107 RX6 yX6_isStrayed wsX6_isStrayed) := goodIn_app (goodIn_of _ (by decide +kernel)) ggX6_hourBy_X6_isStrayed
set_option maxRecDepth 20000 in
theorem ggX6_hourBy_X6_knownOn : GoodIn wsX6_hourBy wsX6_knownOn := goodIn_r _ [29, 1, 2, 33, 34, 35, 36, 37, 38, 39, 40, 41, 42, 43, 44, 45, 46, 47, 48, 49, 50, 51, 52, 53, 54, 55, 56, 57, 58, 59, 60] (by decide +kernel) (by decide +kernel)
set_option maxRecDepth 20000 in
theorem gX6_hourBy_X6_knownOn : GoodIn wsX6_hourBy (wsV RX6 125 RX6 yX6_knownOn wsX6_knownOn) := goodIn_app (goodIn_of _ (by decide +kernel)) ggX6_hourBy_X6_knownOn
set_option maxRecDepth 20000 in
theorem ggX6_hourBy_X6_ones : GoodIn wsX6_hourBy wsX6_ones := goodIn_r _ [32] (by decide +kernel) (by decide +kernel)
set_option maxRecDepth 20000 in
theorem gX6_hourBy_X6_ones : GoodIn wsX6_hourBy (va_wsS RX6 128 yX6_ones wsX6_ones) := goodIn_app (goodIn_of _ (by decide +kernel)) ggX6_hourBy_X6_ones
theorem dX6_hourBy_0 : decode cX6_hourBy 0 = .ok (.bipush 17, 2) := by decide +kernel
theorem dX6_hourBy_2 : decode cX6_hourBy 2 = .ok (.iload_n 1, 1) := by decide +kernel
theorem dX6_hourBy_3 : decode cX6_hourBy 3 = .ok (.imul, 1) := by decide +kernel
theorem dX6_hourBy_4 : decode cX6_hourBy 4 = .ok (.istore_n 3, 1) := by decide +kernel
theorem dX6_hourBy_5 : decode cX6_hourBy 5 = .ok (.aload_n 0, 1) := by decide +kernel
theorem dX6_hourBy_6 : decode cX6_hourBy 6 = .ok (.iload_n 1, 1) := by decide +kernel
theorem dX6_hourBy_7 : decode cX6_hourBy 7 = .ok (.invokevirtual 114, 3) := by decide +kernel
theorem dX6_hourBy_10 : decode cX6_hourBy 10 = .ok (.istore 4, 2) := by decide +kernel
theorem dX6_hourBy_12 : decode cX6_hourBy 12 = .ok (.iconst 0, 1) := by decide +kernel
theorem dX6_hourBy_13 : decode cX6_hourBy 13 = .ok (.istore 5, 2) := by decide +kernel
theorem dX6_hourBy_15 : decode cX6_hourBy 15 = .ok (.iconst 0, 1) := by decide +kernel
theorem dX6_hourBy_16 : decode cX6_hourBy 16 = .ok (.istore 6, 2) := by decide +kernel
theorem dX6_hourBy_18 : decode cX6_hourBy 18 = .ok (.iload 6, 2) := by decide +kernel
theorem dX6_hourBy_20 : decode cX6_hourBy 20 = .ok (.aload_n 0, 1) := by decide +kernel
theorem dX6_hourBy_21 : decode cX6_hourBy 21 = .ok (.getfield 93, 3) := by decide +kernel
theorem dX6_hourBy_24 : decode cX6_hourBy 24 = .ok (.if_icmp .ge 97, 3) := by decide +kernel
theorem dX6_hourBy_27 : decode cX6_hourBy 27 = .ok (.aload_n 0, 1) := by decide +kernel
theorem dX6_hourBy_28 : decode cX6_hourBy 28 = .ok (.getfield 22, 3) := by decide +kernel
theorem dX6_hourBy_31 : decode cX6_hourBy 31 = .ok (.iload_n 3, 1) := by decide +kernel
theorem dX6_hourBy_32 : decode cX6_hourBy 32 = .ok (.iload 6, 2) := by decide +kernel
theorem dX6_hourBy_34 : decode cX6_hourBy 34 = .ok (.iadd, 1) := by decide +kernel
theorem dX6_hourBy_35 : decode cX6_hourBy 35 = .ok (.iaload, 1) := by decide +kernel
theorem dX6_hourBy_36 : decode cX6_hourBy 36 = .ok (.istore 7, 2) := by decide +kernel
theorem dX6_hourBy_38 : decode cX6_hourBy 38 = .ok (.aload_n 0, 1) := by decide +kernel
theorem dX6_hourBy_39 : decode cX6_hourBy 39 = .ok (.iload_n 1, 1) := by decide +kernel
theorem dX6_hourBy_40 : decode cX6_hourBy 40 = .ok (.iload 6, 2) := by decide +kernel
theorem dX6_hourBy_42 : decode cX6_hourBy 42 = .ok (.iload 4, 2) := by decide +kernel
theorem dX6_hourBy_44 : decode cX6_hourBy 44 = .ok (.iload_n 2, 1) := by decide +kernel
theorem dX6_hourBy_45 : decode cX6_hourBy 45 = .ok (.invokevirtual 117, 3) := by decide +kernel
theorem dX6_hourBy_48 : decode cX6_hourBy 48 = .ok (.ifCond .eq 67, 3) := by decide +kernel
theorem dX6_hourBy_51 : decode cX6_hourBy 51 = .ok (.aload_n 0, 1) := by decide +kernel
theorem dX6_hourBy_52 : decode cX6_hourBy 52 = .ok (.getfield 22, 3) := by decide +kernel
theorem dX6_hourBy_55 : decode cX6_hourBy 55 = .ok (.iload_n 3, 1) := by decide +kernel
theorem dX6_hourBy_56 : decode cX6_hourBy 56 = .ok (.iconst 5, 1) := by decide +kernel
theorem dX6_hourBy_57 : decode cX6_hourBy 57 = .ok (.iadd, 1) := by decide +kernel
theorem dX6_hourBy_58 : decode cX6_hourBy 58 = .ok (.iload 7, 2) := by decide +kernel
theorem dX6_hourBy_60 : decode cX6_hourBy 60 = .ok (.iadd, 1) := by decide +kernel
theorem dX6_hourBy_61 : decode cX6_hourBy 61 = .ok (.iaload, 1) := by decide +kernel
theorem dX6_hourBy_62 : decode cX6_hourBy 62 = .ok (.aload_n 0, 1) := by decide +kernel
theorem dX6_hourBy_63 : decode cX6_hourBy 63 = .ok (.getfield 16, 3) := by decide +kernel
theorem dX6_hourBy_66 : decode cX6_hourBy 66 = .ok (.iconst 3, 1) := by decide +kernel
theorem dX6_hourBy_67 : decode cX6_hourBy 67 = .ok (.iload 4, 2) := by decide +kernel
theorem dX6_hourBy_69 : decode cX6_hourBy 69 = .ok (.imul, 1) := by decide +kernel
theorem dX6_hourBy_70 : decode cX6_hourBy 70 = .ok (.iconst 1, 1) := by decide +kernel
theorem dX6_hourBy_71 : decode cX6_hourBy 71 = .ok (.iadd, 1) := by decide +kernel
theorem dX6_hourBy_72 : decode cX6_hourBy 72 = .ok (.iaload, 1) := by decide +kernel
theorem dX6_hourBy_73 : decode cX6_hourBy 73 = .ok (.invokestatic 121, 3) := by decide +kernel
theorem dX6_hourBy_76 : decode cX6_hourBy 76 = .ok (.ifCond .ne 39, 3) := by decide +kernel
theorem dX6_hourBy_79 : decode cX6_hourBy 79 = .ok (.aload_n 0, 1) := by decide +kernel
theorem dX6_hourBy_80 : decode cX6_hourBy 80 = .ok (.getfield 22, 3) := by decide +kernel
theorem dX6_hourBy_83 : decode cX6_hourBy 83 = .ok (.iload_n 3, 1) := by decide +kernel
theorem dX6_hourBy_84 : decode cX6_hourBy 84 = .ok (.iconst 5, 1) := by decide +kernel
theorem dX6_hourBy_85 : decode cX6_hourBy 85 = .ok (.iadd, 1) := by decide +kernel
theorem dX6_hourBy_86 : decode cX6_hourBy 86 = .ok (.iload 7, 2) := by decide +kernel
theorem dX6_hourBy_88 : decode cX6_hourBy 88 = .ok (.iadd, 1) := by decide +kernel
theorem dX6_hourBy_89 : decode cX6_hourBy 89 = .ok (.dup2, 1) := by decide +kernel
theorem dX6_hourBy_90 : decode cX6_hourBy 90 = .ok (.iaload, 1) := by decide +kernel
theorem dX6_hourBy_91 : decode cX6_hourBy 91 = .ok (.iconst 1, 1) := by decide +kernel
theorem dX6_hourBy_92 : decode cX6_hourBy 92 = .ok (.aload_n 0, 1) := by decide +kernel
theorem dX6_hourBy_93 : decode cX6_hourBy 93 = .ok (.getfield 16, 3) := by decide +kernel
theorem dX6_hourBy_96 : decode cX6_hourBy 96 = .ok (.iconst 3, 1) := by decide +kernel
theorem dX6_hourBy_97 : decode cX6_hourBy 97 = .ok (.iload 4, 2) := by decide +kernel
theorem dX6_hourBy_99 : decode cX6_hourBy 99 = .ok (.imul, 1) := by decide +kernel
theorem dX6_hourBy_100 : decode cX6_hourBy 100 = .ok (.iconst 1, 1) := by decide +kernel
theorem dX6_hourBy_101 : decode cX6_hourBy 101 = .ok (.iadd, 1) := by decide +kernel
theorem dX6_hourBy_102 : decode cX6_hourBy 102 = .ok (.iaload, 1) := by decide +kernel
theorem dX6_hourBy_103 : decode cX6_hourBy 103 = .ok (.ishl, 1) := by decide +kernel
theorem dX6_hourBy_104 : decode cX6_hourBy 104 = .ok (.ior, 1) := by decide +kernel
theorem dX6_hourBy_105 : decode cX6_hourBy 105 = .ok (.iastore, 1) := by decide +kernel
theorem dX6_hourBy_106 : decode cX6_hourBy 106 = .ok (.iload 5, 2) := by decide +kernel
theorem dX6_hourBy_108 : decode cX6_hourBy 108 = .ok (.iconst 1, 1) := by decide +kernel
theorem dX6_hourBy_109 : decode cX6_hourBy 109 = .ok (.iload 7, 2) := by decide +kernel
theorem dX6_hourBy_111 : decode cX6_hourBy 111 = .ok (.ishl, 1) := by decide +kernel
theorem dX6_hourBy_112 : decode cX6_hourBy 112 = .ok (.ior, 1) := by decide +kernel
theorem dX6_hourBy_113 : decode cX6_hourBy 113 = .ok (.istore 5, 2) := by decide +kernel
theorem dX6_hourBy_115 : decode cX6_hourBy 115 = .ok (.iinc 6 1, 3) := by decide +kernel
theorem dX6_hourBy_118 : decode cX6_hourBy 118 = .ok (.goto (-100), 3) := by decide +kernel
theorem dX6_hourBy_121 : decode cX6_hourBy 121 = .ok (.aload_n 0, 1) := by decide +kernel
theorem dX6_hourBy_122 : decode cX6_hourBy 122 = .ok (.getfield 22, 3) := by decide +kernel
theorem dX6_hourBy_125 : decode cX6_hourBy 125 = .ok (.iload_n 3, 1) := by decide +kernel
theorem dX6_hourBy_126 : decode cX6_hourBy 126 = .ok (.bipush 16, 2) := by decide +kernel
theorem dX6_hourBy_128 : decode cX6_hourBy 128 = .ok (.iadd, 1) := by decide +kernel
theorem dX6_hourBy_129 : decode cX6_hourBy 129 = .ok (.iload_n 2, 1) := by decide +kernel
theorem dX6_hourBy_130 : decode cX6_hourBy 130 = .ok (.ifCond .le 7, 3) := by decide +kernel
theorem dX6_hourBy_133 : decode cX6_hourBy 133 = .ok (.iconst 0, 1) := by decide +kernel
theorem dX6_hourBy_134 : decode cX6_hourBy 134 = .ok (.goto 33, 3) := by decide +kernel
theorem dX6_hourBy_137 : decode cX6_hourBy 137 = .ok (.aload_n 0, 1) := by decide +kernel
theorem dX6_hourBy_138 : decode cX6_hourBy 138 = .ok (.getfield 22, 3) := by decide +kernel
theorem dX6_hourBy_141 : decode cX6_hourBy 141 = .ok (.iload_n 3, 1) := by decide +kernel
theorem dX6_hourBy_142 : decode cX6_hourBy 142 = .ok (.bipush 16, 2) := by decide +kernel
theorem dX6_hourBy_144 : decode cX6_hourBy 144 = .ok (.iadd, 1) := by decide +kernel
theorem dX6_hourBy_145 : decode cX6_hourBy 145 = .ok (.iaload, 1) := by decide +kernel
theorem dX6_hourBy_146 : decode cX6_hourBy 146 = .ok (.bipush 9, 2) := by decide +kernel
theorem dX6_hourBy_148 : decode cX6_hourBy 148 = .ok (.if_icmp .ge 17, 3) := by decide +kernel
theorem dX6_hourBy_151 : decode cX6_hourBy 151 = .ok (.aload_n 0, 1) := by decide +kernel
theorem dX6_hourBy_152 : decode cX6_hourBy 152 = .ok (.getfield 22, 3) := by decide +kernel
theorem dX6_hourBy_155 : decode cX6_hourBy 155 = .ok (.iload_n 3, 1) := by decide +kernel
theorem dX6_hourBy_156 : decode cX6_hourBy 156 = .ok (.bipush 16, 2) := by decide +kernel
theorem dX6_hourBy_158 : decode cX6_hourBy 158 = .ok (.iadd, 1) := by decide +kernel
theorem dX6_hourBy_159 : decode cX6_hourBy 159 = .ok (.iaload, 1) := by decide +kernel
theorem dX6_hourBy_160 : decode cX6_hourBy 160 = .ok (.iconst 1, 1) := by decide +kernel
theorem dX6_hourBy_161 : decode cX6_hourBy 161 = .ok (.iadd, 1) := by decide +kernel
theorem dX6_hourBy_162 : decode cX6_hourBy 162 = .ok (.goto 5, 3) := by decide +kernel
theorem dX6_hourBy_165 : decode cX6_hourBy 165 = .ok (.bipush 9, 2) := by decide +kernel
theorem dX6_hourBy_167 : decode cX6_hourBy 167 = .ok (.iastore, 1) := by decide +kernel
theorem dX6_hourBy_168 : decode cX6_hourBy 168 = .ok (.aload_n 0, 1) := by decide +kernel
theorem dX6_hourBy_169 : decode cX6_hourBy 169 = .ok (.iload_n 1, 1) := by decide +kernel
theorem dX6_hourBy_170 : decode cX6_hourBy 170 = .ok (.invokevirtual 107, 3) := by decide +kernel
theorem dX6_hourBy_173 : decode cX6_hourBy 173 = .ok (.ifCond .eq 70, 3) := by decide +kernel
theorem dX6_hourBy_176 : decode cX6_hourBy 176 = .ok (.aload_n 0, 1) := by decide +kernel
theorem dX6_hourBy_177 : decode cX6_hourBy 177 = .ok (.iload_n 1, 1) := by decide +kernel
theorem dX6_hourBy_178 : decode cX6_hourBy 178 = .ok (.invokevirtual 125, 3) := by decide +kernel
theorem dX6_hourBy_181 : decode cX6_hourBy 181 = .ok (.istore 6, 2) := by decide +kernel
theorem dX6_hourBy_183 : decode cX6_hourBy 183 = .ok (.iconst 0, 1) := by decide +kernel
theorem dX6_hourBy_184 : decode cX6_hourBy 184 = .ok (.istore 7, 2) := by decide +kernel
theorem dX6_hourBy_186 : decode cX6_hourBy 186 = .ok (.iload 7, 2) := by decide +kernel
theorem dX6_hourBy_188 : decode cX6_hourBy 188 = .ok (.aload_n 0, 1) := by decide +kernel
theorem dX6_hourBy_189 : decode cX6_hourBy 189 = .ok (.getfield 93, 3) := by decide +kernel
theorem dX6_hourBy_192 : decode cX6_hourBy 192 = .ok (.if_icmp .ge 51, 3) := by decide +kernel
theorem dX6_hourBy_195 : decode cX6_hourBy 195 = .ok (.iload 5, 2) := by decide +kernel
theorem dX6_hourBy_197 : decode cX6_hourBy 197 = .ok (.aload_n 0, 1) := by decide +kernel
theorem dX6_hourBy_198 : decode cX6_hourBy 198 = .ok (.getfield 22, 3) := by decide +kernel
theorem dX6_hourBy_201 : decode cX6_hourBy 201 = .ok (.iload_n 3, 1) := by decide +kernel
theorem dX6_hourBy_202 : decode cX6_hourBy 202 = .ok (.iconst 5, 1) := by decide +kernel
theorem dX6_hourBy_203 : decode cX6_hourBy 203 = .ok (.iadd, 1) := by decide +kernel
theorem dX6_hourBy_204 : decode cX6_hourBy 204 = .ok (.iload 7, 2) := by decide +kernel
theorem dX6_hourBy_206 : decode cX6_hourBy 206 = .ok (.iadd, 1) := by decide +kernel
theorem dX6_hourBy_207 : decode cX6_hourBy 207 = .ok (.iaload, 1) := by decide +kernel
theorem dX6_hourBy_208 : decode cX6_hourBy 208 = .ok (.iload 6, 2) := by decide +kernel
theorem dX6_hourBy_210 : decode cX6_hourBy 210 = .ok (.if_icmp .ne 7, 3) := by decide +kernel
theorem dX6_hourBy_213 : decode cX6_hourBy 213 = .ok (.iconst 0, 1) := by decide +kernel
theorem dX6_hourBy_214 : decode cX6_hourBy 214 = .ok (.goto 7, 3) := by decide +kernel
theorem dX6_hourBy_217 : decode cX6_hourBy 217 = .ok (.iconst 1, 1) := by decide +kernel
theorem dX6_hourBy_218 : decode cX6_hourBy 218 = .ok (.iload 7, 2) := by decide +kernel
theorem dX6_hourBy_220 : decode cX6_hourBy 220 = .ok (.ishl, 1) := by decide +kernel
theorem dX6_hourBy_221 : decode cX6_hourBy 221 = .ok (.ior, 1) := by decide +kernel
theorem dX6_hourBy_222 : decode cX6_hourBy 222 = .ok (.istore 5, 2) := by decide +kernel
theorem dX6_hourBy_224 : decode cX6_hourBy 224 = .ok (.aload_n 0, 1) := by decide +kernel
theorem dX6_hourBy_225 : decode cX6_hourBy 225 = .ok (.getfield 22, 3) := by decide +kernel
theorem dX6_hourBy_228 : decode cX6_hourBy 228 = .ok (.iload_n 3, 1) := by decide +kernel
theorem dX6_hourBy_229 : decode cX6_hourBy 229 = .ok (.iconst 5, 1) := by decide +kernel
theorem dX6_hourBy_230 : decode cX6_hourBy 230 = .ok (.iadd, 1) := by decide +kernel
theorem dX6_hourBy_231 : decode cX6_hourBy 231 = .ok (.iload 7, 2) := by decide +kernel
theorem dX6_hourBy_233 : decode cX6_hourBy 233 = .ok (.iadd, 1) := by decide +kernel
theorem dX6_hourBy_234 : decode cX6_hourBy 234 = .ok (.iload 6, 2) := by decide +kernel
theorem dX6_hourBy_236 : decode cX6_hourBy 236 = .ok (.iastore, 1) := by decide +kernel
theorem dX6_hourBy_237 : decode cX6_hourBy 237 = .ok (.iinc 7 1, 3) := by decide +kernel
theorem dX6_hourBy_240 : decode cX6_hourBy 240 = .ok (.goto (-54), 3) := by decide +kernel
theorem dX6_hourBy_243 : decode cX6_hourBy 243 = .ok (.aload_n 0, 1) := by decide +kernel
theorem dX6_hourBy_244 : decode cX6_hourBy 244 = .ok (.getfield 22, 3) := by decide +kernel
theorem dX6_hourBy_247 : decode cX6_hourBy 247 = .ok (.iload_n 3, 1) := by decide +kernel
theorem dX6_hourBy_248 : decode cX6_hourBy 248 = .ok (.bipush 15, 2) := by decide +kernel
theorem dX6_hourBy_250 : decode cX6_hourBy 250 = .ok (.iadd, 1) := by decide +kernel
theorem dX6_hourBy_251 : decode cX6_hourBy 251 = .ok (.dup2, 1) := by decide +kernel
theorem dX6_hourBy_252 : decode cX6_hourBy 252 = .ok (.iaload, 1) := by decide +kernel
theorem dX6_hourBy_253 : decode cX6_hourBy 253 = .ok (.iconst 1, 1) := by decide +kernel
theorem dX6_hourBy_254 : decode cX6_hourBy 254 = .ok (.iadd, 1) := by decide +kernel
theorem dX6_hourBy_255 : decode cX6_hourBy 255 = .ok (.iastore, 1) := by decide +kernel
theorem dX6_hourBy_256 : decode cX6_hourBy 256 = .ok (.iload 5, 2) := by decide +kernel
theorem dX6_hourBy_258 : decode cX6_hourBy 258 = .ok (.invokestatic 128, 3) := by decide +kernel
theorem dX6_hourBy_261 : decode cX6_hourBy 261 = .ok (.ireturn, 1) := by decide +kernel
theorem dX6_knownOn_0 : decode cX6_knownOn 0 = .ok (.iconst 0, 1) := by decide +kernel
theorem dX6_knownOn_1 : decode cX6_knownOn 1 = .ok (.istore_n 2, 1) := by decide +kernel
theorem dX6_knownOn_2 : decode cX6_knownOn 2 = .ok (.iconst 0, 1) := by decide +kernel
theorem dX6_knownOn_3 : decode cX6_knownOn 3 = .ok (.istore_n 3, 1) := by decide +kernel
theorem dX6_knownOn_4 : decode cX6_knownOn 4 = .ok (.iload_n 3, 1) := by decide +kernel
theorem dX6_knownOn_5 : decode cX6_knownOn 5 = .ok (.aload_n 0, 1) := by decide +kernel
theorem dX6_knownOn_6 : decode cX6_knownOn 6 = .ok (.getfield 93, 3) := by decide +kernel
theorem dX6_knownOn_9 : decode cX6_knownOn 9 = .ok (.if_icmp .ge 25, 3) := by decide +kernel
theorem dX6_knownOn_12 : decode cX6_knownOn 12 = .ok (.iload_n 2, 1) := by decide +kernel
theorem dX6_knownOn_13 : decode cX6_knownOn 13 = .ok (.aload_n 0, 1) := by decide +kernel
theorem dX6_knownOn_14 : decode cX6_knownOn 14 = .ok (.getfield 22, 3) := by decide +kernel
theorem dX6_knownOn_17 : decode cX6_knownOn 17 = .ok (.bipush 17, 2) := by decide +kernel
theorem dX6_knownOn_19 : decode cX6_knownOn 19 = .ok (.iload_n 1, 1) := by decide +kernel
theorem dX6_knownOn_20 : decode cX6_knownOn 20 = .ok (.imul, 1) := by decide +kernel
theorem dX6_knownOn_21 : decode cX6_knownOn 21 = .ok (.iconst 5, 1) := by decide +kernel
theorem dX6_knownOn_22 : decode cX6_knownOn 22 = .ok (.iadd, 1) := by decide +kernel
theorem dX6_knownOn_23 : decode cX6_knownOn 23 = .ok (.iload_n 3, 1) := by decide +kernel
theorem dX6_knownOn_24 : decode cX6_knownOn 24 = .ok (.iadd, 1) := by decide +kernel
theorem dX6_knownOn_25 : decode cX6_knownOn 25 = .ok (.iaload, 1) := by decide +kernel
theorem dX6_knownOn_26 : decode cX6_knownOn 26 = .ok (.ior, 1) := by decide +kernel
theorem dX6_knownOn_27 : decode cX6_knownOn 27 = .ok (.istore_n 2, 1) := by decide +kernel
end
section
theorem dX6_knownOn_28 : decode cX6_knownOn 28 = .ok (.iinc 3 1, 3) := by decide +kernel
theorem dX6_knownOn_31 : decode cX6_knownOn 31 = .ok (.goto (-27), 3) := by decide +kernel
theorem dX6_knownOn_34 : decode cX6_knownOn 34 = .ok (.iload_n 2, 1) := by decide +kernel
theorem dX6_knownOn_35 : decode cX6_knownOn 35 = .ok (.ireturn, 1) := by decide +kernel
theorem dX6_knowsAt_0 : decode cX6_knowsAt 0 = .ok (.bipush 17, 2) := by decide +kernel
theorem dX6_knowsAt_2 : decode cX6_knowsAt 2 = .ok (.iload_n 1, 1) := by decide +kernel
theorem dX6_knowsAt_3 : decode cX6_knowsAt 3 = .ok (.imul, 1) := by decide +kernel
theorem dX6_knowsAt_4 : decode cX6_knowsAt 4 = .ok (.istore_n 3, 1) := by decide +kernel
theorem dX6_knowsAt_5 : decode cX6_knowsAt 5 = .ok (.aload_n 0, 1) := by decide +kernel
theorem dX6_knowsAt_6 : decode cX6_knowsAt 6 = .ok (.getfield 22, 3) := by decide +kernel
theorem dX6_knowsAt_9 : decode cX6_knowsAt 9 = .ok (.iload_n 3, 1) := by decide +kernel
theorem dX6_knowsAt_10 : decode cX6_knowsAt 10 = .ok (.iconst 5, 1) := by decide +kernel
theorem dX6_knowsAt_11 : decode cX6_knowsAt 11 = .ok (.iadd, 1) := by decide +kernel
theorem dX6_knowsAt_12 : decode cX6_knowsAt 12 = .ok (.aload_n 0, 1) := by decide +kernel
theorem dX6_knowsAt_13 : decode cX6_knowsAt 13 = .ok (.getfield 22, 3) := by decide +kernel
theorem dX6_knowsAt_16 : decode cX6_knowsAt 16 = .ok (.iload_n 3, 1) := by decide +kernel
theorem dX6_knowsAt_17 : decode cX6_knowsAt 17 = .ok (.iload_n 2, 1) := by decide +kernel
theorem dX6_knowsAt_18 : decode cX6_knowsAt 18 = .ok (.iadd, 1) := by decide +kernel
theorem dX6_knowsAt_19 : decode cX6_knowsAt 19 = .ok (.iaload, 1) := by decide +kernel
theorem dX6_knowsAt_20 : decode cX6_knowsAt 20 = .ok (.iadd, 1) := by decide +kernel
theorem dX6_knowsAt_21 : decode cX6_knowsAt 21 = .ok (.iaload, 1) := by decide +kernel
theorem dX6_knowsAt_22 : decode cX6_knowsAt 22 = .ok (.ireturn, 1) := by decide +kernel
set_option maxRecDepth 20000 in
theorem ggX6_house_X6_isHouse : GoodIn wsX6_house wsX6_isHouse := goodIn_r _ [8, 9, 10, 11, 7, 12, 40, 41, 42, 43, 44, 45, 46, 47, 48, 49, 50, 51, 52, 53, 54, 55, 56, 57, 58, 59, 60, 61, 62, 63, 64, 65, 66, 67] (by decide +kernel) (by decide +kernel)
set_option maxRecDepth 20000 in
theorem gX6_house_X6_isHouse : GoodIn wsX6_house (wsV RX6 131 RX6 yX6_isHouse wsX6_isHouse) := goodIn_app (goodIn_of _ (by decide +kernel)) ggX6_house_X6_isHouse
set_option maxRecDepth 20000 in
theorem ggX6_house_X6_knowsAt : GoodIn wsX6_house wsX6_knowsAt := goodIn_r _ [16, 2, 40, 41, 42, 43, 44, 45, 46, 47, 48, 49, 50, 51, 52, 53, 54, 55, 56, 57, 58, 59, 60, 61, 62, 63, 64, 65, 66, 67] (by decide +kernel) (by decide +kernel)
set_option maxRecDepth 20000 in
theorem gX6_house_X6_knowsAt : GoodIn wsX6_house (wsV RX6 134 RX6 yX6_knowsAt wsX6_knowsAt) := goodIn_app (goodIn_of _ (by decide +kernel)) ggX6_house_X6_knowsAt
set_option maxRecDepth 20000 in
theorem ggX6_house_X6_sayingOn : GoodIn wsX6_house wsX6_sayingOn := goodIn_r _ [20, 21, 2, 40, 41, 42, 43, 44, 45, 46, 47, 48, 49, 50, 51, 52, 53, 54, 55, 56, 57, 58, 59, 60, 61, 62, 63, 64, 65, 66, 67] (by decide +kernel) (by decide +kernel)
set_option maxRecDepth 20000 in
theorem gX6_house_X6_sayingOn : GoodIn wsX6_house (wsV RX6 114 RX6 yX6_sayingOn wsX6_sayingOn) := goodIn_app (goodIn_of _ (by decide +kernel)) ggX6_house_X6_sayingOn
set_option maxRecDepth 20000 in
theorem ggX6_house_X6_rainOn : GoodIn wsX6_house wsX6_rainOn := goodIn_r _ [25, 26, 27, 2, 40, 41, 42, 43, 44, 45, 46, 47, 48, 49, 50, 51, 52, 53, 54, 55, 56, 57, 58, 59, 60, 61, 62, 63, 64, 65, 66, 67] (by decide +kernel) (by decide +kernel)
set_option maxRecDepth 20000 in
theorem gX6_house_X6_rainOn : GoodIn wsX6_house (wsV RX6 138 RX6 yX6_rainOn wsX6_rainOn) := goodIn_app (goodIn_of _ (by decide +kernel)) ggX6_house_X6_rainOn
set_option maxRecDepth 20000 in
theorem ggX6_house_X6_hears : GoodIn wsX6_house wsX6_hears := goodIn_r _ [31, 32, 3, 2, 1, 33, 34, 35, 7, 36, 37, 38, 39, 40, 41, 42, 43, 44, 45, 46, 47, 48, 49, 50, 51, 52, 53, 54, 55, 56, 57, 58, 59, 60, 61, 62, 63, 64, 65, 66, 67] (by decide +kernel) (by decide +kernel)
set_option maxRecDepth 20000 in
theorem gX6_house_X6_hears : GoodIn wsX6_house (wsV RX6 117 RX6 yX6_hears wsX6_hears) := goodIn_app (goodIn_of _ (by decide +kernel)) ggX6_house_X6_hears
theorem dX6_house_0 : decode cX6_house 0 = .ok (.aload_n 0, 1) := by decide +kernel
theorem dX6_house_1 : decode cX6_house 1 = .ok (.iload_n 1, 1) := by decide +kernel
theorem dX6_house_2 : decode cX6_house 2 = .ok (.invokevirtual 131, 3) := by decide +kernel
theorem dX6_house_5 : decode cX6_house 5 = .ok (.ifCond .ne 5, 3) := by decide +kernel
theorem dX6_house_8 : decode cX6_house 8 = .ok (.iconst (-1), 1) := by decide +kernel
theorem dX6_house_9 : decode cX6_house 9 = .ok (.ireturn, 1) := by decide +kernel
theorem dX6_house_10 : decode cX6_house 10 = .ok (.iload_n 2, 1) := by decide +kernel
theorem dX6_house_11 : decode cX6_house 11 = .ok (.tableswitch 105 0 5 #[37, 44, 54, 66, 73, 80], 37) := by decide +kernel
theorem dX6_house_48 : decode cX6_house 48 = .ok (.aload_n 0, 1) := by decide +kernel
theorem dX6_house_49 : decode cX6_house 49 = .ok (.getfield 13, 3) := by decide +kernel
theorem dX6_house_52 : decode cX6_house 52 = .ok (.iload_n 1, 1) := by decide +kernel
theorem dX6_house_53 : decode cX6_house 53 = .ok (.iaload, 1) := by decide +kernel
theorem dX6_house_54 : decode cX6_house 54 = .ok (.ireturn, 1) := by decide +kernel
theorem dX6_house_55 : decode cX6_house 55 = .ok (.aload_n 0, 1) := by decide +kernel
theorem dX6_house_56 : decode cX6_house 56 = .ok (.getfield 22, 3) := by decide +kernel
theorem dX6_house_59 : decode cX6_house 59 = .ok (.bipush 10, 2) := by decide +kernel
theorem dX6_house_61 : decode cX6_house 61 = .ok (.iload_n 1, 1) := by decide +kernel
theorem dX6_house_62 : decode cX6_house 62 = .ok (.iadd, 1) := by decide +kernel
theorem dX6_house_63 : decode cX6_house 63 = .ok (.iaload, 1) := by decide +kernel
theorem dX6_house_64 : decode cX6_house 64 = .ok (.ireturn, 1) := by decide +kernel
theorem dX6_house_65 : decode cX6_house 65 = .ok (.aload_n 0, 1) := by decide +kernel
theorem dX6_house_66 : decode cX6_house 66 = .ok (.getfield 7, 3) := by decide +kernel
theorem dX6_house_69 : decode cX6_house 69 = .ok (.aload_n 0, 1) := by decide +kernel
theorem dX6_house_70 : decode cX6_house 70 = .ok (.getfield 22, 3) := by decide +kernel
theorem dX6_house_73 : decode cX6_house 73 = .ok (.iload_n 1, 1) := by decide +kernel
theorem dX6_house_74 : decode cX6_house 74 = .ok (.iaload, 1) := by decide +kernel
theorem dX6_house_75 : decode cX6_house 75 = .ok (.iaload, 1) := by decide +kernel
theorem dX6_house_76 : decode cX6_house 76 = .ok (.ireturn, 1) := by decide +kernel
theorem dX6_house_77 : decode cX6_house 77 = .ok (.aload_n 0, 1) := by decide +kernel
theorem dX6_house_78 : decode cX6_house 78 = .ok (.iconst 0, 1) := by decide +kernel
theorem dX6_house_79 : decode cX6_house 79 = .ok (.iload_n 1, 1) := by decide +kernel
theorem dX6_house_80 : decode cX6_house 80 = .ok (.invokevirtual 134, 3) := by decide +kernel
theorem dX6_house_83 : decode cX6_house 83 = .ok (.ireturn, 1) := by decide +kernel
theorem dX6_house_84 : decode cX6_house 84 = .ok (.aload_n 0, 1) := by decide +kernel
theorem dX6_house_85 : decode cX6_house 85 = .ok (.getfield 22, 3) := by decide +kernel
theorem dX6_house_88 : decode cX6_house 88 = .ok (.iload_n 1, 1) := by decide +kernel
theorem dX6_house_89 : decode cX6_house 89 = .ok (.iaload, 1) := by decide +kernel
theorem dX6_house_90 : decode cX6_house 90 = .ok (.ireturn, 1) := by decide +kernel
theorem dX6_house_91 : decode cX6_house 91 = .ok (.aload_n 0, 1) := by decide +kernel
theorem dX6_house_92 : decode cX6_house 92 = .ok (.iconst 0, 1) := by decide +kernel
theorem dX6_house_93 : decode cX6_house 93 = .ok (.iload_n 1, 1) := by decide +kernel
theorem dX6_house_94 : decode cX6_house 94 = .ok (.aload_n 0, 1) := by decide +kernel
theorem dX6_house_95 : decode cX6_house 95 = .ok (.iconst 0, 1) := by decide +kernel
theorem dX6_house_96 : decode cX6_house 96 = .ok (.invokevirtual 114, 3) := by decide +kernel
theorem dX6_house_99 : decode cX6_house 99 = .ok (.aload_n 0, 1) := by decide +kernel
theorem dX6_house_100 : decode cX6_house 100 = .ok (.iconst 0, 1) := by decide +kernel
theorem dX6_house_101 : decode cX6_house 101 = .ok (.invokevirtual 138, 3) := by decide +kernel
theorem dX6_house_104 : decode cX6_house 104 = .ok (.invokevirtual 117, 3) := by decide +kernel
theorem dX6_house_107 : decode cX6_house 107 = .ok (.ifCond .eq 7, 3) := by decide +kernel
theorem dX6_house_110 : decode cX6_house 110 = .ok (.iconst 1, 1) := by decide +kernel
theorem dX6_house_111 : decode cX6_house 111 = .ok (.goto 4, 3) := by decide +kernel
theorem dX6_house_114 : decode cX6_house 114 = .ok (.iconst 0, 1) := by decide +kernel
theorem dX6_house_115 : decode cX6_house 115 = .ok (.ireturn, 1) := by decide +kernel
theorem dX6_house_116 : decode cX6_house 116 = .ok (.bipush (-2), 2) := by decide +kernel
theorem dX6_house_118 : decode cX6_house 118 = .ok (.ireturn, 1) := by decide +kernel
set_option maxRecDepth 20000 in
theorem ggX6_saying_X6_in : GoodIn wsX6_saying wsX6_in := goodIn_r _ [7] (by decide +kernel) (by decide +kernel)
set_option maxRecDepth 20000 in
theorem gX6_saying_X6_in : GoodIn wsX6_saying (va_wsS RX6 58 yX6_in wsX6_in) := goodIn_app (goodIn_of _ (by decide +kernel)) ggX6_saying_X6_in
theorem dX6_saying_0 : decode cX6_saying 0 = .ok (.iload_n 1, 1) := by decide +kernel
theorem dX6_saying_1 : decode cX6_saying 1 = .ok (.i2l, 1) := by decide +kernel
theorem dX6_saying_2 : decode cX6_saying 2 = .ok (.lconst 0, 1) := by decide +kernel
theorem dX6_saying_3 : decode cX6_saying 3 = .ok (.aload_n 0, 1) := by decide +kernel
theorem dX6_saying_4 : decode cX6_saying 4 = .ok (.getfield 96, 3) := by decide +kernel
theorem dX6_saying_7 : decode cX6_saying 7 = .ok (.iconst 1, 1) := by decide +kernel
theorem dX6_saying_8 : decode cX6_saying 8 = .ok (.isub, 1) := by decide +kernel
theorem dX6_saying_9 : decode cX6_saying 9 = .ok (.i2l, 1) := by decide +kernel
theorem dX6_saying_10 : decode cX6_saying 10 = .ok (.invokestatic 58, 3) := by decide +kernel
theorem dX6_saying_13 : decode cX6_saying 13 = .ok (.ifCond .ne 5, 3) := by decide +kernel
theorem dX6_saying_16 : decode cX6_saying 16 = .ok (.iconst (-1), 1) := by decide +kernel
theorem dX6_saying_17 : decode cX6_saying 17 = .ok (.ireturn, 1) := by decide +kernel
theorem dX6_saying_18 : decode cX6_saying 18 = .ok (.iload_n 2, 1) := by decide +kernel
theorem dX6_saying_19 : decode cX6_saying 19 = .ok (.i2l, 1) := by decide +kernel
theorem dX6_saying_20 : decode cX6_saying 20 = .ok (.lconst 0, 1) := by decide +kernel
theorem dX6_saying_21 : decode cX6_saying 21 = .ok (.ldc2_w 141, 3) := by decide +kernel
theorem dX6_saying_24 : decode cX6_saying 24 = .ok (.invokestatic 58, 3) := by decide +kernel
theorem dX6_saying_27 : decode cX6_saying 27 = .ok (.ifCond .eq 16, 3) := by decide +kernel
theorem dX6_saying_30 : decode cX6_saying 30 = .ok (.aload_n 0, 1) := by decide +kernel
theorem dX6_saying_31 : decode cX6_saying 31 = .ok (.getfield 16, 3) := by decide +kernel
theorem dX6_saying_34 : decode cX6_saying 34 = .ok (.iconst 3, 1) := by decide +kernel
theorem dX6_saying_35 : decode cX6_saying 35 = .ok (.iload_n 1, 1) := by decide +kernel
theorem dX6_saying_36 : decode cX6_saying 36 = .ok (.imul, 1) := by decide +kernel
theorem dX6_saying_37 : decode cX6_saying 37 = .ok (.iload_n 2, 1) := by decide +kernel
theorem dX6_saying_38 : decode cX6_saying 38 = .ok (.iadd, 1) := by decide +kernel
theorem dX6_saying_39 : decode cX6_saying 39 = .ok (.iaload, 1) := by decide +kernel
theorem dX6_saying_40 : decode cX6_saying 40 = .ok (.goto 5, 3) := by decide +kernel
theorem dX6_saying_43 : decode cX6_saying 43 = .ok (.bipush (-2), 2) := by decide +kernel
theorem dX6_saying_45 : decode cX6_saying 45 = .ok (.ireturn, 1) := by decide +kernel
theorem dX6_keepAct_0 : decode cX6_keepAct 0 = .ok (.iconst 0, 1) := by decide +kernel
theorem dX6_keepAct_1 : decode cX6_keepAct 1 = .ok (.istore_n 1, 1) := by decide +kernel
theorem dX6_keepAct_2 : decode cX6_keepAct 2 = .ok (.iload_n 1, 1) := by decide +kernel
theorem dX6_keepAct_3 : decode cX6_keepAct 3 = .ok (.bipush 17, 2) := by decide +kernel
theorem dX6_keepAct_5 : decode cX6_keepAct 5 = .ok (.if_icmp .ge 29, 3) := by decide +kernel
theorem dX6_keepAct_8 : decode cX6_keepAct 8 = .ok (.aload_n 0, 1) := by decide +kernel
theorem dX6_keepAct_9 : decode cX6_keepAct 9 = .ok (.getfield 37, 3) := by decide +kernel
theorem dX6_keepAct_12 : decode cX6_keepAct 12 = .ok (.bipush 17, 2) := by decide +kernel
theorem dX6_keepAct_14 : decode cX6_keepAct 14 = .ok (.aload_n 0, 1) := by decide +kernel
theorem dX6_keepAct_15 : decode cX6_keepAct 15 = .ok (.getfield 143, 3) := by decide +kernel
theorem dX6_keepAct_18 : decode cX6_keepAct 18 = .ok (.imul, 1) := by decide +kernel
theorem dX6_keepAct_19 : decode cX6_keepAct 19 = .ok (.iload_n 1, 1) := by decide +kernel
theorem dX6_keepAct_20 : decode cX6_keepAct 20 = .ok (.iadd, 1) := by decide +kernel
theorem dX6_keepAct_21 : decode cX6_keepAct 21 = .ok (.aload_n 0, 1) := by decide +kernel
theorem dX6_keepAct_22 : decode cX6_keepAct 22 = .ok (.getfield 22, 3) := by decide +kernel
theorem dX6_keepAct_25 : decode cX6_keepAct 25 = .ok (.iload_n 1, 1) := by decide +kernel
theorem dX6_keepAct_26 : decode cX6_keepAct 26 = .ok (.iaload, 1) := by decide +kernel
theorem dX6_keepAct_27 : decode cX6_keepAct 27 = .ok (.iastore, 1) := by decide +kernel
theorem dX6_keepAct_28 : decode cX6_keepAct 28 = .ok (.iinc 1 1, 3) := by decide +kernel
theorem dX6_keepAct_31 : decode cX6_keepAct 31 = .ok (.goto (-29), 3) := by decide +kernel
theorem dX6_keepAct_34 : decode cX6_keepAct 34 = .ok (.aload_n 0, 1) := by decide +kernel
theorem dX6_keepAct_35 : decode cX6_keepAct 35 = .ok (.aload_n 0, 1) := by decide +kernel
theorem dX6_keepAct_36 : decode cX6_keepAct 36 = .ok (.getfield 143, 3) := by decide +kernel
theorem dX6_keepAct_39 : decode cX6_keepAct 39 = .ok (.iconst 1, 1) := by decide +kernel
theorem dX6_keepAct_40 : decode cX6_keepAct 40 = .ok (.iadd, 1) := by decide +kernel
theorem dX6_keepAct_41 : decode cX6_keepAct 41 = .ok (.bipush 14, 2) := by decide +kernel
theorem dX6_keepAct_43 : decode cX6_keepAct 43 = .ok (.irem, 1) := by decide +kernel
theorem dX6_keepAct_44 : decode cX6_keepAct 44 = .ok (.putfield 143, 3) := by decide +kernel
theorem dX6_keepAct_47 : decode cX6_keepAct 47 = .ok (.aload_n 0, 1) := by decide +kernel
theorem dX6_keepAct_48 : decode cX6_keepAct 48 = .ok (.aload_n 0, 1) := by decide +kernel
theorem dX6_keepAct_49 : decode cX6_keepAct 49 = .ok (.getfield 102, 3) := by decide +kernel
theorem dX6_keepAct_52 : decode cX6_keepAct 52 = .ok (.bipush 14, 2) := by decide +kernel
theorem dX6_keepAct_54 : decode cX6_keepAct 54 = .ok (.if_icmp .ge 12, 3) := by decide +kernel
theorem dX6_keepAct_57 : decode cX6_keepAct 57 = .ok (.aload_n 0, 1) := by decide +kernel
theorem dX6_keepAct_58 : decode cX6_keepAct 58 = .ok (.getfield 102, 3) := by decide +kernel
theorem dX6_keepAct_61 : decode cX6_keepAct 61 = .ok (.iconst 1, 1) := by decide +kernel
theorem dX6_keepAct_62 : decode cX6_keepAct 62 = .ok (.iadd, 1) := by decide +kernel
theorem dX6_keepAct_63 : decode cX6_keepAct 63 = .ok (.goto 5, 3) := by decide +kernel
theorem dX6_keepAct_66 : decode cX6_keepAct 66 = .ok (.bipush 14, 2) := by decide +kernel
theorem dX6_keepAct_68 : decode cX6_keepAct 68 = .ok (.putfield 102, 3) := by decide +kernel
theorem dX6_keepAct_71 : decode cX6_keepAct 71 = .ok (.return_, 1) := by decide +kernel
set_option maxRecDepth 20000 in
theorem ggX6_hour_X6_keepAct : GoodIn wsX6_hour wsX6_keepAct := goodIn_r _ [5, 6, 7, 8, 9, 50, 51, 52, 53, 54, 55, 56, 57, 58, 59, 60, 61, 62, 63, 64, 65, 66, 67, 68, 69, 70, 71, 72, 73, 74, 75, 76, 77] (by decide +kernel) (by decide +kernel)
set_option maxRecDepth 20000 in
theorem gX6_hour_X6_keepAct : GoodIn wsX6_hour (wsV RX6 146 RX6 yX6_keepAct wsX6_keepAct) := goodIn_app (goodIn_of _ (by decide +kernel)) ggX6_hour_X6_keepAct
set_option maxRecDepth 20000 in
theorem ggX6_hour_X6_rainOn : GoodIn wsX6_hour wsX6_rainOn := goodIn_r _ [13, 14, 15, 8, 50, 51, 52, 53, 54, 55, 56, 57, 58, 59, 60, 61, 62, 63, 64, 65, 66, 67, 68, 69, 70, 71, 72, 73, 74, 75, 76, 77] (by decide +kernel) (by decide +kernel)
set_option maxRecDepth 20000 in
theorem gX6_hour_X6_rainOn : GoodIn wsX6_hour (wsV RX6 138 RX6 yX6_rainOn wsX6_rainOn) := goodIn_app (goodIn_of _ (by decide +kernel)) ggX6_hour_X6_rainOn
set_option maxRecDepth 20000 in
theorem ggX6_hour_X6_hourBy : GoodIn wsX6_hour wsX6_hourBy := goodIn_r _ [19, 20, 8, 21, 22, 23, 24, 4, 25, 26, 27, 28, 29, 30, 31, 32, 33, 34, 35, 36, 37, 38, 39, 40, 41, 42, 43, 44, 45, 46, 47, 48, 49, 50, 51, 52, 53, 54, 55, 56, 57, 58, 59, 60, 61, 62, 63, 64, 65, 66, 67, 68, 69, 70, 71, 72, 73, 74, 75, 76, 77] (by decide +kernel) (by decide +kernel)
set_option maxRecDepth 20000 in
theorem gX6_hour_X6_hourBy : GoodIn wsX6_hour (wsV RX6 149 RX6 yX6_hourBy wsX6_hourBy) := goodIn_app (goodIn_of _ (by decide +kernel)) ggX6_hour_X6_hourBy
theorem dX6_hour_0 : decode cX6_hour 0 = .ok (.aload_n 0, 1) := by decide +kernel
theorem dX6_hour_1 : decode cX6_hour 1 = .ok (.invokevirtual 146, 3) := by decide +kernel
theorem dX6_hour_4 : decode cX6_hour 4 = .ok (.aload_n 0, 1) := by decide +kernel
theorem dX6_hour_5 : decode cX6_hour 5 = .ok (.iconst 0, 1) := by decide +kernel
theorem dX6_hour_6 : decode cX6_hour 6 = .ok (.aload_n 0, 1) := by decide +kernel
theorem dX6_hour_7 : decode cX6_hour 7 = .ok (.iconst 0, 1) := by decide +kernel
theorem dX6_hour_8 : decode cX6_hour 8 = .ok (.invokevirtual 138, 3) := by decide +kernel
theorem dX6_hour_11 : decode cX6_hour 11 = .ok (.invokevirtual 149, 3) := by decide +kernel
theorem dX6_hour_14 : decode cX6_hour 14 = .ok (.ireturn, 1) := by decide +kernel
set_option maxRecDepth 20000 in
theorem ggX6_lower_X6_isHouse : GoodIn wsX6_lower wsX6_isHouse := goodIn_r _ [6, 7, 8, 9, 5, 10, 18, 19, 20, 21, 22, 23, 24, 25, 26, 27, 28, 29, 30, 31, 32, 33, 34, 35, 36, 37, 38, 39, 40, 41, 42, 43, 44, 45] (by decide +kernel) (by decide +kernel)
set_option maxRecDepth 20000 in
theorem gX6_lower_X6_isHouse : GoodIn wsX6_lower (wsV RX6 131 RX6 yX6_isHouse wsX6_isHouse) := goodIn_app (goodIn_of _ (by decide +kernel)) ggX6_lower_X6_isHouse
set_option maxRecDepth 20000 in
theorem ggX6_lower_X6_keepAct : GoodIn wsX6_lower wsX6_keepAct := goodIn_r _ [14, 15, 16, 1, 17, 18, 19, 20, 21, 22, 23, 24, 25, 26, 27, 28, 29, 30, 31, 32, 33, 34, 35, 36, 37, 38, 39, 40, 41, 42, 43, 44, 45] (by decide +kernel) (by decide +kernel)
set_option maxRecDepth 20000 in
theorem gX6_lower_X6_keepAct : GoodIn wsX6_lower (wsV RX6 146 RX6 yX6_keepAct wsX6_keepAct) := goodIn_app (goodIn_of _ (by decide +kernel)) ggX6_lower_X6_keepAct
theorem dX6_lower_0 : decode cX6_lower 0 = .ok (.aload_n 0, 1) := by decide +kernel
theorem dX6_lower_1 : decode cX6_lower 1 = .ok (.iload_n 1, 1) := by decide +kernel
theorem dX6_lower_2 : decode cX6_lower 2 = .ok (.invokevirtual 131, 3) := by decide +kernel
theorem dX6_lower_5 : decode cX6_lower 5 = .ok (.ifCond .ne 5, 3) := by decide +kernel
theorem dX6_lower_8 : decode cX6_lower 8 = .ok (.iconst (-1), 1) := by decide +kernel
theorem dX6_lower_9 : decode cX6_lower 9 = .ok (.ireturn, 1) := by decide +kernel
theorem dX6_lower_10 : decode cX6_lower 10 = .ok (.aload_n 0, 1) := by decide +kernel
theorem dX6_lower_11 : decode cX6_lower 11 = .ok (.getfield 22, 3) := by decide +kernel
theorem dX6_lower_14 : decode cX6_lower 14 = .ok (.bipush 10, 2) := by decide +kernel
theorem dX6_lower_16 : decode cX6_lower 16 = .ok (.iload_n 1, 1) := by decide +kernel
theorem dX6_lower_17 : decode cX6_lower 17 = .ok (.iadd, 1) := by decide +kernel
theorem dX6_lower_18 : decode cX6_lower 18 = .ok (.iaload, 1) := by decide +kernel
theorem dX6_lower_19 : decode cX6_lower 19 = .ok (.bipush (-3), 2) := by decide +kernel
theorem dX6_lower_21 : decode cX6_lower 21 = .ok (.if_icmp .ne 6, 3) := by decide +kernel
theorem dX6_lower_24 : decode cX6_lower 24 = .ok (.bipush (-3), 2) := by decide +kernel
theorem dX6_lower_26 : decode cX6_lower 26 = .ok (.ireturn, 1) := by decide +kernel
theorem dX6_lower_27 : decode cX6_lower 27 = .ok (.aload_n 0, 1) := by decide +kernel
theorem dX6_lower_28 : decode cX6_lower 28 = .ok (.invokevirtual 146, 3) := by decide +kernel
theorem dX6_lower_31 : decode cX6_lower 31 = .ok (.aload_n 0, 1) := by decide +kernel
theorem dX6_lower_32 : decode cX6_lower 32 = .ok (.getfield 22, 3) := by decide +kernel
theorem dX6_lower_35 : decode cX6_lower 35 = .ok (.bipush 10, 2) := by decide +kernel
theorem dX6_lower_37 : decode cX6_lower 37 = .ok (.iload_n 1, 1) := by decide +kernel
theorem dX6_lower_38 : decode cX6_lower 38 = .ok (.iadd, 1) := by decide +kernel
theorem dX6_lower_39 : decode cX6_lower 39 = .ok (.dup2, 1) := by decide +kernel
theorem dX6_lower_40 : decode cX6_lower 40 = .ok (.iaload, 1) := by decide +kernel
theorem dX6_lower_41 : decode cX6_lower 41 = .ok (.iconst 1, 1) := by decide +kernel
theorem dX6_lower_42 : decode cX6_lower 42 = .ok (.isub, 1) := by decide +kernel
theorem dX6_lower_43 : decode cX6_lower 43 = .ok (.iastore, 1) := by decide +kernel
theorem dX6_lower_44 : decode cX6_lower 44 = .ok (.aload_n 0, 1) := by decide +kernel
theorem dX6_lower_45 : decode cX6_lower 45 = .ok (.getfield 22, 3) := by decide +kernel
theorem dX6_lower_48 : decode cX6_lower 48 = .ok (.bipush 10, 2) := by decide +kernel
theorem dX6_lower_50 : decode cX6_lower 50 = .ok (.iload_n 1, 1) := by decide +kernel
theorem dX6_lower_51 : decode cX6_lower 51 = .ok (.iadd, 1) := by decide +kernel
theorem dX6_lower_52 : decode cX6_lower 52 = .ok (.iaload, 1) := by decide +kernel
theorem dX6_lower_53 : decode cX6_lower 53 = .ok (.ireturn, 1) := by decide +kernel
set_option maxRecDepth 20000 in
theorem ggX6_raise_X6_isHouse : GoodIn wsX6_raise wsX6_isHouse := goodIn_r _ [6, 7, 8, 9, 5, 10, 18, 19, 20, 21, 22, 23, 24, 25, 26, 27, 28, 29, 30, 31, 32, 33, 34, 35, 36, 37, 38, 39, 40, 41, 42, 43, 44, 45] (by decide +kernel) (by decide +kernel)
set_option maxRecDepth 20000 in
theorem gX6_raise_X6_isHouse : GoodIn wsX6_raise (wsV RX6 131 RX6 yX6_isHouse wsX6_isHouse) := goodIn_app (goodIn_of _ (by decide +kernel)) ggX6_raise_X6_isHouse
set_option maxRecDepth 20000 in
theorem ggX6_raise_X6_keepAct : GoodIn wsX6_raise wsX6_keepAct := goodIn_r _ [14, 15, 16, 1, 17, 18, 19, 20, 21, 22, 23, 24, 25, 26, 27, 28, 29, 30, 31, 32, 33, 34, 35, 36, 37, 38, 39, 40, 41, 42, 43, 44, 45] (by decide +kernel) (by decide +kernel)
set_option maxRecDepth 20000 in
theorem gX6_raise_X6_keepAct : GoodIn wsX6_raise (wsV RX6 146 RX6 yX6_keepAct wsX6_keepAct) := goodIn_app (goodIn_of _ (by decide +kernel)) ggX6_raise_X6_keepAct
theorem dX6_raise_0 : decode cX6_raise 0 = .ok (.aload_n 0, 1) := by decide +kernel
theorem dX6_raise_1 : decode cX6_raise 1 = .ok (.iload_n 1, 1) := by decide +kernel
theorem dX6_raise_2 : decode cX6_raise 2 = .ok (.invokevirtual 131, 3) := by decide +kernel
theorem dX6_raise_5 : decode cX6_raise 5 = .ok (.ifCond .ne 5, 3) := by decide +kernel
theorem dX6_raise_8 : decode cX6_raise 8 = .ok (.iconst (-1), 1) := by decide +kernel
theorem dX6_raise_9 : decode cX6_raise 9 = .ok (.ireturn, 1) := by decide +kernel
theorem dX6_raise_10 : decode cX6_raise 10 = .ok (.aload_n 0, 1) := by decide +kernel
theorem dX6_raise_11 : decode cX6_raise 11 = .ok (.getfield 22, 3) := by decide +kernel
theorem dX6_raise_14 : decode cX6_raise 14 = .ok (.bipush 10, 2) := by decide +kernel
theorem dX6_raise_16 : decode cX6_raise 16 = .ok (.iload_n 1, 1) := by decide +kernel
theorem dX6_raise_17 : decode cX6_raise 17 = .ok (.iadd, 1) := by decide +kernel
theorem dX6_raise_18 : decode cX6_raise 18 = .ok (.iaload, 1) := by decide +kernel
theorem dX6_raise_19 : decode cX6_raise 19 = .ok (.iconst 3, 1) := by decide +kernel
theorem dX6_raise_20 : decode cX6_raise 20 = .ok (.if_icmp .ne 6, 3) := by decide +kernel
theorem dX6_raise_23 : decode cX6_raise 23 = .ok (.bipush (-3), 2) := by decide +kernel
theorem dX6_raise_25 : decode cX6_raise 25 = .ok (.ireturn, 1) := by decide +kernel
theorem dX6_raise_26 : decode cX6_raise 26 = .ok (.aload_n 0, 1) := by decide +kernel
theorem dX6_raise_27 : decode cX6_raise 27 = .ok (.invokevirtual 146, 3) := by decide +kernel
theorem dX6_raise_30 : decode cX6_raise 30 = .ok (.aload_n 0, 1) := by decide +kernel
theorem dX6_raise_31 : decode cX6_raise 31 = .ok (.getfield 22, 3) := by decide +kernel
theorem dX6_raise_34 : decode cX6_raise 34 = .ok (.bipush 10, 2) := by decide +kernel
theorem dX6_raise_36 : decode cX6_raise 36 = .ok (.iload_n 1, 1) := by decide +kernel
theorem dX6_raise_37 : decode cX6_raise 37 = .ok (.iadd, 1) := by decide +kernel
theorem dX6_raise_38 : decode cX6_raise 38 = .ok (.dup2, 1) := by decide +kernel
theorem dX6_raise_39 : decode cX6_raise 39 = .ok (.iaload, 1) := by decide +kernel
theorem dX6_raise_40 : decode cX6_raise 40 = .ok (.iconst 1, 1) := by decide +kernel
theorem dX6_raise_41 : decode cX6_raise 41 = .ok (.iadd, 1) := by decide +kernel
theorem dX6_raise_42 : decode cX6_raise 42 = .ok (.iastore, 1) := by decide +kernel
theorem dX6_raise_43 : decode cX6_raise 43 = .ok (.aload_n 0, 1) := by decide +kernel
theorem dX6_raise_44 : decode cX6_raise 44 = .ok (.getfield 22, 3) := by decide +kernel
theorem dX6_raise_47 : decode cX6_raise 47 = .ok (.bipush 10, 2) := by decide +kernel
theorem dX6_raise_49 : decode cX6_raise 49 = .ok (.iload_n 1, 1) := by decide +kernel
theorem dX6_raise_50 : decode cX6_raise 50 = .ok (.iadd, 1) := by decide +kernel
theorem dX6_raise_51 : decode cX6_raise 51 = .ok (.iaload, 1) := by decide +kernel
theorem dX6_raise_52 : decode cX6_raise 52 = .ok (.ireturn, 1) := by decide +kernel
theorem dX6_changeOn_0 : decode cX6_changeOn 0 = .ok (.bipush 17, 2) := by decide +kernel
theorem dX6_changeOn_2 : decode cX6_changeOn 2 = .ok (.iload_n 1, 1) := by decide +kernel
theorem dX6_changeOn_3 : decode cX6_changeOn 3 = .ok (.imul, 1) := by decide +kernel
theorem dX6_changeOn_4 : decode cX6_changeOn 4 = .ok (.istore 4, 2) := by decide +kernel
theorem dX6_changeOn_6 : decode cX6_changeOn 6 = .ok (.aload_n 0, 1) := by decide +kernel
theorem dX6_changeOn_7 : decode cX6_changeOn 7 = .ok (.getfield 22, 3) := by decide +kernel
theorem dX6_changeOn_10 : decode cX6_changeOn 10 = .ok (.iload 4, 2) := by decide +kernel
theorem dX6_changeOn_12 : decode cX6_changeOn 12 = .ok (.iload_n 2, 1) := by decide +kernel
theorem dX6_changeOn_13 : decode cX6_changeOn 13 = .ok (.iadd, 1) := by decide +kernel
theorem dX6_changeOn_14 : decode cX6_changeOn 14 = .ok (.iaload, 1) := by decide +kernel
theorem dX6_changeOn_15 : decode cX6_changeOn 15 = .ok (.istore 5, 2) := by decide +kernel
theorem dX6_changeOn_17 : decode cX6_changeOn 17 = .ok (.aload_n 0, 1) := by decide +kernel
theorem dX6_changeOn_18 : decode cX6_changeOn 18 = .ok (.getfield 22, 3) := by decide +kernel
theorem dX6_changeOn_21 : decode cX6_changeOn 21 = .ok (.iload 4, 2) := by decide +kernel
theorem dX6_changeOn_23 : decode cX6_changeOn 23 = .ok (.iload_n 2, 1) := by decide +kernel
theorem dX6_changeOn_24 : decode cX6_changeOn 24 = .ok (.iadd, 1) := by decide +kernel
theorem dX6_changeOn_25 : decode cX6_changeOn 25 = .ok (.aload_n 0, 1) := by decide +kernel
theorem dX6_changeOn_26 : decode cX6_changeOn 26 = .ok (.getfield 22, 3) := by decide +kernel
theorem dX6_changeOn_29 : decode cX6_changeOn 29 = .ok (.iload 4, 2) := by decide +kernel
theorem dX6_changeOn_31 : decode cX6_changeOn 31 = .ok (.iload_n 3, 1) := by decide +kernel
theorem dX6_changeOn_32 : decode cX6_changeOn 32 = .ok (.iadd, 1) := by decide +kernel
theorem dX6_changeOn_33 : decode cX6_changeOn 33 = .ok (.iaload, 1) := by decide +kernel
theorem dX6_changeOn_34 : decode cX6_changeOn 34 = .ok (.iastore, 1) := by decide +kernel
theorem dX6_changeOn_35 : decode cX6_changeOn 35 = .ok (.aload_n 0, 1) := by decide +kernel
theorem dX6_changeOn_36 : decode cX6_changeOn 36 = .ok (.getfield 22, 3) := by decide +kernel
theorem dX6_changeOn_39 : decode cX6_changeOn 39 = .ok (.iload 4, 2) := by decide +kernel
theorem dX6_changeOn_41 : decode cX6_changeOn 41 = .ok (.iload_n 3, 1) := by decide +kernel
theorem dX6_changeOn_42 : decode cX6_changeOn 42 = .ok (.iadd, 1) := by decide +kernel
theorem dX6_changeOn_43 : decode cX6_changeOn 43 = .ok (.iload 5, 2) := by decide +kernel
theorem dX6_changeOn_45 : decode cX6_changeOn 45 = .ok (.iastore, 1) := by decide +kernel
theorem dX6_changeOn_46 : decode cX6_changeOn 46 = .ok (.return_, 1) := by decide +kernel
set_option maxRecDepth 20000 in
theorem ggX6_change_X6_isHouse : GoodIn wsX6_change wsX6_isHouse := goodIn_r _ [5, 6, 7, 8, 4, 9, 26, 27, 28, 29, 30, 31, 32, 33, 34, 35, 36, 37, 38, 39, 40, 41, 42, 43, 44, 45, 46, 47, 48, 49, 50, 51, 52, 53] (by decide +kernel) (by decide +kernel)
set_option maxRecDepth 20000 in
theorem gX6_change_X6_isHouse : GoodIn wsX6_change (wsV RX6 131 RX6 yX6_isHouse wsX6_isHouse) := goodIn_app (goodIn_of _ (by decide +kernel)) ggX6_change_X6_isHouse
set_option maxRecDepth 20000 in
theorem ggX6_change_X6_keepAct : GoodIn wsX6_change wsX6_keepAct := goodIn_r _ [13, 14, 15, 16, 17, 26, 27, 28, 29, 30, 31, 32, 33, 34, 35, 36, 37, 38, 39, 40, 41, 42, 43, 44, 45, 46, 47, 48, 49, 50, 51, 52, 53] (by decide +kernel) (by decide +kernel)
set_option maxRecDepth 20000 in
theorem gX6_change_X6_keepAct : GoodIn wsX6_change (wsV RX6 146 RX6 yX6_keepAct wsX6_keepAct) := goodIn_app (goodIn_of _ (by decide +kernel)) ggX6_change_X6_keepAct
set_option maxRecDepth 20000 in
theorem ggX6_change_X6_changeOn : GoodIn wsX6_change wsX6_changeOn := goodIn_r _ [21, 16, 26, 27, 28, 29, 30, 31, 32, 33, 34, 35, 36, 37, 38, 39, 40, 41, 42, 43, 44, 45, 46, 47, 48, 49, 50, 51, 52, 53] (by decide +kernel) (by decide +kernel)
set_option maxRecDepth 20000 in
theorem gX6_change_X6_changeOn : GoodIn wsX6_change (wsV RX6 152 RX6 yX6_changeOn wsX6_changeOn) := goodIn_app (goodIn_of _ (by decide +kernel)) ggX6_change_X6_changeOn
set_option maxRecDepth 20000 in
theorem ggX6_change_X6_knowsAt : GoodIn wsX6_change wsX6_knowsAt := goodIn_r _ [25, 16, 26, 27, 28, 29, 30, 31, 32, 33, 34, 35, 36, 37, 38, 39, 40, 41, 42, 43, 44, 45, 46, 47, 48, 49, 50, 51, 52, 53] (by decide +kernel) (by decide +kernel)
set_option maxRecDepth 20000 in
theorem gX6_change_X6_knowsAt : GoodIn wsX6_change (wsV RX6 134 RX6 yX6_knowsAt wsX6_knowsAt) := goodIn_app (goodIn_of _ (by decide +kernel)) ggX6_change_X6_knowsAt
theorem dX6_change_0 : decode cX6_change 0 = .ok (.aload_n 0, 1) := by decide +kernel
theorem dX6_change_1 : decode cX6_change 1 = .ok (.iload_n 1, 1) := by decide +kernel
theorem dX6_change_2 : decode cX6_change 2 = .ok (.invokevirtual 131, 3) := by decide +kernel
theorem dX6_change_5 : decode cX6_change 5 = .ok (.ifCond .eq 11, 3) := by decide +kernel
theorem dX6_change_8 : decode cX6_change 8 = .ok (.aload_n 0, 1) := by decide +kernel
theorem dX6_change_9 : decode cX6_change 9 = .ok (.iload_n 2, 1) := by decide +kernel
theorem dX6_change_10 : decode cX6_change 10 = .ok (.invokevirtual 131, 3) := by decide +kernel
theorem dX6_change_13 : decode cX6_change 13 = .ok (.ifCond .ne 5, 3) := by decide +kernel
theorem dX6_change_16 : decode cX6_change 16 = .ok (.iconst (-1), 1) := by decide +kernel
theorem dX6_change_17 : decode cX6_change 17 = .ok (.ireturn, 1) := by decide +kernel
theorem dX6_change_18 : decode cX6_change 18 = .ok (.iload_n 1, 1) := by decide +kernel
theorem dX6_change_19 : decode cX6_change 19 = .ok (.iload_n 2, 1) := by decide +kernel
theorem dX6_change_20 : decode cX6_change 20 = .ok (.if_icmp .ne 6, 3) := by decide +kernel
theorem dX6_change_23 : decode cX6_change 23 = .ok (.bipush (-2), 2) := by decide +kernel
theorem dX6_change_25 : decode cX6_change 25 = .ok (.ireturn, 1) := by decide +kernel
theorem dX6_change_26 : decode cX6_change 26 = .ok (.aload_n 0, 1) := by decide +kernel
theorem dX6_change_27 : decode cX6_change 27 = .ok (.invokevirtual 146, 3) := by decide +kernel
theorem dX6_change_30 : decode cX6_change 30 = .ok (.aload_n 0, 1) := by decide +kernel
theorem dX6_change_31 : decode cX6_change 31 = .ok (.iconst 0, 1) := by decide +kernel
theorem dX6_change_32 : decode cX6_change 32 = .ok (.iload_n 1, 1) := by decide +kernel
theorem dX6_change_33 : decode cX6_change 33 = .ok (.iload_n 2, 1) := by decide +kernel
theorem dX6_change_34 : decode cX6_change 34 = .ok (.invokevirtual 152, 3) := by decide +kernel
theorem dX6_change_37 : decode cX6_change 37 = .ok (.aload_n 0, 1) := by decide +kernel
theorem dX6_change_38 : decode cX6_change 38 = .ok (.iconst 0, 1) := by decide +kernel
theorem dX6_change_39 : decode cX6_change 39 = .ok (.iload_n 1, 1) := by decide +kernel
theorem dX6_change_40 : decode cX6_change 40 = .ok (.invokevirtual 134, 3) := by decide +kernel
theorem dX6_change_43 : decode cX6_change 43 = .ok (.ireturn, 1) := by decide +kernel
set_option maxRecDepth 20000 in
theorem ggX6_plateOn_X6_knowsAt : GoodIn wsX6_plateOn wsX6_knowsAt := goodIn_r _ [6, 1, 7, 8, 9, 10, 11, 12, 13, 14, 15, 16, 17, 18, 19, 20, 21, 22, 23, 24, 25, 26, 27, 28, 29, 30, 31, 32, 33, 34] (by decide +kernel) (by decide +kernel)
set_option maxRecDepth 20000 in
theorem gX6_plateOn_X6_knowsAt : GoodIn wsX6_plateOn (wsV RX6 134 RX6 yX6_knowsAt wsX6_knowsAt) := goodIn_app (goodIn_of _ (by decide +kernel)) ggX6_plateOn_X6_knowsAt
theorem dX6_plateOn_0 : decode cX6_plateOn 0 = .ok (.bipush 17, 2) := by decide +kernel
theorem dX6_plateOn_2 : decode cX6_plateOn 2 = .ok (.iload_n 1, 1) := by decide +kernel
theorem dX6_plateOn_3 : decode cX6_plateOn 3 = .ok (.imul, 1) := by decide +kernel
theorem dX6_plateOn_4 : decode cX6_plateOn 4 = .ok (.istore_n 3, 1) := by decide +kernel
theorem dX6_plateOn_5 : decode cX6_plateOn 5 = .ok (.aload_n 0, 1) := by decide +kernel
theorem dX6_plateOn_6 : decode cX6_plateOn 6 = .ok (.getfield 22, 3) := by decide +kernel
theorem dX6_plateOn_9 : decode cX6_plateOn 9 = .ok (.iload_n 3, 1) := by decide +kernel
theorem dX6_plateOn_10 : decode cX6_plateOn 10 = .ok (.iconst 5, 1) := by decide +kernel
theorem dX6_plateOn_11 : decode cX6_plateOn 11 = .ok (.iadd, 1) := by decide +kernel
theorem dX6_plateOn_12 : decode cX6_plateOn 12 = .ok (.aload_n 0, 1) := by decide +kernel
theorem dX6_plateOn_13 : decode cX6_plateOn 13 = .ok (.getfield 22, 3) := by decide +kernel
theorem dX6_plateOn_16 : decode cX6_plateOn 16 = .ok (.iload_n 3, 1) := by decide +kernel
theorem dX6_plateOn_17 : decode cX6_plateOn 17 = .ok (.iload_n 2, 1) := by decide +kernel
theorem dX6_plateOn_18 : decode cX6_plateOn 18 = .ok (.iadd, 1) := by decide +kernel
theorem dX6_plateOn_19 : decode cX6_plateOn 19 = .ok (.iconst 1, 1) := by decide +kernel
theorem dX6_plateOn_20 : decode cX6_plateOn 20 = .ok (.iadd, 1) := by decide +kernel
theorem dX6_plateOn_21 : decode cX6_plateOn 21 = .ok (.iaload, 1) := by decide +kernel
theorem dX6_plateOn_22 : decode cX6_plateOn 22 = .ok (.iadd, 1) := by decide +kernel
theorem dX6_plateOn_23 : decode cX6_plateOn 23 = .ok (.dup2, 1) := by decide +kernel
theorem dX6_plateOn_24 : decode cX6_plateOn 24 = .ok (.iaload, 1) := by decide +kernel
theorem dX6_plateOn_25 : decode cX6_plateOn 25 = .ok (.aload_n 0, 1) := by decide +kernel
theorem dX6_plateOn_26 : decode cX6_plateOn 26 = .ok (.iload_n 1, 1) := by decide +kernel
theorem dX6_plateOn_27 : decode cX6_plateOn 27 = .ok (.iload_n 2, 1) := by decide +kernel
theorem dX6_plateOn_28 : decode cX6_plateOn 28 = .ok (.invokevirtual 134, 3) := by decide +kernel
theorem dX6_plateOn_31 : decode cX6_plateOn 31 = .ok (.ior, 1) := by decide +kernel
theorem dX6_plateOn_32 : decode cX6_plateOn 32 = .ok (.iastore, 1) := by decide +kernel
theorem dX6_plateOn_33 : decode cX6_plateOn 33 = .ok (.return_, 1) := by decide +kernel
set_option maxRecDepth 20000 in
theorem ggX6_plate_X6_isHouse : GoodIn wsX6_plate wsX6_isHouse := goodIn_r _ [5, 6, 7, 8, 4, 9, 26, 27, 28, 29, 30, 31, 32, 33, 34, 35, 36, 37, 38, 39, 40, 41, 42, 43, 44, 45, 46, 47, 48, 49, 50, 51, 52, 53] (by decide +kernel) (by decide +kernel)
set_option maxRecDepth 20000 in
theorem gX6_plate_X6_isHouse : GoodIn wsX6_plate (wsV RX6 131 RX6 yX6_isHouse wsX6_isHouse) := goodIn_app (goodIn_of _ (by decide +kernel)) ggX6_plate_X6_isHouse
set_option maxRecDepth 20000 in
theorem ggX6_plate_X6_keepAct : GoodIn wsX6_plate wsX6_keepAct := goodIn_r _ [13, 14, 15, 16, 17, 26, 27, 28, 29, 30, 31, 32, 33, 34, 35, 36, 37, 38, 39, 40, 41, 42, 43, 44, 45, 46, 47, 48, 49, 50, 51, 52, 53] (by decide +kernel) (by decide +kernel)
set_option maxRecDepth 20000 in
theorem gX6_plate_X6_keepAct : GoodIn wsX6_plate (wsV RX6 146 RX6 yX6_keepAct wsX6_keepAct) := goodIn_app (goodIn_of _ (by decide +kernel)) ggX6_plate_X6_keepAct
set_option maxRecDepth 20000 in
theorem ggX6_plate_X6_plateOn : GoodIn wsX6_plate wsX6_plateOn := goodIn_r _ [21, 16, 22, 23, 24, 4, 25, 26, 27, 28, 29, 30, 31, 32, 33, 34, 35, 36, 37, 38, 39, 40, 41, 42, 43, 44, 45, 46, 47, 48, 49, 50, 51, 52, 53] (by decide +kernel) (by decide +kernel)
set_option maxRecDepth 20000 in
theorem gX6_plate_X6_plateOn : GoodIn wsX6_plate (wsV RX6 156 RX6 yX6_plateOn wsX6_plateOn) := goodIn_app (goodIn_of _ (by decide +kernel)) ggX6_plate_X6_plateOn
set_option maxRecDepth 20000 in
theorem ggX6_plate_X6_knowsAt : GoodIn wsX6_plate wsX6_knowsAt := goodIn_r _ [25, 16, 26, 27, 28, 29, 30, 31, 32, 33, 34, 35, 36, 37, 38, 39, 40, 41, 42, 43, 44, 45, 46, 47, 48, 49, 50, 51, 52, 53] (by decide +kernel) (by decide +kernel)
set_option maxRecDepth 20000 in
theorem gX6_plate_X6_knowsAt : GoodIn wsX6_plate (wsV RX6 134 RX6 yX6_knowsAt wsX6_knowsAt) := goodIn_app (goodIn_of _ (by decide +kernel)) ggX6_plate_X6_knowsAt
theorem dX6_plate_0 : decode cX6_plate 0 = .ok (.aload_n 0, 1) := by decide +kernel
theorem dX6_plate_1 : decode cX6_plate 1 = .ok (.iload_n 1, 1) := by decide +kernel
theorem dX6_plate_2 : decode cX6_plate 2 = .ok (.invokevirtual 131, 3) := by decide +kernel
theorem dX6_plate_5 : decode cX6_plate 5 = .ok (.ifCond .ne 5, 3) := by decide +kernel
theorem dX6_plate_8 : decode cX6_plate 8 = .ok (.iconst (-1), 1) := by decide +kernel
theorem dX6_plate_9 : decode cX6_plate 9 = .ok (.ireturn, 1) := by decide +kernel
theorem dX6_plate_10 : decode cX6_plate 10 = .ok (.aload_n 0, 1) := by decide +kernel
theorem dX6_plate_11 : decode cX6_plate 11 = .ok (.iload_n 1, 1) := by decide +kernel
theorem dX6_plate_12 : decode cX6_plate 12 = .ok (.iconst 1, 1) := by decide +kernel
theorem dX6_plate_13 : decode cX6_plate 13 = .ok (.iadd, 1) := by decide +kernel
theorem dX6_plate_14 : decode cX6_plate 14 = .ok (.invokevirtual 131, 3) := by decide +kernel
theorem dX6_plate_17 : decode cX6_plate 17 = .ok (.ifCond .ne 6, 3) := by decide +kernel
theorem dX6_plate_20 : decode cX6_plate 20 = .ok (.bipush (-3), 2) := by decide +kernel
theorem dX6_plate_22 : decode cX6_plate 22 = .ok (.ireturn, 1) := by decide +kernel
theorem dX6_plate_23 : decode cX6_plate 23 = .ok (.aload_n 0, 1) := by decide +kernel
theorem dX6_plate_24 : decode cX6_plate 24 = .ok (.invokevirtual 146, 3) := by decide +kernel
theorem dX6_plate_27 : decode cX6_plate 27 = .ok (.aload_n 0, 1) := by decide +kernel
theorem dX6_plate_28 : decode cX6_plate 28 = .ok (.iconst 0, 1) := by decide +kernel
theorem dX6_plate_29 : decode cX6_plate 29 = .ok (.iload_n 1, 1) := by decide +kernel
theorem dX6_plate_30 : decode cX6_plate 30 = .ok (.invokevirtual 156, 3) := by decide +kernel
theorem dX6_plate_33 : decode cX6_plate 33 = .ok (.aload_n 0, 1) := by decide +kernel
theorem dX6_plate_34 : decode cX6_plate 34 = .ok (.iconst 0, 1) := by decide +kernel
theorem dX6_plate_35 : decode cX6_plate 35 = .ok (.iload_n 1, 1) := by decide +kernel
theorem dX6_plate_36 : decode cX6_plate 36 = .ok (.iconst 1, 1) := by decide +kernel
theorem dX6_plate_37 : decode cX6_plate 37 = .ok (.iadd, 1) := by decide +kernel
theorem dX6_plate_38 : decode cX6_plate 38 = .ok (.invokevirtual 134, 3) := by decide +kernel
theorem dX6_plate_41 : decode cX6_plate 41 = .ok (.ireturn, 1) := by decide +kernel
theorem dX6_undo_0 : decode cX6_undo 0 = .ok (.aload_n 0, 1) := by decide +kernel
theorem dX6_undo_1 : decode cX6_undo 1 = .ok (.getfield 102, 3) := by decide +kernel
theorem dX6_undo_4 : decode cX6_undo 4 = .ok (.ifCond .ne 6, 3) := by decide +kernel
theorem dX6_undo_7 : decode cX6_undo 7 = .ok (.bipush (-3), 2) := by decide +kernel
theorem dX6_undo_9 : decode cX6_undo 9 = .ok (.ireturn, 1) := by decide +kernel
theorem dX6_undo_10 : decode cX6_undo 10 = .ok (.aload_n 0, 1) := by decide +kernel
theorem dX6_undo_11 : decode cX6_undo 11 = .ok (.dup, 1) := by decide +kernel
theorem dX6_undo_12 : decode cX6_undo 12 = .ok (.getfield 102, 3) := by decide +kernel
theorem dX6_undo_15 : decode cX6_undo 15 = .ok (.iconst 1, 1) := by decide +kernel
theorem dX6_undo_16 : decode cX6_undo 16 = .ok (.isub, 1) := by decide +kernel
theorem dX6_undo_17 : decode cX6_undo 17 = .ok (.putfield 102, 3) := by decide +kernel
theorem dX6_undo_20 : decode cX6_undo 20 = .ok (.aload_n 0, 1) := by decide +kernel
theorem dX6_undo_21 : decode cX6_undo 21 = .ok (.aload_n 0, 1) := by decide +kernel
theorem dX6_undo_22 : decode cX6_undo 22 = .ok (.getfield 143, 3) := by decide +kernel
theorem dX6_undo_25 : decode cX6_undo 25 = .ok (.bipush 13, 2) := by decide +kernel
theorem dX6_undo_27 : decode cX6_undo 27 = .ok (.iadd, 1) := by decide +kernel
theorem dX6_undo_28 : decode cX6_undo 28 = .ok (.bipush 14, 2) := by decide +kernel
theorem dX6_undo_30 : decode cX6_undo 30 = .ok (.irem, 1) := by decide +kernel
theorem dX6_undo_31 : decode cX6_undo 31 = .ok (.putfield 143, 3) := by decide +kernel
theorem dX6_undo_34 : decode cX6_undo 34 = .ok (.iconst 0, 1) := by decide +kernel
theorem dX6_undo_35 : decode cX6_undo 35 = .ok (.istore_n 1, 1) := by decide +kernel
theorem dX6_undo_36 : decode cX6_undo 36 = .ok (.iload_n 1, 1) := by decide +kernel
theorem dX6_undo_37 : decode cX6_undo 37 = .ok (.bipush 17, 2) := by decide +kernel
theorem dX6_undo_39 : decode cX6_undo 39 = .ok (.if_icmp .ge 29, 3) := by decide +kernel
theorem dX6_undo_42 : decode cX6_undo 42 = .ok (.aload_n 0, 1) := by decide +kernel
theorem dX6_undo_43 : decode cX6_undo 43 = .ok (.getfield 22, 3) := by decide +kernel
theorem dX6_undo_46 : decode cX6_undo 46 = .ok (.iload_n 1, 1) := by decide +kernel
theorem dX6_undo_47 : decode cX6_undo 47 = .ok (.aload_n 0, 1) := by decide +kernel
theorem dX6_undo_48 : decode cX6_undo 48 = .ok (.getfield 37, 3) := by decide +kernel
theorem dX6_undo_51 : decode cX6_undo 51 = .ok (.bipush 17, 2) := by decide +kernel
theorem dX6_undo_53 : decode cX6_undo 53 = .ok (.aload_n 0, 1) := by decide +kernel
theorem dX6_undo_54 : decode cX6_undo 54 = .ok (.getfield 143, 3) := by decide +kernel
theorem dX6_undo_57 : decode cX6_undo 57 = .ok (.imul, 1) := by decide +kernel
theorem dX6_undo_58 : decode cX6_undo 58 = .ok (.iload_n 1, 1) := by decide +kernel
theorem dX6_undo_59 : decode cX6_undo 59 = .ok (.iadd, 1) := by decide +kernel
theorem dX6_undo_60 : decode cX6_undo 60 = .ok (.iaload, 1) := by decide +kernel
theorem dX6_undo_61 : decode cX6_undo 61 = .ok (.iastore, 1) := by decide +kernel
theorem dX6_undo_62 : decode cX6_undo 62 = .ok (.iinc 1 1, 3) := by decide +kernel
theorem dX6_undo_65 : decode cX6_undo 65 = .ok (.goto (-29), 3) := by decide +kernel
theorem dX6_undo_68 : decode cX6_undo 68 = .ok (.aload_n 0, 1) := by decide +kernel
theorem dX6_undo_69 : decode cX6_undo 69 = .ok (.getfield 102, 3) := by decide +kernel
theorem dX6_undo_72 : decode cX6_undo 72 = .ok (.ireturn, 1) := by decide +kernel
theorem dX6_layTrial_0 : decode cX6_layTrial 0 = .ok (.iconst 0, 1) := by decide +kernel
theorem dX6_layTrial_1 : decode cX6_layTrial 1 = .ok (.istore_n 1, 1) := by decide +kernel
theorem dX6_layTrial_2 : decode cX6_layTrial 2 = .ok (.iload_n 1, 1) := by decide +kernel
theorem dX6_layTrial_3 : decode cX6_layTrial 3 = .ok (.bipush 17, 2) := by decide +kernel
theorem dX6_layTrial_5 : decode cX6_layTrial 5 = .ok (.if_icmp .ge 24, 3) := by decide +kernel
theorem dX6_layTrial_8 : decode cX6_layTrial 8 = .ok (.aload_n 0, 1) := by decide +kernel
theorem dX6_layTrial_9 : decode cX6_layTrial 9 = .ok (.getfield 22, 3) := by decide +kernel
theorem dX6_layTrial_12 : decode cX6_layTrial 12 = .ok (.bipush 17, 2) := by decide +kernel
theorem dX6_layTrial_14 : decode cX6_layTrial 14 = .ok (.iload_n 1, 1) := by decide +kernel
theorem dX6_layTrial_15 : decode cX6_layTrial 15 = .ok (.iadd, 1) := by decide +kernel
theorem dX6_layTrial_16 : decode cX6_layTrial 16 = .ok (.aload_n 0, 1) := by decide +kernel
theorem dX6_layTrial_17 : decode cX6_layTrial 17 = .ok (.getfield 22, 3) := by decide +kernel
theorem dX6_layTrial_20 : decode cX6_layTrial 20 = .ok (.iload_n 1, 1) := by decide +kernel
theorem dX6_layTrial_21 : decode cX6_layTrial 21 = .ok (.iaload, 1) := by decide +kernel
theorem dX6_layTrial_22 : decode cX6_layTrial 22 = .ok (.iastore, 1) := by decide +kernel
theorem dX6_layTrial_23 : decode cX6_layTrial 23 = .ok (.iinc 1 1, 3) := by decide +kernel
theorem dX6_layTrial_26 : decode cX6_layTrial 26 = .ok (.goto (-24), 3) := by decide +kernel
theorem dX6_layTrial_29 : decode cX6_layTrial 29 = .ok (.return_, 1) := by decide +kernel
set_option maxRecDepth 20000 in
theorem ggX6_goOn_X6_rainOn : GoodIn wsX6_goOn wsX6_rainOn := goodIn_r _ [5, 6, 7, 8, 43, 44, 45, 46, 47, 48, 49, 50, 51, 52, 53, 54, 55, 56, 57, 58, 59, 60, 61, 62, 63, 64, 65, 66, 67, 68, 69, 70] (by decide +kernel) (by decide +kernel)
set_option maxRecDepth 20000 in
theorem gX6_goOn_X6_rainOn : GoodIn wsX6_goOn (wsV RX6 138 RX6 yX6_rainOn wsX6_rainOn) := goodIn_app (goodIn_of _ (by decide +kernel)) ggX6_goOn_X6_rainOn
set_option maxRecDepth 20000 in
theorem ggX6_goOn_X6_hourBy : GoodIn wsX6_goOn wsX6_hourBy := goodIn_r _ [12, 13, 8, 14, 15, 16, 17, 4, 18, 19, 20, 21, 22, 23, 24, 25, 26, 27, 28, 29, 30, 31, 32, 33, 34, 35, 36, 37, 38, 39, 40, 41, 42, 43, 44, 45, 46, 47, 48, 49, 50, 51, 52, 53, 54, 55, 56, 57, 58, 59, 60, 61, 62, 63, 64, 65, 66, 67, 68, 69, 70] (by decide +kernel) (by decide +kernel)
set_option maxRecDepth 20000 in
theorem gX6_goOn_X6_hourBy : GoodIn wsX6_goOn (wsV RX6 149 RX6 yX6_hourBy wsX6_hourBy) := goodIn_app (goodIn_of _ (by decide +kernel)) ggX6_goOn_X6_hourBy
theorem dX6_goOn_0 : decode cX6_goOn 0 = .ok (.iconst 0, 1) := by decide +kernel
theorem dX6_goOn_1 : decode cX6_goOn 1 = .ok (.istore_n 2, 1) := by decide +kernel
theorem dX6_goOn_2 : decode cX6_goOn 2 = .ok (.iload_n 2, 1) := by decide +kernel
theorem dX6_goOn_3 : decode cX6_goOn 3 = .ok (.iload_n 1, 1) := by decide +kernel
theorem dX6_goOn_4 : decode cX6_goOn 4 = .ok (.if_icmp .ge 20, 3) := by decide +kernel
theorem dX6_goOn_7 : decode cX6_goOn 7 = .ok (.aload_n 0, 1) := by decide +kernel
theorem dX6_goOn_8 : decode cX6_goOn 8 = .ok (.iconst 1, 1) := by decide +kernel
theorem dX6_goOn_9 : decode cX6_goOn 9 = .ok (.aload_n 0, 1) := by decide +kernel
theorem dX6_goOn_10 : decode cX6_goOn 10 = .ok (.iconst 1, 1) := by decide +kernel
theorem dX6_goOn_11 : decode cX6_goOn 11 = .ok (.invokevirtual 138, 3) := by decide +kernel
theorem dX6_goOn_14 : decode cX6_goOn 14 = .ok (.invokevirtual 149, 3) := by decide +kernel
theorem dX6_goOn_17 : decode cX6_goOn 17 = .ok (.pop, 1) := by decide +kernel
theorem dX6_goOn_18 : decode cX6_goOn 18 = .ok (.iinc 2 1, 3) := by decide +kernel
theorem dX6_goOn_21 : decode cX6_goOn 21 = .ok (.goto (-19), 3) := by decide +kernel
theorem dX6_goOn_24 : decode cX6_goOn 24 = .ok (.return_, 1) := by decide +kernel
set_option maxRecDepth 20000 in
theorem ggX6_later_X6_isHouse : GoodIn wsX6_later wsX6_isHouse := goodIn_r _ [6, 7, 8, 9, 5, 10, 63, 64, 65, 66, 67, 68, 69, 70, 71, 72, 73, 74, 75, 76, 77, 78, 79, 80, 81, 82, 83, 84, 85, 86, 87, 88, 89, 90] (by decide +kernel) (by decide +kernel)
set_option maxRecDepth 20000 in
theorem gX6_later_X6_isHouse : GoodIn wsX6_later (wsV RX6 131 RX6 yX6_isHouse wsX6_isHouse) := goodIn_app (goodIn_of _ (by decide +kernel)) ggX6_later_X6_isHouse
set_option maxRecDepth 20000 in
theorem ggX6_later_X6_in : GoodIn wsX6_later wsX6_in := goodIn_r _ [10] (by decide +kernel) (by decide +kernel)
set_option maxRecDepth 20000 in
theorem gX6_later_X6_in : GoodIn wsX6_later (va_wsS RX6 58 yX6_in wsX6_in) := goodIn_app (goodIn_of _ (by decide +kernel)) ggX6_later_X6_in
set_option maxRecDepth 20000 in
theorem ggX6_later_X6_layTrial : GoodIn wsX6_later wsX6_layTrial := goodIn_r _ [14, 15, 63, 64, 65, 66, 67, 68, 69, 70, 71, 72, 73, 74, 75, 76, 77, 78, 79, 80, 81, 82, 83, 84, 85, 86, 87, 88, 89, 90] (by decide +kernel) (by decide +kernel)
set_option maxRecDepth 20000 in
theorem gX6_later_X6_layTrial : GoodIn wsX6_later (wsV RX6 162 RX6 yX6_layTrial wsX6_layTrial) := goodIn_app (goodIn_of _ (by decide +kernel)) ggX6_later_X6_layTrial
set_option maxRecDepth 20000 in
theorem ggX6_later_X6_goOn : GoodIn wsX6_later wsX6_goOn := goodIn_r _ [19, 20, 21, 22, 5, 23, 24, 25, 15, 26, 27, 28, 29, 7, 30, 31, 32, 33, 34, 35, 36, 37, 38, 39, 40, 41, 42, 43, 44, 45, 46, 47, 48, 49, 50, 51, 52, 53, 54, 55, 56, 57, 58, 63, 64, 65, 66, 67, 68, 69, 70, 71, 72, 73, 74, 75, 76, 77, 78, 79, 80, 81, 82, 83, 84, 85, 86, 87, 88, 89, 90] (by decide +kernel) (by decide +kernel)
set_option maxRecDepth 20000 in
theorem gX6_later_X6_goOn : GoodIn wsX6_later (wsV RX6 165 RX6 yX6_goOn wsX6_goOn) := goodIn_app (goodIn_of _ (by decide +kernel)) ggX6_later_X6_goOn
set_option maxRecDepth 20000 in
theorem ggX6_later_X6_knowsAt : GoodIn wsX6_later wsX6_knowsAt := goodIn_r _ [62, 15, 63, 64, 65, 66, 67, 68, 69, 70, 71, 72, 73, 74, 75, 76, 77, 78, 79, 80, 81, 82, 83, 84, 85, 86, 87, 88, 89, 90] (by decide +kernel) (by decide +kernel)
set_option maxRecDepth 20000 in
theorem gX6_later_X6_knowsAt : GoodIn wsX6_later (wsV RX6 134 RX6 yX6_knowsAt wsX6_knowsAt) := goodIn_app (goodIn_of _ (by decide +kernel)) ggX6_later_X6_knowsAt
theorem dX6_later_0 : decode cX6_later 0 = .ok (.aload_n 0, 1) := by decide +kernel
theorem dX6_later_1 : decode cX6_later 1 = .ok (.iload_n 1, 1) := by decide +kernel
theorem dX6_later_2 : decode cX6_later 2 = .ok (.invokevirtual 131, 3) := by decide +kernel
theorem dX6_later_5 : decode cX6_later 5 = .ok (.ifCond .ne 5, 3) := by decide +kernel
theorem dX6_later_8 : decode cX6_later 8 = .ok (.iconst (-1), 1) := by decide +kernel
theorem dX6_later_9 : decode cX6_later 9 = .ok (.ireturn, 1) := by decide +kernel
theorem dX6_later_10 : decode cX6_later 10 = .ok (.iload_n 2, 1) := by decide +kernel
theorem dX6_later_11 : decode cX6_later 11 = .ok (.i2l, 1) := by decide +kernel
theorem dX6_later_12 : decode cX6_later 12 = .ok (.lconst 0, 1) := by decide +kernel
theorem dX6_later_13 : decode cX6_later 13 = .ok (.ldc2_w 160, 3) := by decide +kernel
theorem dX6_later_16 : decode cX6_later 16 = .ok (.invokestatic 58, 3) := by decide +kernel
theorem dX6_later_19 : decode cX6_later 19 = .ok (.ifCond .ne 6, 3) := by decide +kernel
theorem dX6_later_22 : decode cX6_later 22 = .ok (.bipush (-2), 2) := by decide +kernel
theorem dX6_later_24 : decode cX6_later 24 = .ok (.ireturn, 1) := by decide +kernel
theorem dX6_later_25 : decode cX6_later 25 = .ok (.aload_n 0, 1) := by decide +kernel
theorem dX6_later_26 : decode cX6_later 26 = .ok (.invokevirtual 162, 3) := by decide +kernel
theorem dX6_later_29 : decode cX6_later 29 = .ok (.aload_n 0, 1) := by decide +kernel
theorem dX6_later_30 : decode cX6_later 30 = .ok (.iload_n 2, 1) := by decide +kernel
theorem dX6_later_31 : decode cX6_later 31 = .ok (.invokevirtual 165, 3) := by decide +kernel
theorem dX6_later_34 : decode cX6_later 34 = .ok (.aload_n 0, 1) := by decide +kernel
theorem dX6_later_35 : decode cX6_later 35 = .ok (.iconst 1, 1) := by decide +kernel
theorem dX6_later_36 : decode cX6_later 36 = .ok (.iload_n 1, 1) := by decide +kernel
theorem dX6_later_37 : decode cX6_later 37 = .ok (.invokevirtual 134, 3) := by decide +kernel
theorem dX6_later_40 : decode cX6_later 40 = .ok (.ireturn, 1) := by decide +kernel
set_option maxRecDepth 20000 in
theorem ggX6_first_X6_isHouse : GoodIn wsX6_first wsX6_isHouse := goodIn_r _ [5, 6, 7, 8, 4, 9, 66, 67, 68, 69, 70, 71, 72, 73, 74, 75, 76, 77, 78, 79, 80, 81, 82, 83, 84, 85, 86, 87, 88, 89, 90, 91, 92, 93] (by decide +kernel) (by decide +kernel)
set_option maxRecDepth 20000 in
theorem gX6_first_X6_isHouse : GoodIn wsX6_first (wsV RX6 131 RX6 yX6_isHouse wsX6_isHouse) := goodIn_app (goodIn_of _ (by decide +kernel)) ggX6_first_X6_isHouse
set_option maxRecDepth 20000 in
theorem ggX6_first_X6_isThing : GoodIn wsX6_first wsX6_isThing := goodIn_r _ [12, 13, 7, 8, 4, 9] (by decide +kernel) (by decide +kernel)
set_option maxRecDepth 20000 in
theorem gX6_first_X6_isThing : GoodIn wsX6_first (va_wsS RX6 168 yX6_isThing wsX6_isThing) := goodIn_app (goodIn_of _ (by decide +kernel)) ggX6_first_X6_isThing
set_option maxRecDepth 20000 in
theorem ggX6_first_X6_layTrial : GoodIn wsX6_first wsX6_layTrial := goodIn_r _ [17, 18, 66, 67, 68, 69, 70, 71, 72, 73, 74, 75, 76, 77, 78, 79, 80, 81, 82, 83, 84, 85, 86, 87, 88, 89, 90, 91, 92, 93] (by decide +kernel) (by decide +kernel)
set_option maxRecDepth 20000 in
theorem gX6_first_X6_layTrial : GoodIn wsX6_first (wsV RX6 162 RX6 yX6_layTrial wsX6_layTrial) := goodIn_app (goodIn_of _ (by decide +kernel)) ggX6_first_X6_layTrial
set_option maxRecDepth 20000 in
theorem ggX6_first_X6_knowsAt : GoodIn wsX6_first wsX6_knowsAt := goodIn_r _ [22, 18, 66, 67, 68, 69, 70, 71, 72, 73, 74, 75, 76, 77, 78, 79, 80, 81, 82, 83, 84, 85, 86, 87, 88, 89, 90, 91, 92, 93] (by decide +kernel) (by decide +kernel)
set_option maxRecDepth 20000 in
theorem gX6_first_X6_knowsAt : GoodIn wsX6_first (wsV RX6 134 RX6 yX6_knowsAt wsX6_knowsAt) := goodIn_app (goodIn_of _ (by decide +kernel)) ggX6_first_X6_knowsAt
set_option maxRecDepth 20000 in
theorem ggX6_first_X6_has : GoodIn wsX6_first wsX6_has := goodIn_r _ [25] (by decide +kernel) (by decide +kernel)
set_option maxRecDepth 20000 in
theorem gX6_first_X6_has : GoodIn wsX6_first (va_wsS RX6 121 yX6_has wsX6_has) := goodIn_app (goodIn_of _ (by decide +kernel)) ggX6_first_X6_has
set_option maxRecDepth 20000 in
theorem ggX6_first_X6_goOn : GoodIn wsX6_first wsX6_goOn := goodIn_r _ [29, 30, 31, 32, 4, 33, 34, 35, 18, 36, 37, 38, 39, 6, 40, 41, 42, 43, 44, 45, 46, 47, 48, 49, 50, 51, 52, 53, 54, 55, 56, 57, 58, 23, 24, 25, 59, 60, 61, 62, 63, 64, 65, 66, 67, 68, 69, 70, 71, 72, 73, 74, 75, 76, 77, 78, 79, 80, 81, 82, 83, 84, 85, 86, 87, 88, 89, 90, 91, 92, 93] (by decide +kernel) (by decide +kernel)
set_option maxRecDepth 20000 in
theorem gX6_first_X6_goOn : GoodIn wsX6_first (wsV RX6 165 RX6 yX6_goOn wsX6_goOn) := goodIn_app (goodIn_of _ (by decide +kernel)) ggX6_first_X6_goOn
theorem dX6_first_0 : decode cX6_first 0 = .ok (.aload_n 0, 1) := by decide +kernel
theorem dX6_first_1 : decode cX6_first 1 = .ok (.iload_n 1, 1) := by decide +kernel
theorem dX6_first_2 : decode cX6_first 2 = .ok (.invokevirtual 131, 3) := by decide +kernel
theorem dX6_first_5 : decode cX6_first 5 = .ok (.ifCond .eq 10, 3) := by decide +kernel
theorem dX6_first_8 : decode cX6_first 8 = .ok (.iload_n 2, 1) := by decide +kernel
theorem dX6_first_9 : decode cX6_first 9 = .ok (.invokestatic 168, 3) := by decide +kernel
theorem dX6_first_12 : decode cX6_first 12 = .ok (.ifCond .ne 5, 3) := by decide +kernel
theorem dX6_first_15 : decode cX6_first 15 = .ok (.iconst (-1), 1) := by decide +kernel
theorem dX6_first_16 : decode cX6_first 16 = .ok (.ireturn, 1) := by decide +kernel
theorem dX6_first_17 : decode cX6_first 17 = .ok (.aload_n 0, 1) := by decide +kernel
theorem dX6_first_18 : decode cX6_first 18 = .ok (.invokevirtual 162, 3) := by decide +kernel
theorem dX6_first_21 : decode cX6_first 21 = .ok (.iconst 0, 1) := by decide +kernel
theorem dX6_first_22 : decode cX6_first 22 = .ok (.istore_n 3, 1) := by decide +kernel
theorem dX6_first_23 : decode cX6_first 23 = .ok (.iload_n 3, 1) := by decide +kernel
theorem dX6_first_24 : decode cX6_first 24 = .ok (.bipush 30, 2) := by decide +kernel
theorem dX6_first_26 : decode cX6_first 26 = .ok (.if_icmp .gt 29, 3) := by decide +kernel
theorem dX6_first_29 : decode cX6_first 29 = .ok (.aload_n 0, 1) := by decide +kernel
theorem dX6_first_30 : decode cX6_first 30 = .ok (.iconst 1, 1) := by decide +kernel
theorem dX6_first_31 : decode cX6_first 31 = .ok (.iload_n 1, 1) := by decide +kernel
theorem dX6_first_32 : decode cX6_first 32 = .ok (.invokevirtual 134, 3) := by decide +kernel
theorem dX6_first_35 : decode cX6_first 35 = .ok (.iload_n 2, 1) := by decide +kernel
theorem dX6_first_36 : decode cX6_first 36 = .ok (.invokestatic 121, 3) := by decide +kernel
theorem dX6_first_39 : decode cX6_first 39 = .ok (.ifCond .eq 5, 3) := by decide +kernel
theorem dX6_first_42 : decode cX6_first 42 = .ok (.iload_n 3, 1) := by decide +kernel
theorem dX6_first_43 : decode cX6_first 43 = .ok (.ireturn, 1) := by decide +kernel
theorem dX6_first_44 : decode cX6_first 44 = .ok (.aload_n 0, 1) := by decide +kernel
theorem dX6_first_45 : decode cX6_first 45 = .ok (.iconst 1, 1) := by decide +kernel
theorem dX6_first_46 : decode cX6_first 46 = .ok (.invokevirtual 165, 3) := by decide +kernel
theorem dX6_first_49 : decode cX6_first 49 = .ok (.iinc 3 1, 3) := by decide +kernel
theorem dX6_first_52 : decode cX6_first 52 = .ok (.goto (-29), 3) := by decide +kernel
theorem dX6_first_55 : decode cX6_first 55 = .ok (.bipush (-9), 2) := by decide +kernel
theorem dX6_first_57 : decode cX6_first 57 = .ok (.ireturn, 1) := by decide +kernel
set_option maxRecDepth 20000 in
theorem ggX6_loweredBy_X6_layTrial : GoodIn wsX6_loweredBy wsX6_layTrial := goodIn_r _ [7, 2, 55, 56, 57, 58, 59, 60, 61, 62, 63, 64, 65, 66, 67, 68, 69, 70, 71, 72, 73, 74, 75, 76, 77, 78, 79, 80, 81, 82] (by decide +kernel) (by decide +kernel)
set_option maxRecDepth 20000 in
theorem gX6_loweredBy_X6_layTrial : GoodIn wsX6_loweredBy (wsV RX6 162 RX6 yX6_layTrial wsX6_layTrial) := goodIn_app (goodIn_of _ (by decide +kernel)) ggX6_loweredBy_X6_layTrial
set_option maxRecDepth 20000 in
theorem ggX6_loweredBy_X6_goOn : GoodIn wsX6_loweredBy wsX6_goOn := goodIn_r _ [11, 12, 13, 14, 6, 15, 16, 17, 2, 18, 19, 20, 21, 1, 22, 23, 24, 25, 26, 27, 28, 29, 30, 31, 32, 33, 34, 35, 36, 37, 38, 39, 40, 41, 42, 43, 44, 45, 46, 47, 48, 49, 50, 55, 56, 57, 58, 59, 60, 61, 62, 63, 64, 65, 66, 67, 68, 69, 70, 71, 72, 73, 74, 75, 76, 77, 78, 79, 80, 81, 82] (by decide +kernel) (by decide +kernel)
set_option maxRecDepth 20000 in
theorem gX6_loweredBy_X6_goOn : GoodIn wsX6_loweredBy (wsV RX6 165 RX6 yX6_goOn wsX6_goOn) := goodIn_app (goodIn_of _ (by decide +kernel)) ggX6_loweredBy_X6_goOn
set_option maxRecDepth 20000 in
theorem ggX6_loweredBy_X6_knowsAt : GoodIn wsX6_loweredBy wsX6_knowsAt := goodIn_r _ [54, 2, 55, 56, 57, 58, 59, 60, 61, 62, 63, 64, 65, 66, 67, 68, 69, 70, 71, 72, 73, 74, 75, 76, 77, 78, 79, 80, 81, 82] (by decide +kernel) (by decide +kernel)
set_option maxRecDepth 20000 in
theorem gX6_loweredBy_X6_knowsAt : GoodIn wsX6_loweredBy (wsV RX6 134 RX6 yX6_knowsAt wsX6_knowsAt) := goodIn_app (goodIn_of _ (by decide +kernel)) ggX6_loweredBy_X6_knowsAt
set_option maxRecDepth 20000 in
theorem ggX6_loweredBy_X6_has : GoodIn wsX6_loweredBy wsX6_has := goodIn_r _ [43] (by decide +kernel) (by decide +kernel)
set_option maxRecDepth 20000 in
theorem gX6_loweredBy_X6_has : GoodIn wsX6_loweredBy (va_wsS RX6 121 yX6_has wsX6_has) := goodIn_app (goodIn_of _ (by decide +kernel)) ggX6_loweredBy_X6_has
theorem dX6_loweredBy_0 : decode cX6_loweredBy 0 = .ok (.aload_n 0, 1) := by decide +kernel
theorem dX6_loweredBy_1 : decode cX6_loweredBy 1 = .ok (.invokevirtual 162, 3) := by decide +kernel
theorem dX6_loweredBy_4 : decode cX6_loweredBy 4 = .ok (.iload_n 1, 1) := by decide +kernel
theorem dX6_loweredBy_5 : decode cX6_loweredBy 5 = .ok (.istore 5, 2) := by decide +kernel
theorem dX6_loweredBy_7 : decode cX6_loweredBy 7 = .ok (.iconst 0, 1) := by decide +kernel
theorem dX6_loweredBy_8 : decode cX6_loweredBy 8 = .ok (.istore 6, 2) := by decide +kernel
theorem dX6_loweredBy_10 : decode cX6_loweredBy 10 = .ok (.aload_n 0, 1) := by decide +kernel
theorem dX6_loweredBy_11 : decode cX6_loweredBy 11 = .ok (.getfield 93, 3) := by decide +kernel
theorem dX6_loweredBy_14 : decode cX6_loweredBy 14 = .ok (.iconst 1, 1) := by decide +kernel
theorem dX6_loweredBy_15 : decode cX6_loweredBy 15 = .ok (.isub, 1) := by decide +kernel
theorem dX6_loweredBy_16 : decode cX6_loweredBy 16 = .ok (.istore 7, 2) := by decide +kernel
theorem dX6_loweredBy_18 : decode cX6_loweredBy 18 = .ok (.iload 7, 2) := by decide +kernel
theorem dX6_loweredBy_20 : decode cX6_loweredBy 20 = .ok (.ifCond .lt 59, 3) := by decide +kernel
theorem dX6_loweredBy_23 : decode cX6_loweredBy 23 = .ok (.aload_n 0, 1) := by decide +kernel
theorem dX6_loweredBy_24 : decode cX6_loweredBy 24 = .ok (.getfield 22, 3) := by decide +kernel
theorem dX6_loweredBy_27 : decode cX6_loweredBy 27 = .ok (.bipush 27, 2) := by decide +kernel
theorem dX6_loweredBy_29 : decode cX6_loweredBy 29 = .ok (.iload 7, 2) := by decide +kernel
theorem dX6_loweredBy_31 : decode cX6_loweredBy 31 = .ok (.iadd, 1) := by decide +kernel
theorem dX6_loweredBy_32 : decode cX6_loweredBy 32 = .ok (.dup2, 1) := by decide +kernel
theorem dX6_loweredBy_33 : decode cX6_loweredBy 33 = .ok (.iaload, 1) := by decide +kernel
theorem dX6_loweredBy_34 : decode cX6_loweredBy 34 = .ok (.iload 5, 2) := by decide +kernel
theorem dX6_loweredBy_36 : decode cX6_loweredBy 36 = .ok (.iconst 4, 1) := by decide +kernel
theorem dX6_loweredBy_37 : decode cX6_loweredBy 37 = .ok (.irem, 1) := by decide +kernel
theorem dX6_loweredBy_38 : decode cX6_loweredBy 38 = .ok (.isub, 1) := by decide +kernel
theorem dX6_loweredBy_39 : decode cX6_loweredBy 39 = .ok (.iastore, 1) := by decide +kernel
theorem dX6_loweredBy_40 : decode cX6_loweredBy 40 = .ok (.iload 6, 2) := by decide +kernel
theorem dX6_loweredBy_42 : decode cX6_loweredBy 42 = .ok (.iload 5, 2) := by decide +kernel
theorem dX6_loweredBy_44 : decode cX6_loweredBy 44 = .ok (.iconst 4, 1) := by decide +kernel
theorem dX6_loweredBy_45 : decode cX6_loweredBy 45 = .ok (.irem, 1) := by decide +kernel
theorem dX6_loweredBy_46 : decode cX6_loweredBy 46 = .ok (.iadd, 1) := by decide +kernel
theorem dX6_loweredBy_47 : decode cX6_loweredBy 47 = .ok (.istore 6, 2) := by decide +kernel
theorem dX6_loweredBy_49 : decode cX6_loweredBy 49 = .ok (.iload 5, 2) := by decide +kernel
theorem dX6_loweredBy_51 : decode cX6_loweredBy 51 = .ok (.iconst 4, 1) := by decide +kernel
theorem dX6_loweredBy_52 : decode cX6_loweredBy 52 = .ok (.idiv, 1) := by decide +kernel
theorem dX6_loweredBy_53 : decode cX6_loweredBy 53 = .ok (.istore 5, 2) := by decide +kernel
theorem dX6_loweredBy_55 : decode cX6_loweredBy 55 = .ok (.aload_n 0, 1) := by decide +kernel
theorem dX6_loweredBy_56 : decode cX6_loweredBy 56 = .ok (.getfield 22, 3) := by decide +kernel
theorem dX6_loweredBy_59 : decode cX6_loweredBy 59 = .ok (.bipush 27, 2) := by decide +kernel
theorem dX6_loweredBy_61 : decode cX6_loweredBy 61 = .ok (.iload 7, 2) := by decide +kernel
theorem dX6_loweredBy_63 : decode cX6_loweredBy 63 = .ok (.iadd, 1) := by decide +kernel
theorem dX6_loweredBy_64 : decode cX6_loweredBy 64 = .ok (.iaload, 1) := by decide +kernel
theorem dX6_loweredBy_65 : decode cX6_loweredBy 65 = .ok (.bipush (-3), 2) := by decide +kernel
theorem dX6_loweredBy_67 : decode cX6_loweredBy 67 = .ok (.if_icmp .ge 6, 3) := by decide +kernel
theorem dX6_loweredBy_70 : decode cX6_loweredBy 70 = .ok (.bipush (-9), 2) := by decide +kernel
theorem dX6_loweredBy_72 : decode cX6_loweredBy 72 = .ok (.ireturn, 1) := by decide +kernel
theorem dX6_loweredBy_73 : decode cX6_loweredBy 73 = .ok (.iinc 7 (-1), 3) := by decide +kernel
theorem dX6_loweredBy_76 : decode cX6_loweredBy 76 = .ok (.goto (-58), 3) := by decide +kernel
theorem dX6_loweredBy_79 : decode cX6_loweredBy 79 = .ok (.aload_n 0, 1) := by decide +kernel
theorem dX6_loweredBy_80 : decode cX6_loweredBy 80 = .ok (.iload 4, 2) := by decide +kernel
theorem dX6_loweredBy_82 : decode cX6_loweredBy 82 = .ok (.invokevirtual 165, 3) := by decide +kernel
theorem dX6_loweredBy_85 : decode cX6_loweredBy 85 = .ok (.aload_n 0, 1) := by decide +kernel
theorem dX6_loweredBy_86 : decode cX6_loweredBy 86 = .ok (.iconst 1, 1) := by decide +kernel
theorem dX6_loweredBy_87 : decode cX6_loweredBy 87 = .ok (.iload_n 2, 1) := by decide +kernel
theorem dX6_loweredBy_88 : decode cX6_loweredBy 88 = .ok (.invokevirtual 134, 3) := by decide +kernel
theorem dX6_loweredBy_91 : decode cX6_loweredBy 91 = .ok (.iload_n 3, 1) := by decide +kernel
theorem dX6_loweredBy_92 : decode cX6_loweredBy 92 = .ok (.invokestatic 121, 3) := by decide +kernel
theorem dX6_loweredBy_95 : decode cX6_loweredBy 95 = .ok (.ifCond .eq 8, 3) := by decide +kernel
theorem dX6_loweredBy_98 : decode cX6_loweredBy 98 = .ok (.bipush (-9), 2) := by decide +kernel
theorem dX6_loweredBy_100 : decode cX6_loweredBy 100 = .ok (.goto 5, 3) := by decide +kernel
theorem dX6_loweredBy_103 : decode cX6_loweredBy 103 = .ok (.iload 6, 2) := by decide +kernel
theorem dX6_loweredBy_105 : decode cX6_loweredBy 105 = .ok (.ireturn, 1) := by decide +kernel
theorem dX6_figuresOf_0 : decode cX6_figuresOf 0 = .ok (.iconst 0, 1) := by decide +kernel
theorem dX6_figuresOf_1 : decode cX6_figuresOf 1 = .ok (.istore_n 2, 1) := by decide +kernel
theorem dX6_figuresOf_2 : decode cX6_figuresOf 2 = .ok (.iconst 1, 1) := by decide +kernel
theorem dX6_figuresOf_3 : decode cX6_figuresOf 3 = .ok (.istore_n 3, 1) := by decide +kernel
theorem dX6_figuresOf_4 : decode cX6_figuresOf 4 = .ok (.iload_n 1, 1) := by decide +kernel
theorem dX6_figuresOf_5 : decode cX6_figuresOf 5 = .ok (.istore 4, 2) := by decide +kernel
theorem dX6_figuresOf_7 : decode cX6_figuresOf 7 = .ok (.iconst 0, 1) := by decide +kernel
theorem dX6_figuresOf_8 : decode cX6_figuresOf 8 = .ok (.istore 5, 2) := by decide +kernel
theorem dX6_figuresOf_10 : decode cX6_figuresOf 10 = .ok (.iload 5, 2) := by decide +kernel
theorem dX6_figuresOf_12 : decode cX6_figuresOf 12 = .ok (.aload_n 0, 1) := by decide +kernel
theorem dX6_figuresOf_13 : decode cX6_figuresOf 13 = .ok (.getfield 93, 3) := by decide +kernel
theorem dX6_figuresOf_16 : decode cX6_figuresOf 16 = .ok (.if_icmp .ge 29, 3) := by decide +kernel
theorem dX6_figuresOf_19 : decode cX6_figuresOf 19 = .ok (.iload_n 2, 1) := by decide +kernel
theorem dX6_figuresOf_20 : decode cX6_figuresOf 20 = .ok (.iload_n 3, 1) := by decide +kernel
theorem dX6_figuresOf_21 : decode cX6_figuresOf 21 = .ok (.iload 4, 2) := by decide +kernel
theorem dX6_figuresOf_23 : decode cX6_figuresOf 23 = .ok (.iconst 4, 1) := by decide +kernel
theorem dX6_figuresOf_24 : decode cX6_figuresOf 24 = .ok (.irem, 1) := by decide +kernel
theorem dX6_figuresOf_25 : decode cX6_figuresOf 25 = .ok (.imul, 1) := by decide +kernel
theorem dX6_figuresOf_26 : decode cX6_figuresOf 26 = .ok (.iadd, 1) := by decide +kernel
theorem dX6_figuresOf_27 : decode cX6_figuresOf 27 = .ok (.istore_n 2, 1) := by decide +kernel
theorem dX6_figuresOf_28 : decode cX6_figuresOf 28 = .ok (.iload_n 3, 1) := by decide +kernel
theorem dX6_figuresOf_29 : decode cX6_figuresOf 29 = .ok (.bipush 10, 2) := by decide +kernel
theorem dX6_figuresOf_31 : decode cX6_figuresOf 31 = .ok (.imul, 1) := by decide +kernel
theorem dX6_figuresOf_32 : decode cX6_figuresOf 32 = .ok (.istore_n 3, 1) := by decide +kernel
theorem dX6_figuresOf_33 : decode cX6_figuresOf 33 = .ok (.iload 4, 2) := by decide +kernel
theorem dX6_figuresOf_35 : decode cX6_figuresOf 35 = .ok (.iconst 4, 1) := by decide +kernel
theorem dX6_figuresOf_36 : decode cX6_figuresOf 36 = .ok (.idiv, 1) := by decide +kernel
theorem dX6_figuresOf_37 : decode cX6_figuresOf 37 = .ok (.istore 4, 2) := by decide +kernel
theorem dX6_figuresOf_39 : decode cX6_figuresOf 39 = .ok (.iinc 5 1, 3) := by decide +kernel
theorem dX6_figuresOf_42 : decode cX6_figuresOf 42 = .ok (.goto (-32), 3) := by decide +kernel
theorem dX6_figuresOf_45 : decode cX6_figuresOf 45 = .ok (.iload_n 2, 1) := by decide +kernel
theorem dX6_figuresOf_46 : decode cX6_figuresOf 46 = .ok (.ireturn, 1) := by decide +kernel
set_option maxRecDepth 20000 in
theorem ggX6_keeps_X6_isHouse : GoodIn wsX6_keeps wsX6_isHouse := goodIn_r _ [7, 2, 8, 9, 6, 10, 75, 76, 77, 78, 79, 80, 81, 82, 83, 84, 85, 86, 87, 88, 89, 90, 91, 92, 93, 94, 95, 96, 97, 98, 99, 100, 101, 102] (by decide +kernel) (by decide +kernel)
set_option maxRecDepth 20000 in
theorem gX6_keeps_X6_isHouse : GoodIn wsX6_keeps (wsV RX6 131 RX6 yX6_isHouse wsX6_isHouse) := goodIn_app (goodIn_of _ (by decide +kernel)) ggX6_keeps_X6_isHouse
set_option maxRecDepth 20000 in
theorem ggX6_keeps_X6_isThing : GoodIn wsX6_keeps wsX6_isThing := goodIn_r _ [13, 14, 8, 9, 6, 10] (by decide +kernel) (by decide +kernel)
set_option maxRecDepth 20000 in
theorem gX6_keeps_X6_isThing : GoodIn wsX6_keeps (va_wsS RX6 168 yX6_isThing wsX6_isThing) := goodIn_app (goodIn_of _ (by decide +kernel)) ggX6_keeps_X6_isThing
set_option maxRecDepth 20000 in
theorem ggX6_keeps_X6_in : GoodIn wsX6_keeps wsX6_in := goodIn_r _ [10] (by decide +kernel) (by decide +kernel)
set_option maxRecDepth 20000 in
theorem gX6_keeps_X6_in : GoodIn wsX6_keeps (va_wsS RX6 58 yX6_in wsX6_in) := goodIn_app (goodIn_of _ (by decide +kernel)) ggX6_keeps_X6_in
set_option maxRecDepth 20000 in
theorem ggX6_keeps_X6_loweredBy : GoodIn wsX6_keeps wsX6_loweredBy := goodIn_r _ [18, 2, 19, 20, 21, 22, 6, 23, 24, 25, 26, 27, 28, 29, 30, 31, 32, 33, 34, 35, 36, 37, 38, 39, 40, 41, 42, 43, 44, 45, 46, 47, 48, 49, 50, 51, 52, 53, 54, 55, 56, 57, 58, 59, 60, 61, 62, 63, 64, 65, 66, 67, 68, 69, 70, 75, 76, 77, 78, 79, 80, 81, 82, 83, 84, 85, 86, 87, 88, 89, 90, 91, 92, 93, 94, 95, 96, 97, 98, 99, 100, 101, 102] (by decide +kernel) (by decide +kernel)
set_option maxRecDepth 20000 in
theorem gX6_keeps_X6_loweredBy : GoodIn wsX6_keeps (wsV RX6 173 RX6 yX6_loweredBy wsX6_loweredBy) := goodIn_app (goodIn_of _ (by decide +kernel)) ggX6_keeps_X6_loweredBy
set_option maxRecDepth 20000 in
theorem ggX6_keeps_X6_figuresOf : GoodIn wsX6_keeps wsX6_figuresOf := goodIn_r _ [74, 2, 75, 76, 77, 78, 79, 80, 81, 82, 83, 84, 85, 86, 87, 88, 89, 90, 91, 92, 93, 94, 95, 96, 97, 98, 99, 100, 101, 102] (by decide +kernel) (by decide +kernel)
set_option maxRecDepth 20000 in
theorem gX6_keeps_X6_figuresOf : GoodIn wsX6_keeps (wsV RX6 177 RX6 yX6_figuresOf wsX6_figuresOf) := goodIn_app (goodIn_of _ (by decide +kernel)) ggX6_keeps_X6_figuresOf
theorem dX6_keeps_0 : decode cX6_keeps 0 = .ok (.aload_n 0, 1) := by decide +kernel
theorem dX6_keeps_1 : decode cX6_keeps 1 = .ok (.iload_n 1, 1) := by decide +kernel
theorem dX6_keeps_2 : decode cX6_keeps 2 = .ok (.invokevirtual 131, 3) := by decide +kernel
theorem dX6_keeps_5 : decode cX6_keeps 5 = .ok (.ifCond .eq 10, 3) := by decide +kernel
theorem dX6_keeps_8 : decode cX6_keeps 8 = .ok (.iload_n 2, 1) := by decide +kernel
theorem dX6_keeps_9 : decode cX6_keeps 9 = .ok (.invokestatic 168, 3) := by decide +kernel
theorem dX6_keeps_12 : decode cX6_keeps 12 = .ok (.ifCond .ne 5, 3) := by decide +kernel
theorem dX6_keeps_15 : decode cX6_keeps 15 = .ok (.iconst (-1), 1) := by decide +kernel
theorem dX6_keeps_16 : decode cX6_keeps 16 = .ok (.ireturn, 1) := by decide +kernel
theorem dX6_keeps_17 : decode cX6_keeps 17 = .ok (.iload_n 3, 1) := by decide +kernel
theorem dX6_keeps_18 : decode cX6_keeps 18 = .ok (.i2l, 1) := by decide +kernel
theorem dX6_keeps_19 : decode cX6_keeps 19 = .ok (.lconst 1, 1) := by decide +kernel
theorem dX6_keeps_20 : decode cX6_keeps 20 = .ok (.ldc2_w 171, 3) := by decide +kernel
theorem dX6_keeps_23 : decode cX6_keeps 23 = .ok (.invokestatic 58, 3) := by decide +kernel
theorem dX6_keeps_26 : decode cX6_keeps 26 = .ok (.ifCond .eq 14, 3) := by decide +kernel
theorem dX6_keeps_29 : decode cX6_keeps 29 = .ok (.iload 4, 2) := by decide +kernel
theorem dX6_keeps_31 : decode cX6_keeps 31 = .ok (.i2l, 1) := by decide +kernel
theorem dX6_keeps_32 : decode cX6_keeps 32 = .ok (.lconst 0, 1) := by decide +kernel
theorem dX6_keeps_33 : decode cX6_keeps 33 = .ok (.lconst 1, 1) := by decide +kernel
theorem dX6_keeps_34 : decode cX6_keeps 34 = .ok (.invokestatic 58, 3) := by decide +kernel
theorem dX6_keeps_37 : decode cX6_keeps 37 = .ok (.ifCond .ne 6, 3) := by decide +kernel
theorem dX6_keeps_40 : decode cX6_keeps 40 = .ok (.bipush (-2), 2) := by decide +kernel
theorem dX6_keeps_42 : decode cX6_keeps 42 = .ok (.ireturn, 1) := by decide +kernel
theorem dX6_keeps_43 : decode cX6_keeps 43 = .ok (.bipush (-9), 2) := by decide +kernel
theorem dX6_keeps_45 : decode cX6_keeps 45 = .ok (.istore 5, 2) := by decide +kernel
theorem dX6_keeps_47 : decode cX6_keeps 47 = .ok (.bipush (-9), 2) := by decide +kernel
theorem dX6_keeps_49 : decode cX6_keeps 49 = .ok (.istore 6, 2) := by decide +kernel
theorem dX6_keeps_51 : decode cX6_keeps 51 = .ok (.iconst 0, 1) := by decide +kernel
theorem dX6_keeps_52 : decode cX6_keeps 52 = .ok (.istore 7, 2) := by decide +kernel
theorem dX6_keeps_54 : decode cX6_keeps 54 = .ok (.iload 7, 2) := by decide +kernel
theorem dX6_keeps_56 : decode cX6_keeps 56 = .ok (.iconst 1, 1) := by decide +kernel
theorem dX6_keeps_57 : decode cX6_keeps 57 = .ok (.iconst 2, 1) := by decide +kernel
theorem dX6_keeps_58 : decode cX6_keeps 58 = .ok (.aload_n 0, 1) := by decide +kernel
theorem dX6_keeps_59 : decode cX6_keeps 59 = .ok (.getfield 93, 3) := by decide +kernel
theorem dX6_keeps_62 : decode cX6_keeps 62 = .ok (.imul, 1) := by decide +kernel
theorem dX6_keeps_63 : decode cX6_keeps 63 = .ok (.ishl, 1) := by decide +kernel
theorem dX6_keeps_64 : decode cX6_keeps 64 = .ok (.if_icmp .ge 80, 3) := by decide +kernel
theorem dX6_keeps_67 : decode cX6_keeps 67 = .ok (.aload_n 0, 1) := by decide +kernel
theorem dX6_keeps_68 : decode cX6_keeps 68 = .ok (.iload 7, 2) := by decide +kernel
theorem dX6_keeps_70 : decode cX6_keeps 70 = .ok (.iload_n 1, 1) := by decide +kernel
theorem dX6_keeps_71 : decode cX6_keeps 71 = .ok (.iload_n 2, 1) := by decide +kernel
theorem dX6_keeps_72 : decode cX6_keeps 72 = .ok (.iload_n 3, 1) := by decide +kernel
theorem dX6_keeps_73 : decode cX6_keeps 73 = .ok (.invokevirtual 173, 3) := by decide +kernel
theorem dX6_keeps_76 : decode cX6_keeps 76 = .ok (.istore 8, 2) := by decide +kernel
theorem dX6_keeps_78 : decode cX6_keeps 78 = .ok (.iload 8, 2) := by decide +kernel
theorem dX6_keeps_80 : decode cX6_keeps 80 = .ok (.bipush (-9), 2) := by decide +kernel
theorem dX6_keeps_82 : decode cX6_keeps 82 = .ok (.if_icmp .eq 21, 3) := by decide +kernel
theorem dX6_keeps_85 : decode cX6_keeps 85 = .ok (.iload 5, 2) := by decide +kernel
theorem dX6_keeps_87 : decode cX6_keeps 87 = .ok (.bipush (-9), 2) := by decide +kernel
theorem dX6_keeps_89 : decode cX6_keeps 89 = .ok (.if_icmp .eq 10, 3) := by decide +kernel
theorem dX6_keeps_92 : decode cX6_keeps 92 = .ok (.iload 8, 2) := by decide +kernel
theorem dX6_keeps_94 : decode cX6_keeps 94 = .ok (.iload 5, 2) := by decide +kernel
theorem dX6_keeps_96 : decode cX6_keeps 96 = .ok (.if_icmp .ge 7, 3) := by decide +kernel
theorem dX6_keeps_99 : decode cX6_keeps 99 = .ok (.iconst 1, 1) := by decide +kernel
theorem dX6_keeps_100 : decode cX6_keeps 100 = .ok (.goto 4, 3) := by decide +kernel
theorem dX6_keeps_103 : decode cX6_keeps 103 = .ok (.iconst 0, 1) := by decide +kernel
theorem dX6_keeps_104 : decode cX6_keeps 104 = .ok (.istore 9, 2) := by decide +kernel
theorem dX6_keeps_106 : decode cX6_keeps 106 = .ok (.iload 9, 2) := by decide +kernel
theorem dX6_keeps_108 : decode cX6_keeps 108 = .ok (.ifCond .eq 12, 3) := by decide +kernel
theorem dX6_keeps_111 : decode cX6_keeps 111 = .ok (.aload_n 0, 1) := by decide +kernel
theorem dX6_keeps_112 : decode cX6_keeps 112 = .ok (.iload 7, 2) := by decide +kernel
theorem dX6_keeps_114 : decode cX6_keeps 114 = .ok (.invokevirtual 177, 3) := by decide +kernel
theorem dX6_keeps_117 : decode cX6_keeps 117 = .ok (.goto 5, 3) := by decide +kernel
theorem dX6_keeps_120 : decode cX6_keeps 120 = .ok (.iload 6, 2) := by decide +kernel
theorem dX6_keeps_122 : decode cX6_keeps 122 = .ok (.istore 6, 2) := by decide +kernel
theorem dX6_keeps_124 : decode cX6_keeps 124 = .ok (.iload 9, 2) := by decide +kernel
theorem dX6_keeps_126 : decode cX6_keeps 126 = .ok (.ifCond .eq 8, 3) := by decide +kernel
theorem dX6_keeps_129 : decode cX6_keeps 129 = .ok (.iload 8, 2) := by decide +kernel
theorem dX6_keeps_131 : decode cX6_keeps 131 = .ok (.goto 5, 3) := by decide +kernel
theorem dX6_keeps_134 : decode cX6_keeps 134 = .ok (.iload 5, 2) := by decide +kernel
theorem dX6_keeps_136 : decode cX6_keeps 136 = .ok (.istore 5, 2) := by decide +kernel
theorem dX6_keeps_138 : decode cX6_keeps 138 = .ok (.iinc 7 1, 3) := by decide +kernel
theorem dX6_keeps_141 : decode cX6_keeps 141 = .ok (.goto (-87), 3) := by decide +kernel
theorem dX6_keeps_144 : decode cX6_keeps 144 = .ok (.iload 4, 2) := by decide +kernel
theorem dX6_keeps_146 : decode cX6_keeps 146 = .ok (.ifCond .ne 8, 3) := by decide +kernel
theorem dX6_keeps_149 : decode cX6_keeps 149 = .ok (.iload 5, 2) := by decide +kernel
theorem dX6_keeps_151 : decode cX6_keeps 151 = .ok (.goto 5, 3) := by decide +kernel
theorem dX6_keeps_154 : decode cX6_keeps 154 = .ok (.iload 6, 2) := by decide +kernel
theorem dX6_keeps_156 : decode cX6_keeps 156 = .ok (.ireturn, 1) := by decide +kernel
set_option maxRecDepth 20000 in
theorem ggX6_knownBy_X6_has : GoodIn wsX6_knownBy wsX6_has := goodIn_r _ [5] (by decide +kernel) (by decide +kernel)
set_option maxRecDepth 20000 in
theorem gX6_knownBy_X6_has : GoodIn wsX6_knownBy (va_wsS RX6 121 yX6_has wsX6_has) := goodIn_app (goodIn_of _ (by decide +kernel)) ggX6_knownBy_X6_has
set_option maxRecDepth 20000 in
theorem ggX6_knownBy_X6_knowsAt : GoodIn wsX6_knownBy wsX6_knowsAt := goodIn_r _ [9, 10, 11, 12, 13, 14, 15, 16, 17, 18, 19, 20, 21, 22, 23, 24, 25, 26, 27, 28, 29, 30, 31, 32, 33, 34, 35, 36, 37, 38] (by decide +kernel) (by decide +kernel)
set_option maxRecDepth 20000 in
theorem gX6_knownBy_X6_knowsAt : GoodIn wsX6_knownBy (wsV RX6 134 RX6 yX6_knowsAt wsX6_knowsAt) := goodIn_app (goodIn_of _ (by decide +kernel)) ggX6_knownBy_X6_knowsAt
theorem dX6_knownBy_0 : decode cX6_knownBy 0 = .ok (.iconst 0, 1) := by decide +kernel
theorem dX6_knownBy_1 : decode cX6_knownBy 1 = .ok (.istore_n 2, 1) := by decide +kernel
theorem dX6_knownBy_2 : decode cX6_knownBy 2 = .ok (.iconst 0, 1) := by decide +kernel
theorem dX6_knownBy_3 : decode cX6_knownBy 3 = .ok (.istore_n 3, 1) := by decide +kernel
theorem dX6_knownBy_4 : decode cX6_knownBy 4 = .ok (.iload_n 3, 1) := by decide +kernel
theorem dX6_knownBy_5 : decode cX6_knownBy 5 = .ok (.aload_n 0, 1) := by decide +kernel
theorem dX6_knownBy_6 : decode cX6_knownBy 6 = .ok (.getfield 93, 3) := by decide +kernel
theorem dX6_knownBy_9 : decode cX6_knownBy 9 = .ok (.if_icmp .ge 30, 3) := by decide +kernel
theorem dX6_knownBy_12 : decode cX6_knownBy 12 = .ok (.iload_n 2, 1) := by decide +kernel
theorem dX6_knownBy_13 : decode cX6_knownBy 13 = .ok (.iload_n 1, 1) := by decide +kernel
theorem dX6_knownBy_14 : decode cX6_knownBy 14 = .ok (.iload_n 3, 1) := by decide +kernel
theorem dX6_knownBy_15 : decode cX6_knownBy 15 = .ok (.invokestatic 121, 3) := by decide +kernel
theorem dX6_knownBy_18 : decode cX6_knownBy 18 = .ok (.ifCond .eq 12, 3) := by decide +kernel
theorem dX6_knownBy_21 : decode cX6_knownBy 21 = .ok (.aload_n 0, 1) := by decide +kernel
theorem dX6_knownBy_22 : decode cX6_knownBy 22 = .ok (.iconst 0, 1) := by decide +kernel
theorem dX6_knownBy_23 : decode cX6_knownBy 23 = .ok (.iload_n 3, 1) := by decide +kernel
theorem dX6_knownBy_24 : decode cX6_knownBy 24 = .ok (.invokevirtual 134, 3) := by decide +kernel
theorem dX6_knownBy_27 : decode cX6_knownBy 27 = .ok (.goto 4, 3) := by decide +kernel
theorem dX6_knownBy_30 : decode cX6_knownBy 30 = .ok (.iconst 0, 1) := by decide +kernel
theorem dX6_knownBy_31 : decode cX6_knownBy 31 = .ok (.ior, 1) := by decide +kernel
theorem dX6_knownBy_32 : decode cX6_knownBy 32 = .ok (.istore_n 2, 1) := by decide +kernel
theorem dX6_knownBy_33 : decode cX6_knownBy 33 = .ok (.iinc 3 1, 3) := by decide +kernel
theorem dX6_knownBy_36 : decode cX6_knownBy 36 = .ok (.goto (-32), 3) := by decide +kernel
theorem dX6_knownBy_39 : decode cX6_knownBy 39 = .ok (.iload_n 2, 1) := by decide +kernel
theorem dX6_knownBy_40 : decode cX6_knownBy 40 = .ok (.ireturn, 1) := by decide +kernel
set_option maxRecDepth 20000 in
theorem ggX6_tells_X6_in : GoodIn wsX6_tells wsX6_in := goodIn_r _ [6] (by decide +kernel) (by decide +kernel)
set_option maxRecDepth 20000 in
theorem gX6_tells_X6_in : GoodIn wsX6_tells (va_wsS RX6 58 yX6_in wsX6_in) := goodIn_app (goodIn_of _ (by decide +kernel)) ggX6_tells_X6_in
set_option maxRecDepth 20000 in
theorem ggX6_tells_X6_ones : GoodIn wsX6_tells wsX6_ones := goodIn_r _ [9] (by decide +kernel) (by decide +kernel)
set_option maxRecDepth 20000 in
theorem gX6_tells_X6_ones : GoodIn wsX6_tells (va_wsS RX6 128 yX6_ones wsX6_ones) := goodIn_app (goodIn_of _ (by decide +kernel)) ggX6_tells_X6_ones
set_option maxRecDepth 20000 in
theorem ggX6_tells_X6_knownBy : GoodIn wsX6_tells wsX6_knownBy := goodIn_r _ [13, 2, 14, 15, 5, 16, 17, 18, 19, 20, 21, 22, 23, 24, 25, 26, 27, 28, 29, 30, 31, 32, 33, 34, 35, 36, 37, 38, 39, 40, 41, 42, 43, 44, 45, 46, 47, 48, 49] (by decide +kernel) (by decide +kernel)
set_option maxRecDepth 20000 in
theorem gX6_tells_X6_knownBy : GoodIn wsX6_tells (wsV RX6 182 RX6 yX6_knownBy wsX6_knownBy) := goodIn_app (goodIn_of _ (by decide +kernel)) ggX6_tells_X6_knownBy
theorem dX6_tells_0 : decode cX6_tells 0 = .ok (.iload_n 1, 1) := by decide +kernel
theorem dX6_tells_1 : decode cX6_tells 1 = .ok (.i2l, 1) := by decide +kernel
theorem dX6_tells_2 : decode cX6_tells 2 = .ok (.lconst 0, 1) := by decide +kernel
theorem dX6_tells_3 : decode cX6_tells 3 = .ok (.ldc2_w 180, 3) := by decide +kernel
theorem dX6_tells_6 : decode cX6_tells 6 = .ok (.invokestatic 58, 3) := by decide +kernel
theorem dX6_tells_9 : decode cX6_tells 9 = .ok (.ifCond .eq 13, 3) := by decide +kernel
theorem dX6_tells_12 : decode cX6_tells 12 = .ok (.iload_n 2, 1) := by decide +kernel
theorem dX6_tells_13 : decode cX6_tells 13 = .ok (.i2l, 1) := by decide +kernel
theorem dX6_tells_14 : decode cX6_tells 14 = .ok (.lconst 0, 1) := by decide +kernel
theorem dX6_tells_15 : decode cX6_tells 15 = .ok (.lconst 1, 1) := by decide +kernel
theorem dX6_tells_16 : decode cX6_tells 16 = .ok (.invokestatic 58, 3) := by decide +kernel
theorem dX6_tells_19 : decode cX6_tells 19 = .ok (.ifCond .ne 6, 3) := by decide +kernel
theorem dX6_tells_22 : decode cX6_tells 22 = .ok (.bipush (-2), 2) := by decide +kernel
theorem dX6_tells_24 : decode cX6_tells 24 = .ok (.ireturn, 1) := by decide +kernel
theorem dX6_tells_25 : decode cX6_tells 25 = .ok (.bipush (-9), 2) := by decide +kernel
theorem dX6_tells_27 : decode cX6_tells 27 = .ok (.istore_n 3, 1) := by decide +kernel
theorem dX6_tells_28 : decode cX6_tells 28 = .ok (.iconst 0, 1) := by decide +kernel
theorem dX6_tells_29 : decode cX6_tells 29 = .ok (.istore 4, 2) := by decide +kernel
theorem dX6_tells_31 : decode cX6_tells 31 = .ok (.iload 4, 2) := by decide +kernel
theorem dX6_tells_33 : decode cX6_tells 33 = .ok (.iconst 1, 1) := by decide +kernel
theorem dX6_tells_34 : decode cX6_tells 34 = .ok (.aload_n 0, 1) := by decide +kernel
theorem dX6_tells_35 : decode cX6_tells 35 = .ok (.getfield 93, 3) := by decide +kernel
theorem dX6_tells_38 : decode cX6_tells 38 = .ok (.ishl, 1) := by decide +kernel
theorem dX6_tells_39 : decode cX6_tells 39 = .ok (.if_icmp .ge 59, 3) := by decide +kernel
theorem dX6_tells_42 : decode cX6_tells 42 = .ok (.iload_n 3, 1) := by decide +kernel
theorem dX6_tells_43 : decode cX6_tells 43 = .ok (.bipush (-9), 2) := by decide +kernel
theorem dX6_tells_45 : decode cX6_tells 45 = .ok (.if_icmp .eq 15, 3) := by decide +kernel
theorem dX6_tells_48 : decode cX6_tells 48 = .ok (.iload 4, 2) := by decide +kernel
theorem dX6_tells_50 : decode cX6_tells 50 = .ok (.invokestatic 128, 3) := by decide +kernel
theorem dX6_tells_53 : decode cX6_tells 53 = .ok (.iload_n 3, 1) := by decide +kernel
theorem dX6_tells_54 : decode cX6_tells 54 = .ok (.invokestatic 128, 3) := by decide +kernel
theorem dX6_tells_57 : decode cX6_tells 57 = .ok (.if_icmp .ge 7, 3) := by decide +kernel
theorem dX6_tells_60 : decode cX6_tells 60 = .ok (.iconst 1, 1) := by decide +kernel
theorem dX6_tells_61 : decode cX6_tells 61 = .ok (.goto 4, 3) := by decide +kernel
theorem dX6_tells_64 : decode cX6_tells 64 = .ok (.iconst 0, 1) := by decide +kernel
theorem dX6_tells_65 : decode cX6_tells 65 = .ok (.istore 5, 2) := by decide +kernel
theorem dX6_tells_67 : decode cX6_tells 67 = .ok (.iload 5, 2) := by decide +kernel
theorem dX6_tells_69 : decode cX6_tells 69 = .ok (.ifCond .eq 21, 3) := by decide +kernel
theorem dX6_tells_72 : decode cX6_tells 72 = .ok (.iload_n 1, 1) := by decide +kernel
theorem dX6_tells_73 : decode cX6_tells 73 = .ok (.aload_n 0, 1) := by decide +kernel
theorem dX6_tells_74 : decode cX6_tells 74 = .ok (.iload 4, 2) := by decide +kernel
theorem dX6_tells_76 : decode cX6_tells 76 = .ok (.invokevirtual 182, 3) := by decide +kernel
theorem dX6_tells_79 : decode cX6_tells 79 = .ok (.iconst (-1), 1) := by decide +kernel
theorem dX6_tells_80 : decode cX6_tells 80 = .ok (.ixor, 1) := by decide +kernel
theorem dX6_tells_81 : decode cX6_tells 81 = .ok (.iand, 1) := by decide +kernel
theorem dX6_tells_82 : decode cX6_tells 82 = .ok (.ifCond .ne 8, 3) := by decide +kernel
theorem dX6_tells_85 : decode cX6_tells 85 = .ok (.iload 4, 2) := by decide +kernel
theorem dX6_tells_87 : decode cX6_tells 87 = .ok (.goto 4, 3) := by decide +kernel
theorem dX6_tells_90 : decode cX6_tells 90 = .ok (.iload_n 3, 1) := by decide +kernel
theorem dX6_tells_91 : decode cX6_tells 91 = .ok (.istore_n 3, 1) := by decide +kernel
theorem dX6_tells_92 : decode cX6_tells 92 = .ok (.iinc 4 1, 3) := by decide +kernel
theorem dX6_tells_95 : decode cX6_tells 95 = .ok (.goto (-64), 3) := by decide +kernel
theorem dX6_tells_98 : decode cX6_tells 98 = .ok (.iload_n 3, 1) := by decide +kernel
theorem dX6_tells_99 : decode cX6_tells 99 = .ok (.bipush (-9), 2) := by decide +kernel
theorem dX6_tells_101 : decode cX6_tells 101 = .ok (.if_icmp .eq 8, 3) := by decide +kernel
theorem dX6_tells_104 : decode cX6_tells 104 = .ok (.iload_n 2, 1) := by decide +kernel
theorem dX6_tells_105 : decode cX6_tells 105 = .ok (.iconst 1, 1) := by decide +kernel
theorem dX6_tells_106 : decode cX6_tells 106 = .ok (.if_icmp .ne 7, 3) := by decide +kernel
theorem dX6_tells_109 : decode cX6_tells 109 = .ok (.iload_n 3, 1) := by decide +kernel
theorem dX6_tells_110 : decode cX6_tells 110 = .ok (.goto 7, 3) := by decide +kernel
theorem dX6_tells_113 : decode cX6_tells 113 = .ok (.iload_n 3, 1) := by decide +kernel
theorem dX6_tells_114 : decode cX6_tells 114 = .ok (.invokestatic 128, 3) := by decide +kernel
theorem dX6_tells_117 : decode cX6_tells 117 = .ok (.ireturn, 1) := by decide +kernel
set_option maxRecDepth 20000 in
theorem ggX6_tryThing_X6_goOn : GoodIn wsX6_tryThing wsX6_goOn := goodIn_r _ [6, 7, 8, 9, 5, 10, 11, 12, 1, 13, 14, 15, 16, 17, 18, 19, 20, 21, 22, 23, 24, 25, 26, 27, 28, 29, 30, 31, 32, 33, 34, 35, 36, 37, 38, 39, 40, 41, 42, 43, 44, 45, 46, 70, 71, 72, 73, 74, 75, 76, 77, 78, 79, 80, 81, 82, 83, 84, 85, 86, 87, 88, 89, 90, 91, 92, 93, 94, 95, 96, 97] (by decide +kernel) (by decide +kernel)
set_option maxRecDepth 20000 in
theorem gX6_tryThing_X6_goOn : GoodIn wsX6_tryThing (wsV RX6 165 RX6 yX6_goOn wsX6_goOn) := goodIn_app (goodIn_of _ (by decide +kernel)) ggX6_tryThing_X6_goOn
set_option maxRecDepth 20000 in
theorem ggX6_tryThing_X6_isHouse : GoodIn wsX6_tryThing wsX6_isHouse := goodIn_r _ [50, 17, 51, 52, 5, 53, 70, 71, 72, 73, 74, 75, 76, 77, 78, 79, 80, 81, 82, 83, 84, 85, 86, 87, 88, 89, 90, 91, 92, 93, 94, 95, 96, 97] (by decide +kernel) (by decide +kernel)
set_option maxRecDepth 20000 in
theorem gX6_tryThing_X6_isHouse : GoodIn wsX6_tryThing (wsV RX6 131 RX6 yX6_isHouse wsX6_isHouse) := goodIn_app (goodIn_of _ (by decide +kernel)) ggX6_tryThing_X6_isHouse
set_option maxRecDepth 20000 in
theorem ggX6_tryThing_X6_changeOn : GoodIn wsX6_tryThing wsX6_changeOn := goodIn_r _ [57, 1, 70, 71, 72, 73, 74, 75, 76, 77, 78, 79, 80, 81, 82, 83, 84, 85, 86, 87, 88, 89, 90, 91, 92, 93, 94, 95, 96, 97] (by decide +kernel) (by decide +kernel)
set_option maxRecDepth 20000 in
theorem gX6_tryThing_X6_changeOn : GoodIn wsX6_tryThing (wsV RX6 152 RX6 yX6_changeOn wsX6_changeOn) := goodIn_app (goodIn_of _ (by decide +kernel)) ggX6_tryThing_X6_changeOn
set_option maxRecDepth 20000 in
theorem ggX6_tryThing_X6_plateOn : GoodIn wsX6_tryThing wsX6_plateOn := goodIn_r _ [61, 1, 62, 63, 64, 5, 65, 70, 71, 72, 73, 74, 75, 76, 77, 78, 79, 80, 81, 82, 83, 84, 85, 86, 87, 88, 89, 90, 91, 92, 93, 94, 95, 96, 97] (by decide +kernel) (by decide +kernel)
set_option maxRecDepth 20000 in
theorem gX6_tryThing_X6_plateOn : GoodIn wsX6_tryThing (wsV RX6 156 RX6 yX6_plateOn wsX6_plateOn) := goodIn_app (goodIn_of _ (by decide +kernel)) ggX6_tryThing_X6_plateOn
set_option maxRecDepth 20000 in
theorem ggX6_tryThing_X6_isThing : GoodIn wsX6_tryThing wsX6_isThing := goodIn_r _ [68, 69, 51, 52, 5, 53] (by decide +kernel) (by decide +kernel)
set_option maxRecDepth 20000 in
theorem gX6_tryThing_X6_isThing : GoodIn wsX6_tryThing (va_wsS RX6 168 yX6_isThing wsX6_isThing) := goodIn_app (goodIn_of _ (by decide +kernel)) ggX6_tryThing_X6_isThing
set_option maxRecDepth 20000 in
theorem ggX6_tryThing_X6_knowsAt : GoodIn wsX6_tryThing wsX6_knowsAt := goodIn_r _ [65, 1, 70, 71, 72, 73, 74, 75, 76, 77, 78, 79, 80, 81, 82, 83, 84, 85, 86, 87, 88, 89, 90, 91, 92, 93, 94, 95, 96, 97] (by decide +kernel) (by decide +kernel)
set_option maxRecDepth 20000 in
theorem gX6_tryThing_X6_knowsAt : GoodIn wsX6_tryThing (wsV RX6 134 RX6 yX6_knowsAt wsX6_knowsAt) := goodIn_app (goodIn_of _ (by decide +kernel)) ggX6_tryThing_X6_knowsAt
set_option maxRecDepth 20000 in
theorem ggX6_tryThing_X6_has : GoodIn wsX6_tryThing wsX6_has := goodIn_r _ [39] (by decide +kernel) (by decide +kernel)
set_option maxRecDepth 20000 in
theorem gX6_tryThing_X6_has : GoodIn wsX6_tryThing (va_wsS RX6 121 yX6_has wsX6_has) := goodIn_app (goodIn_of _ (by decide +kernel)) ggX6_tryThing_X6_has
theorem dX6_tryThing_0 : decode cX6_tryThing 0 = .ok (.iload_n 1, 1) := by decide +kernel
theorem dX6_tryThing_1 : decode cX6_tryThing 1 = .ok (.tableswitch 310 0 6 #[43, 62, 116, 169, 212, 255, 289], 43) := by decide +kernel
theorem dX6_tryThing_44 : decode cX6_tryThing 44 = .ok (.aload_n 0, 1) := by decide +kernel
theorem dX6_tryThing_45 : decode cX6_tryThing 45 = .ok (.iconst 1, 1) := by decide +kernel
theorem dX6_tryThing_46 : decode cX6_tryThing 46 = .ok (.invokevirtual 165, 3) := by decide +kernel
theorem dX6_tryThing_49 : decode cX6_tryThing 49 = .ok (.iload_n 2, 1) := by decide +kernel
theorem dX6_tryThing_50 : decode cX6_tryThing 50 = .ok (.ifCond .ne 11, 3) := by decide +kernel
theorem dX6_tryThing_53 : decode cX6_tryThing 53 = .ok (.iload_n 3, 1) := by decide +kernel
theorem dX6_tryThing_54 : decode cX6_tryThing 54 = .ok (.ifCond .ne 7, 3) := by decide +kernel
theorem dX6_tryThing_57 : decode cX6_tryThing 57 = .ok (.iconst 1, 1) := by decide +kernel
theorem dX6_tryThing_58 : decode cX6_tryThing 58 = .ok (.goto 4, 3) := by decide +kernel
theorem dX6_tryThing_61 : decode cX6_tryThing 61 = .ok (.iconst 0, 1) := by decide +kernel
theorem dX6_tryThing_62 : decode cX6_tryThing 62 = .ok (.ireturn, 1) := by decide +kernel
theorem dX6_tryThing_63 : decode cX6_tryThing 63 = .ok (.iload_n 2, 1) := by decide +kernel
theorem dX6_tryThing_64 : decode cX6_tryThing 64 = .ok (.ifCond .ne 29, 3) := by decide +kernel
theorem dX6_tryThing_67 : decode cX6_tryThing 67 = .ok (.aload_n 0, 1) := by decide +kernel
theorem dX6_tryThing_68 : decode cX6_tryThing 68 = .ok (.iload_n 3, 1) := by decide +kernel
theorem dX6_tryThing_69 : decode cX6_tryThing 69 = .ok (.invokevirtual 131, 3) := by decide +kernel
theorem dX6_tryThing_72 : decode cX6_tryThing 72 = .ok (.ifCond .eq 21, 3) := by decide +kernel
theorem dX6_tryThing_75 : decode cX6_tryThing 75 = .ok (.aload_n 0, 1) := by decide +kernel
theorem dX6_tryThing_76 : decode cX6_tryThing 76 = .ok (.getfield 22, 3) := by decide +kernel
theorem dX6_tryThing_79 : decode cX6_tryThing 79 = .ok (.bipush 27, 2) := by decide +kernel
theorem dX6_tryThing_81 : decode cX6_tryThing 81 = .ok (.iload_n 3, 1) := by decide +kernel
theorem dX6_tryThing_82 : decode cX6_tryThing 82 = .ok (.iadd, 1) := by decide +kernel
theorem dX6_tryThing_83 : decode cX6_tryThing 83 = .ok (.iaload, 1) := by decide +kernel
theorem dX6_tryThing_84 : decode cX6_tryThing 84 = .ok (.bipush (-3), 2) := by decide +kernel
theorem dX6_tryThing_86 : decode cX6_tryThing 86 = .ok (.if_icmp .le 7, 3) := by decide +kernel
theorem dX6_tryThing_89 : decode cX6_tryThing 89 = .ok (.iconst 1, 1) := by decide +kernel
theorem dX6_tryThing_90 : decode cX6_tryThing 90 = .ok (.goto 4, 3) := by decide +kernel
theorem dX6_tryThing_93 : decode cX6_tryThing 93 = .ok (.iconst 0, 1) := by decide +kernel
theorem dX6_tryThing_94 : decode cX6_tryThing 94 = .ok (.istore 4, 2) := by decide +kernel
theorem dX6_tryThing_96 : decode cX6_tryThing 96 = .ok (.iload 4, 2) := by decide +kernel
theorem dX6_tryThing_98 : decode cX6_tryThing 98 = .ok (.ifCond .eq 16, 3) := by decide +kernel
theorem dX6_tryThing_101 : decode cX6_tryThing 101 = .ok (.aload_n 0, 1) := by decide +kernel
theorem dX6_tryThing_102 : decode cX6_tryThing 102 = .ok (.getfield 22, 3) := by decide +kernel
theorem dX6_tryThing_105 : decode cX6_tryThing 105 = .ok (.bipush 27, 2) := by decide +kernel
theorem dX6_tryThing_107 : decode cX6_tryThing 107 = .ok (.iload_n 3, 1) := by decide +kernel
theorem dX6_tryThing_108 : decode cX6_tryThing 108 = .ok (.iadd, 1) := by decide +kernel
theorem dX6_tryThing_109 : decode cX6_tryThing 109 = .ok (.dup2, 1) := by decide +kernel
theorem dX6_tryThing_110 : decode cX6_tryThing 110 = .ok (.iaload, 1) := by decide +kernel
theorem dX6_tryThing_111 : decode cX6_tryThing 111 = .ok (.iconst 1, 1) := by decide +kernel
theorem dX6_tryThing_112 : decode cX6_tryThing 112 = .ok (.isub, 1) := by decide +kernel
theorem dX6_tryThing_113 : decode cX6_tryThing 113 = .ok (.iastore, 1) := by decide +kernel
theorem dX6_tryThing_114 : decode cX6_tryThing 114 = .ok (.iload 4, 2) := by decide +kernel
theorem dX6_tryThing_116 : decode cX6_tryThing 116 = .ok (.ireturn, 1) := by decide +kernel
theorem dX6_tryThing_117 : decode cX6_tryThing 117 = .ok (.iload_n 2, 1) := by decide +kernel
theorem dX6_tryThing_118 : decode cX6_tryThing 118 = .ok (.ifCond .ne 28, 3) := by decide +kernel
theorem dX6_tryThing_121 : decode cX6_tryThing 121 = .ok (.aload_n 0, 1) := by decide +kernel
theorem dX6_tryThing_122 : decode cX6_tryThing 122 = .ok (.iload_n 3, 1) := by decide +kernel
theorem dX6_tryThing_123 : decode cX6_tryThing 123 = .ok (.invokevirtual 131, 3) := by decide +kernel
theorem dX6_tryThing_126 : decode cX6_tryThing 126 = .ok (.ifCond .eq 20, 3) := by decide +kernel
theorem dX6_tryThing_129 : decode cX6_tryThing 129 = .ok (.aload_n 0, 1) := by decide +kernel
theorem dX6_tryThing_130 : decode cX6_tryThing 130 = .ok (.getfield 22, 3) := by decide +kernel
theorem dX6_tryThing_133 : decode cX6_tryThing 133 = .ok (.bipush 27, 2) := by decide +kernel
theorem dX6_tryThing_135 : decode cX6_tryThing 135 = .ok (.iload_n 3, 1) := by decide +kernel
theorem dX6_tryThing_136 : decode cX6_tryThing 136 = .ok (.iadd, 1) := by decide +kernel
theorem dX6_tryThing_137 : decode cX6_tryThing 137 = .ok (.iaload, 1) := by decide +kernel
theorem dX6_tryThing_138 : decode cX6_tryThing 138 = .ok (.iconst 3, 1) := by decide +kernel
theorem dX6_tryThing_139 : decode cX6_tryThing 139 = .ok (.if_icmp .ge 7, 3) := by decide +kernel
theorem dX6_tryThing_142 : decode cX6_tryThing 142 = .ok (.iconst 1, 1) := by decide +kernel
theorem dX6_tryThing_143 : decode cX6_tryThing 143 = .ok (.goto 4, 3) := by decide +kernel
theorem dX6_tryThing_146 : decode cX6_tryThing 146 = .ok (.iconst 0, 1) := by decide +kernel
theorem dX6_tryThing_147 : decode cX6_tryThing 147 = .ok (.istore 5, 2) := by decide +kernel
theorem dX6_tryThing_149 : decode cX6_tryThing 149 = .ok (.iload 5, 2) := by decide +kernel
theorem dX6_tryThing_151 : decode cX6_tryThing 151 = .ok (.ifCond .eq 16, 3) := by decide +kernel
theorem dX6_tryThing_154 : decode cX6_tryThing 154 = .ok (.aload_n 0, 1) := by decide +kernel
theorem dX6_tryThing_155 : decode cX6_tryThing 155 = .ok (.getfield 22, 3) := by decide +kernel
theorem dX6_tryThing_158 : decode cX6_tryThing 158 = .ok (.bipush 27, 2) := by decide +kernel
theorem dX6_tryThing_160 : decode cX6_tryThing 160 = .ok (.iload_n 3, 1) := by decide +kernel
theorem dX6_tryThing_161 : decode cX6_tryThing 161 = .ok (.iadd, 1) := by decide +kernel
theorem dX6_tryThing_162 : decode cX6_tryThing 162 = .ok (.dup2, 1) := by decide +kernel
theorem dX6_tryThing_163 : decode cX6_tryThing 163 = .ok (.iaload, 1) := by decide +kernel
theorem dX6_tryThing_164 : decode cX6_tryThing 164 = .ok (.iconst 1, 1) := by decide +kernel
theorem dX6_tryThing_165 : decode cX6_tryThing 165 = .ok (.iadd, 1) := by decide +kernel
theorem dX6_tryThing_166 : decode cX6_tryThing 166 = .ok (.iastore, 1) := by decide +kernel
theorem dX6_tryThing_167 : decode cX6_tryThing 167 = .ok (.iload 5, 2) := by decide +kernel
theorem dX6_tryThing_169 : decode cX6_tryThing 169 = .ok (.ireturn, 1) := by decide +kernel
theorem dX6_tryThing_170 : decode cX6_tryThing 170 = .ok (.aload_n 0, 1) := by decide +kernel
theorem dX6_tryThing_171 : decode cX6_tryThing 171 = .ok (.iload_n 2, 1) := by decide +kernel
theorem dX6_tryThing_172 : decode cX6_tryThing 172 = .ok (.invokevirtual 131, 3) := by decide +kernel
theorem dX6_tryThing_175 : decode cX6_tryThing 175 = .ok (.ifCond .eq 20, 3) := by decide +kernel
theorem dX6_tryThing_178 : decode cX6_tryThing 178 = .ok (.aload_n 0, 1) := by decide +kernel
theorem dX6_tryThing_179 : decode cX6_tryThing 179 = .ok (.iload_n 3, 1) := by decide +kernel
theorem dX6_tryThing_180 : decode cX6_tryThing 180 = .ok (.invokevirtual 131, 3) := by decide +kernel
theorem dX6_tryThing_183 : decode cX6_tryThing 183 = .ok (.ifCond .eq 12, 3) := by decide +kernel
theorem dX6_tryThing_186 : decode cX6_tryThing 186 = .ok (.iload_n 2, 1) := by decide +kernel
theorem dX6_tryThing_187 : decode cX6_tryThing 187 = .ok (.iload_n 3, 1) := by decide +kernel
theorem dX6_tryThing_188 : decode cX6_tryThing 188 = .ok (.if_icmp .eq 7, 3) := by decide +kernel
theorem dX6_tryThing_191 : decode cX6_tryThing 191 = .ok (.iconst 1, 1) := by decide +kernel
theorem dX6_tryThing_192 : decode cX6_tryThing 192 = .ok (.goto 4, 3) := by decide +kernel
theorem dX6_tryThing_195 : decode cX6_tryThing 195 = .ok (.iconst 0, 1) := by decide +kernel
theorem dX6_tryThing_196 : decode cX6_tryThing 196 = .ok (.istore 6, 2) := by decide +kernel
theorem dX6_tryThing_198 : decode cX6_tryThing 198 = .ok (.iload 6, 2) := by decide +kernel
theorem dX6_tryThing_200 : decode cX6_tryThing 200 = .ok (.ifCond .eq 10, 3) := by decide +kernel
theorem dX6_tryThing_203 : decode cX6_tryThing 203 = .ok (.aload_n 0, 1) := by decide +kernel
theorem dX6_tryThing_204 : decode cX6_tryThing 204 = .ok (.iconst 1, 1) := by decide +kernel
theorem dX6_tryThing_205 : decode cX6_tryThing 205 = .ok (.iload_n 2, 1) := by decide +kernel
theorem dX6_tryThing_206 : decode cX6_tryThing 206 = .ok (.iload_n 3, 1) := by decide +kernel
theorem dX6_tryThing_207 : decode cX6_tryThing 207 = .ok (.invokevirtual 152, 3) := by decide +kernel
theorem dX6_tryThing_210 : decode cX6_tryThing 210 = .ok (.iload 6, 2) := by decide +kernel
theorem dX6_tryThing_212 : decode cX6_tryThing 212 = .ok (.ireturn, 1) := by decide +kernel
theorem dX6_tryThing_213 : decode cX6_tryThing 213 = .ok (.iload_n 2, 1) := by decide +kernel
theorem dX6_tryThing_214 : decode cX6_tryThing 214 = .ok (.ifCond .ne 25, 3) := by decide +kernel
theorem dX6_tryThing_217 : decode cX6_tryThing 217 = .ok (.aload_n 0, 1) := by decide +kernel
theorem dX6_tryThing_218 : decode cX6_tryThing 218 = .ok (.iload_n 3, 1) := by decide +kernel
theorem dX6_tryThing_219 : decode cX6_tryThing 219 = .ok (.invokevirtual 131, 3) := by decide +kernel
theorem dX6_tryThing_222 : decode cX6_tryThing 222 = .ok (.ifCond .eq 17, 3) := by decide +kernel
theorem dX6_tryThing_225 : decode cX6_tryThing 225 = .ok (.aload_n 0, 1) := by decide +kernel
theorem dX6_tryThing_226 : decode cX6_tryThing 226 = .ok (.iload_n 3, 1) := by decide +kernel
theorem dX6_tryThing_227 : decode cX6_tryThing 227 = .ok (.iconst 1, 1) := by decide +kernel
theorem dX6_tryThing_228 : decode cX6_tryThing 228 = .ok (.iadd, 1) := by decide +kernel
theorem dX6_tryThing_229 : decode cX6_tryThing 229 = .ok (.invokevirtual 131, 3) := by decide +kernel
theorem dX6_tryThing_232 : decode cX6_tryThing 232 = .ok (.ifCond .eq 7, 3) := by decide +kernel
theorem dX6_tryThing_235 : decode cX6_tryThing 235 = .ok (.iconst 1, 1) := by decide +kernel
theorem dX6_tryThing_236 : decode cX6_tryThing 236 = .ok (.goto 4, 3) := by decide +kernel
theorem dX6_tryThing_239 : decode cX6_tryThing 239 = .ok (.iconst 0, 1) := by decide +kernel
theorem dX6_tryThing_240 : decode cX6_tryThing 240 = .ok (.istore 7, 2) := by decide +kernel
theorem dX6_tryThing_242 : decode cX6_tryThing 242 = .ok (.iload 7, 2) := by decide +kernel
theorem dX6_tryThing_244 : decode cX6_tryThing 244 = .ok (.ifCond .eq 9, 3) := by decide +kernel
theorem dX6_tryThing_247 : decode cX6_tryThing 247 = .ok (.aload_n 0, 1) := by decide +kernel
theorem dX6_tryThing_248 : decode cX6_tryThing 248 = .ok (.iconst 1, 1) := by decide +kernel
theorem dX6_tryThing_249 : decode cX6_tryThing 249 = .ok (.iload_n 3, 1) := by decide +kernel
theorem dX6_tryThing_250 : decode cX6_tryThing 250 = .ok (.invokevirtual 156, 3) := by decide +kernel
theorem dX6_tryThing_253 : decode cX6_tryThing 253 = .ok (.iload 7, 2) := by decide +kernel
theorem dX6_tryThing_255 : decode cX6_tryThing 255 = .ok (.ireturn, 1) := by decide +kernel
theorem dX6_tryThing_256 : decode cX6_tryThing 256 = .ok (.aload_n 0, 1) := by decide +kernel
theorem dX6_tryThing_257 : decode cX6_tryThing 257 = .ok (.iload_n 2, 1) := by decide +kernel
theorem dX6_tryThing_258 : decode cX6_tryThing 258 = .ok (.invokevirtual 131, 3) := by decide +kernel
theorem dX6_tryThing_261 : decode cX6_tryThing 261 = .ok (.ifCond .eq 27, 3) := by decide +kernel
theorem dX6_tryThing_264 : decode cX6_tryThing 264 = .ok (.iload_n 3, 1) := by decide +kernel
theorem dX6_tryThing_265 : decode cX6_tryThing 265 = .ok (.invokestatic 168, 3) := by decide +kernel
theorem dX6_tryThing_268 : decode cX6_tryThing 268 = .ok (.ifCond .eq 20, 3) := by decide +kernel
theorem dX6_tryThing_271 : decode cX6_tryThing 271 = .ok (.aload_n 0, 1) := by decide +kernel
theorem dX6_tryThing_272 : decode cX6_tryThing 272 = .ok (.iconst 1, 1) := by decide +kernel
theorem dX6_tryThing_273 : decode cX6_tryThing 273 = .ok (.iload_n 2, 1) := by decide +kernel
theorem dX6_tryThing_274 : decode cX6_tryThing 274 = .ok (.invokevirtual 134, 3) := by decide +kernel
theorem dX6_tryThing_277 : decode cX6_tryThing 277 = .ok (.iload_n 3, 1) := by decide +kernel
theorem dX6_tryThing_278 : decode cX6_tryThing 278 = .ok (.invokestatic 121, 3) := by decide +kernel
theorem dX6_tryThing_281 : decode cX6_tryThing 281 = .ok (.ifCond .eq 7, 3) := by decide +kernel
theorem dX6_tryThing_284 : decode cX6_tryThing 284 = .ok (.iconst 1, 1) := by decide +kernel
theorem dX6_tryThing_285 : decode cX6_tryThing 285 = .ok (.goto 4, 3) := by decide +kernel
theorem dX6_tryThing_288 : decode cX6_tryThing 288 = .ok (.iconst 0, 1) := by decide +kernel
theorem dX6_tryThing_289 : decode cX6_tryThing 289 = .ok (.ireturn, 1) := by decide +kernel
theorem dX6_tryThing_290 : decode cX6_tryThing 290 = .ok (.iload_n 2, 1) := by decide +kernel
theorem dX6_tryThing_291 : decode cX6_tryThing 291 = .ok (.ifCond .ne 18, 3) := by decide +kernel
theorem dX6_tryThing_294 : decode cX6_tryThing 294 = .ok (.aload_n 0, 1) := by decide +kernel
theorem dX6_tryThing_295 : decode cX6_tryThing 295 = .ok (.getfield 22, 3) := by decide +kernel
theorem dX6_tryThing_298 : decode cX6_tryThing 298 = .ok (.bipush 33, 2) := by decide +kernel
theorem dX6_tryThing_300 : decode cX6_tryThing 300 = .ok (.iaload, 1) := by decide +kernel
theorem dX6_tryThing_301 : decode cX6_tryThing 301 = .ok (.iload_n 3, 1) := by decide +kernel
theorem dX6_tryThing_302 : decode cX6_tryThing 302 = .ok (.if_icmp .lt 7, 3) := by decide +kernel
theorem dX6_tryThing_305 : decode cX6_tryThing 305 = .ok (.iconst 1, 1) := by decide +kernel
theorem dX6_tryThing_306 : decode cX6_tryThing 306 = .ok (.goto 4, 3) := by decide +kernel
theorem dX6_tryThing_309 : decode cX6_tryThing 309 = .ok (.iconst 0, 1) := by decide +kernel
theorem dX6_tryThing_310 : decode cX6_tryThing 310 = .ok (.ireturn, 1) := by decide +kernel
theorem dX6_tryThing_311 : decode cX6_tryThing 311 = .ok (.iconst 0, 1) := by decide +kernel
theorem dX6_tryThing_312 : decode cX6_tryThing 312 = .ok (.ireturn, 1) := by decide +kernel
theorem dX6_thousandTo_0 : decode cX6_thousandTo 0 = .ok (.lconst 1, 1) := by decide +kernel
theorem dX6_thousandTo_1 : decode cX6_thousandTo 1 = .ok (.lstore_n 1, 1) := by decide +kernel
theorem dX6_thousandTo_2 : decode cX6_thousandTo 2 = .ok (.iconst 0, 1) := by decide +kernel
theorem dX6_thousandTo_3 : decode cX6_thousandTo 3 = .ok (.istore_n 3, 1) := by decide +kernel
theorem dX6_thousandTo_4 : decode cX6_thousandTo 4 = .ok (.iload_n 3, 1) := by decide +kernel
theorem dX6_thousandTo_5 : decode cX6_thousandTo 5 = .ok (.iload_n 0, 1) := by decide +kernel
theorem dX6_thousandTo_6 : decode cX6_thousandTo 6 = .ok (.if_icmp .ge 15, 3) := by decide +kernel
theorem dX6_thousandTo_9 : decode cX6_thousandTo 9 = .ok (.lload_n 1, 1) := by decide +kernel
theorem dX6_thousandTo_10 : decode cX6_thousandTo 10 = .ok (.ldc2_w 185, 3) := by decide +kernel
theorem dX6_thousandTo_13 : decode cX6_thousandTo 13 = .ok (.lmul, 1) := by decide +kernel
theorem dX6_thousandTo_14 : decode cX6_thousandTo 14 = .ok (.lstore_n 1, 1) := by decide +kernel
theorem dX6_thousandTo_15 : decode cX6_thousandTo 15 = .ok (.iinc 3 1, 3) := by decide +kernel
theorem dX6_thousandTo_18 : decode cX6_thousandTo 18 = .ok (.goto (-14), 3) := by decide +kernel
theorem dX6_thousandTo_21 : decode cX6_thousandTo 21 = .ok (.lload_n 1, 1) := by decide +kernel
theorem dX6_thousandTo_22 : decode cX6_thousandTo 22 = .ok (.lreturn, 1) := by decide +kernel
set_option maxRecDepth 20000 in
theorem ggX6_judge_X6_in : GoodIn wsX6_judge wsX6_in := goodIn_r _ [6] (by decide +kernel) (by decide +kernel)
set_option maxRecDepth 20000 in
theorem gX6_judge_X6_in : GoodIn wsX6_judge (va_wsS RX6 58 yX6_in wsX6_in) := goodIn_app (goodIn_of _ (by decide +kernel)) ggX6_judge_X6_in
set_option maxRecDepth 20000 in
theorem ggX6_judge_X6_thousandTo : GoodIn wsX6_judge wsX6_thousandTo := goodIn_r _ [9, 2] (by decide +kernel) (by decide +kernel)
set_option maxRecDepth 20000 in
theorem gX6_judge_X6_thousandTo : GoodIn wsX6_judge (va_wsS RX6 189 yX6_thousandTo wsX6_thousandTo) := goodIn_app (goodIn_of _ (by decide +kernel)) ggX6_judge_X6_thousandTo
set_option maxRecDepth 20000 in
theorem ggX6_judge_X6_layTrial : GoodIn wsX6_judge wsX6_layTrial := goodIn_r _ [13, 14, 83, 84, 85, 86, 87, 88, 89, 90, 91, 92, 93, 94, 95, 96, 97, 98, 99, 100, 101, 102, 103, 104, 105, 106, 107, 108, 109, 110] (by decide +kernel) (by decide +kernel)
set_option maxRecDepth 20000 in
theorem gX6_judge_X6_layTrial : GoodIn wsX6_judge (wsV RX6 162 RX6 yX6_layTrial wsX6_layTrial) := goodIn_app (goodIn_of _ (by decide +kernel)) ggX6_judge_X6_layTrial
set_option maxRecDepth 20000 in
theorem ggX6_judge_X6_tryThing : GoodIn wsX6_judge wsX6_tryThing := goodIn_r _ [18, 14, 19, 20, 21, 5, 22, 23, 24, 25, 26, 27, 28, 29, 30, 31, 32, 33, 34, 35, 36, 37, 38, 39, 40, 41, 42, 43, 44, 45, 46, 47, 48, 49, 50, 51, 52, 53, 54, 55, 56, 57, 58, 59, 60, 61, 62, 63, 64, 65, 66, 3, 4, 6, 67, 68, 69, 70, 71, 72, 73, 74, 75, 76, 77, 78, 79, 80, 81, 82, 83, 84, 85, 86, 87, 88, 89, 90, 91, 92, 93, 94, 95, 96, 97, 98, 99, 100, 101, 102, 103, 104, 105, 106, 107, 108, 109, 110] (by decide +kernel) (by decide +kernel)
set_option maxRecDepth 20000 in
theorem gX6_judge_X6_tryThing : GoodIn wsX6_judge (wsV RX6 193 RX6 yX6_tryThing wsX6_tryThing) := goodIn_app (goodIn_of _ (by decide +kernel)) ggX6_judge_X6_tryThing
theorem dX6_judge_0 : decode cX6_judge 0 = .ok (.iload_n 1, 1) := by decide +kernel
theorem dX6_judge_1 : decode cX6_judge 1 = .ok (.i2l, 1) := by decide +kernel
theorem dX6_judge_2 : decode cX6_judge 2 = .ok (.lconst 1, 1) := by decide +kernel
theorem dX6_judge_3 : decode cX6_judge 3 = .ok (.ldc2_w 187, 3) := by decide +kernel
theorem dX6_judge_6 : decode cX6_judge 6 = .ok (.invokestatic 58, 3) := by decide +kernel
theorem dX6_judge_9 : decode cX6_judge 9 = .ok (.ifCond .eq 17, 3) := by decide +kernel
theorem dX6_judge_12 : decode cX6_judge 12 = .ok (.lload_n 2, 1) := by decide +kernel
theorem dX6_judge_13 : decode cX6_judge 13 = .ok (.lconst 0, 1) := by decide +kernel
theorem dX6_judge_14 : decode cX6_judge 14 = .ok (.iload_n 1, 1) := by decide +kernel
theorem dX6_judge_15 : decode cX6_judge 15 = .ok (.invokestatic 189, 3) := by decide +kernel
theorem dX6_judge_18 : decode cX6_judge 18 = .ok (.lconst 1, 1) := by decide +kernel
theorem dX6_judge_19 : decode cX6_judge 19 = .ok (.lsub, 1) := by decide +kernel
theorem dX6_judge_20 : decode cX6_judge 20 = .ok (.invokestatic 58, 3) := by decide +kernel
theorem dX6_judge_23 : decode cX6_judge 23 = .ok (.ifCond .ne 6, 3) := by decide +kernel
theorem dX6_judge_26 : decode cX6_judge 26 = .ok (.bipush (-2), 2) := by decide +kernel
theorem dX6_judge_28 : decode cX6_judge 28 = .ok (.ireturn, 1) := by decide +kernel
theorem dX6_judge_29 : decode cX6_judge 29 = .ok (.aload_n 0, 1) := by decide +kernel
theorem dX6_judge_30 : decode cX6_judge 30 = .ok (.invokevirtual 162, 3) := by decide +kernel
theorem dX6_judge_33 : decode cX6_judge 33 = .ok (.iconst 0, 1) := by decide +kernel
theorem dX6_judge_34 : decode cX6_judge 34 = .ok (.istore 4, 2) := by decide +kernel
theorem dX6_judge_36 : decode cX6_judge 36 = .ok (.iload 4, 2) := by decide +kernel
theorem dX6_judge_38 : decode cX6_judge 38 = .ok (.iload_n 1, 1) := by decide +kernel
theorem dX6_judge_39 : decode cX6_judge 39 = .ok (.if_icmp .ge 55, 3) := by decide +kernel
theorem dX6_judge_42 : decode cX6_judge 42 = .ok (.lload_n 2, 1) := by decide +kernel
theorem dX6_judge_43 : decode cX6_judge 43 = .ok (.iload_n 1, 1) := by decide +kernel
theorem dX6_judge_44 : decode cX6_judge 44 = .ok (.iconst 1, 1) := by decide +kernel
theorem dX6_judge_45 : decode cX6_judge 45 = .ok (.isub, 1) := by decide +kernel
theorem dX6_judge_46 : decode cX6_judge 46 = .ok (.iload 4, 2) := by decide +kernel
theorem dX6_judge_48 : decode cX6_judge 48 = .ok (.isub, 1) := by decide +kernel
theorem dX6_judge_49 : decode cX6_judge 49 = .ok (.invokestatic 189, 3) := by decide +kernel
theorem dX6_judge_52 : decode cX6_judge 52 = .ok (.ldiv, 1) := by decide +kernel
theorem dX6_judge_53 : decode cX6_judge 53 = .ok (.ldc2_w 185, 3) := by decide +kernel
theorem dX6_judge_56 : decode cX6_judge 56 = .ok (.lrem, 1) := by decide +kernel
theorem dX6_judge_57 : decode cX6_judge 57 = .ok (.l2i, 1) := by decide +kernel
theorem dX6_judge_58 : decode cX6_judge 58 = .ok (.istore 5, 2) := by decide +kernel
theorem dX6_judge_60 : decode cX6_judge 60 = .ok (.aload_n 0, 1) := by decide +kernel
theorem dX6_judge_61 : decode cX6_judge 61 = .ok (.iload 5, 2) := by decide +kernel
theorem dX6_judge_63 : decode cX6_judge 63 = .ok (.bipush 100, 2) := by decide +kernel
theorem dX6_judge_65 : decode cX6_judge 65 = .ok (.idiv, 1) := by decide +kernel
theorem dX6_judge_66 : decode cX6_judge 66 = .ok (.iload 5, 2) := by decide +kernel
theorem dX6_judge_68 : decode cX6_judge 68 = .ok (.bipush 10, 2) := by decide +kernel
theorem dX6_judge_70 : decode cX6_judge 70 = .ok (.idiv, 1) := by decide +kernel
theorem dX6_judge_71 : decode cX6_judge 71 = .ok (.bipush 10, 2) := by decide +kernel
theorem dX6_judge_73 : decode cX6_judge 73 = .ok (.irem, 1) := by decide +kernel
theorem dX6_judge_74 : decode cX6_judge 74 = .ok (.iload 5, 2) := by decide +kernel
theorem dX6_judge_76 : decode cX6_judge 76 = .ok (.bipush 10, 2) := by decide +kernel
theorem dX6_judge_78 : decode cX6_judge 78 = .ok (.irem, 1) := by decide +kernel
theorem dX6_judge_79 : decode cX6_judge 79 = .ok (.invokevirtual 193, 3) := by decide +kernel
theorem dX6_judge_82 : decode cX6_judge 82 = .ok (.ifCond .ne 6, 3) := by decide +kernel
theorem dX6_judge_85 : decode cX6_judge 85 = .ok (.iload 4, 2) := by decide +kernel
theorem dX6_judge_87 : decode cX6_judge 87 = .ok (.ireturn, 1) := by decide +kernel
theorem dX6_judge_88 : decode cX6_judge 88 = .ok (.iinc 4 1, 3) := by decide +kernel
theorem dX6_judge_91 : decode cX6_judge 91 = .ok (.goto (-55), 3) := by decide +kernel
theorem dX6_judge_94 : decode cX6_judge 94 = .ok (.bipush (-9), 2) := by decide +kernel
theorem dX6_judge_96 : decode cX6_judge 96 = .ok (.ireturn, 1) := by decide +kernel
set_option maxRecDepth 20000 in
theorem ggX6_hear_X6_in : GoodIn wsX6_hear wsX6_in := goodIn_r _ [9] (by decide +kernel) (by decide +kernel)
set_option maxRecDepth 20000 in
theorem gX6_hear_X6_in : GoodIn wsX6_hear (va_wsS RX6 58 yX6_in wsX6_in) := goodIn_app (goodIn_of _ (by decide +kernel)) ggX6_hear_X6_in
theorem dX6_hear_0 : decode cX6_hear 0 = .ok (.iload_n 1, 1) := by decide +kernel
theorem dX6_hear_1 : decode cX6_hear 1 = .ok (.i2l, 1) := by decide +kernel
theorem dX6_hear_2 : decode cX6_hear 2 = .ok (.lconst 0, 1) := by decide +kernel
theorem dX6_hear_3 : decode cX6_hear 3 = .ok (.ldc2_w 197, 3) := by decide +kernel
theorem dX6_hear_6 : decode cX6_hear 6 = .ok (.invokestatic 58, 3) := by decide +kernel
theorem dX6_hear_9 : decode cX6_hear 9 = .ok (.ifCond .eq 25, 3) := by decide +kernel
theorem dX6_hear_12 : decode cX6_hear 12 = .ok (.iload_n 2, 1) := by decide +kernel
theorem dX6_hear_13 : decode cX6_hear 13 = .ok (.i2l, 1) := by decide +kernel
theorem dX6_hear_14 : decode cX6_hear 14 = .ok (.lconst 0, 1) := by decide +kernel
theorem dX6_hear_15 : decode cX6_hear 15 = .ok (.ldc2_w 197, 3) := by decide +kernel
theorem dX6_hear_18 : decode cX6_hear 18 = .ok (.invokestatic 58, 3) := by decide +kernel
theorem dX6_hear_21 : decode cX6_hear 21 = .ok (.ifCond .eq 13, 3) := by decide +kernel
theorem dX6_hear_24 : decode cX6_hear 24 = .ok (.iload_n 3, 1) := by decide +kernel
theorem dX6_hear_25 : decode cX6_hear 25 = .ok (.i2l, 1) := by decide +kernel
theorem dX6_hear_26 : decode cX6_hear 26 = .ok (.lconst 0, 1) := by decide +kernel
theorem dX6_hear_27 : decode cX6_hear 27 = .ok (.lconst 1, 1) := by decide +kernel
theorem dX6_hear_28 : decode cX6_hear 28 = .ok (.invokestatic 58, 3) := by decide +kernel
theorem dX6_hear_31 : decode cX6_hear 31 = .ok (.ifCond .ne 6, 3) := by decide +kernel
theorem dX6_hear_34 : decode cX6_hear 34 = .ok (.bipush (-2), 2) := by decide +kernel
theorem dX6_hear_36 : decode cX6_hear 36 = .ok (.ireturn, 1) := by decide +kernel
theorem dX6_hear_37 : decode cX6_hear 37 = .ok (.aload_n 0, 1) := by decide +kernel
theorem dX6_hear_38 : decode cX6_hear 38 = .ok (.getfield 199, 3) := by decide +kernel
theorem dX6_hear_41 : decode cX6_hear 41 = .ok (.bipush 6, 2) := by decide +kernel
theorem dX6_hear_43 : decode cX6_hear 43 = .ok (.if_icmp .ne 6, 3) := by decide +kernel
theorem dX6_hear_46 : decode cX6_hear 46 = .ok (.bipush (-4), 2) := by decide +kernel
theorem dX6_hear_48 : decode cX6_hear 48 = .ok (.ireturn, 1) := by decide +kernel
theorem dX6_hear_49 : decode cX6_hear 49 = .ok (.aload_n 0, 1) := by decide +kernel
theorem dX6_hear_50 : decode cX6_hear 50 = .ok (.getfield 40, 3) := by decide +kernel
theorem dX6_hear_53 : decode cX6_hear 53 = .ok (.aload_n 0, 1) := by decide +kernel
theorem dX6_hear_54 : decode cX6_hear 54 = .ok (.getfield 199, 3) := by decide +kernel
theorem dX6_hear_57 : decode cX6_hear 57 = .ok (.iload_n 1, 1) := by decide +kernel
theorem dX6_hear_58 : decode cX6_hear 58 = .ok (.iastore, 1) := by decide +kernel
theorem dX6_hear_59 : decode cX6_hear 59 = .ok (.aload_n 0, 1) := by decide +kernel
theorem dX6_hear_60 : decode cX6_hear 60 = .ok (.getfield 43, 3) := by decide +kernel
theorem dX6_hear_63 : decode cX6_hear 63 = .ok (.aload_n 0, 1) := by decide +kernel
theorem dX6_hear_64 : decode cX6_hear 64 = .ok (.getfield 199, 3) := by decide +kernel
theorem dX6_hear_67 : decode cX6_hear 67 = .ok (.iload_n 2, 1) := by decide +kernel
theorem dX6_hear_68 : decode cX6_hear 68 = .ok (.iastore, 1) := by decide +kernel
theorem dX6_hear_69 : decode cX6_hear 69 = .ok (.aload_n 0, 1) := by decide +kernel
theorem dX6_hear_70 : decode cX6_hear 70 = .ok (.getfield 46, 3) := by decide +kernel
theorem dX6_hear_73 : decode cX6_hear 73 = .ok (.aload_n 0, 1) := by decide +kernel
theorem dX6_hear_74 : decode cX6_hear 74 = .ok (.getfield 199, 3) := by decide +kernel
theorem dX6_hear_77 : decode cX6_hear 77 = .ok (.iload_n 3, 1) := by decide +kernel
theorem dX6_hear_78 : decode cX6_hear 78 = .ok (.iastore, 1) := by decide +kernel
theorem dX6_hear_79 : decode cX6_hear 79 = .ok (.aload_n 0, 1) := by decide +kernel
theorem dX6_hear_80 : decode cX6_hear 80 = .ok (.dup, 1) := by decide +kernel
theorem dX6_hear_81 : decode cX6_hear 81 = .ok (.getfield 199, 3) := by decide +kernel
theorem dX6_hear_84 : decode cX6_hear 84 = .ok (.iconst 1, 1) := by decide +kernel
theorem dX6_hear_85 : decode cX6_hear 85 = .ok (.iadd, 1) := by decide +kernel
theorem dX6_hear_86 : decode cX6_hear 86 = .ok (.putfield 199, 3) := by decide +kernel
theorem dX6_hear_89 : decode cX6_hear 89 = .ok (.aload_n 0, 1) := by decide +kernel
theorem dX6_hear_90 : decode cX6_hear 90 = .ok (.getfield 199, 3) := by decide +kernel
theorem dX6_hear_93 : decode cX6_hear 93 = .ok (.ireturn, 1) := by decide +kernel
theorem dX6_unhear_0 : decode cX6_unhear 0 = .ok (.aload_n 0, 1) := by decide +kernel
theorem dX6_unhear_1 : decode cX6_unhear 1 = .ok (.getfield 199, 3) := by decide +kernel
theorem dX6_unhear_4 : decode cX6_unhear 4 = .ok (.istore_n 1, 1) := by decide +kernel
theorem dX6_unhear_5 : decode cX6_unhear 5 = .ok (.aload_n 0, 1) := by decide +kernel
theorem dX6_unhear_6 : decode cX6_unhear 6 = .ok (.iconst 0, 1) := by decide +kernel
theorem dX6_unhear_7 : decode cX6_unhear 7 = .ok (.putfield 199, 3) := by decide +kernel
theorem dX6_unhear_10 : decode cX6_unhear 10 = .ok (.iload_n 1, 1) := by decide +kernel
theorem dX6_unhear_11 : decode cX6_unhear 11 = .ok (.ireturn, 1) := by decide +kernel
set_option maxRecDepth 20000 in
theorem ggX6_ears_X6_in : GoodIn wsX6_ears wsX6_in := goodIn_r _ [8] (by decide +kernel) (by decide +kernel)
set_option maxRecDepth 20000 in
theorem gX6_ears_X6_in : GoodIn wsX6_ears (va_wsS RX6 58 yX6_in wsX6_in) := goodIn_app (goodIn_of _ (by decide +kernel)) ggX6_ears_X6_in
set_option maxRecDepth 20000 in
theorem ggX6_ears_X6_earOf : GoodIn wsX6_ears wsX6_earOf := goodIn_r _ [11] (by decide +kernel) (by decide +kernel)
set_option maxRecDepth 20000 in
theorem gX6_ears_X6_earOf : GoodIn wsX6_ears (va_wsS RX6 111 yX6_earOf wsX6_earOf) := goodIn_app (goodIn_of _ (by decide +kernel)) ggX6_ears_X6_earOf
theorem dX6_ears_0 : decode cX6_ears 0 = .ok (.iload_n 1, 1) := by decide +kernel
theorem dX6_ears_1 : decode cX6_ears 1 = .ok (.i2l, 1) := by decide +kernel
theorem dX6_ears_2 : decode cX6_ears 2 = .ok (.lconst 0, 1) := by decide +kernel
theorem dX6_ears_3 : decode cX6_ears 3 = .ok (.lconst 1, 1) := by decide +kernel
theorem dX6_ears_4 : decode cX6_ears 4 = .ok (.invokestatic 58, 3) := by decide +kernel
theorem dX6_ears_7 : decode cX6_ears 7 = .ok (.ifCond .ne 6, 3) := by decide +kernel
theorem dX6_ears_10 : decode cX6_ears 10 = .ok (.bipush (-2), 2) := by decide +kernel
theorem dX6_ears_12 : decode cX6_ears 12 = .ok (.ireturn, 1) := by decide +kernel
theorem dX6_ears_13 : decode cX6_ears 13 = .ok (.iconst 0, 1) := by decide +kernel
theorem dX6_ears_14 : decode cX6_ears 14 = .ok (.istore_n 2, 1) := by decide +kernel
theorem dX6_ears_15 : decode cX6_ears 15 = .ok (.bipush (-9), 2) := by decide +kernel
theorem dX6_ears_17 : decode cX6_ears 17 = .ok (.istore_n 3, 1) := by decide +kernel
theorem dX6_ears_18 : decode cX6_ears 18 = .ok (.iconst 0, 1) := by decide +kernel
theorem dX6_ears_19 : decode cX6_ears 19 = .ok (.istore 4, 2) := by decide +kernel
theorem dX6_ears_21 : decode cX6_ears 21 = .ok (.iload 4, 2) := by decide +kernel
theorem dX6_ears_23 : decode cX6_ears 23 = .ok (.bipush 30, 2) := by decide +kernel
theorem dX6_ears_25 : decode cX6_ears 25 = .ok (.if_icmp .ge 131, 3) := by decide +kernel
theorem dX6_ears_28 : decode cX6_ears 28 = .ok (.iconst 1, 1) := by decide +kernel
theorem dX6_ears_29 : decode cX6_ears 29 = .ok (.istore 5, 2) := by decide +kernel
theorem dX6_ears_31 : decode cX6_ears 31 = .ok (.iconst 0, 1) := by decide +kernel
theorem dX6_ears_32 : decode cX6_ears 32 = .ok (.istore 6, 2) := by decide +kernel
theorem dX6_ears_34 : decode cX6_ears 34 = .ok (.iload 6, 2) := by decide +kernel
theorem dX6_ears_36 : decode cX6_ears 36 = .ok (.aload_n 0, 1) := by decide +kernel
theorem dX6_ears_37 : decode cX6_ears 37 = .ok (.getfield 199, 3) := by decide +kernel
theorem dX6_ears_40 : decode cX6_ears 40 = .ok (.if_icmp .ge 81, 3) := by decide +kernel
theorem dX6_ears_43 : decode cX6_ears 43 = .ok (.aload_n 0, 1) := by decide +kernel
theorem dX6_ears_44 : decode cX6_ears 44 = .ok (.getfield 40, 3) := by decide +kernel
theorem dX6_ears_47 : decode cX6_ears 47 = .ok (.iload 6, 2) := by decide +kernel
theorem dX6_ears_49 : decode cX6_ears 49 = .ok (.iaload, 1) := by decide +kernel
theorem dX6_ears_50 : decode cX6_ears 50 = .ok (.iload 4, 2) := by decide +kernel
theorem dX6_ears_52 : decode cX6_ears 52 = .ok (.bipush 10, 2) := by decide +kernel
theorem dX6_ears_54 : decode cX6_ears 54 = .ok (.idiv, 1) := by decide +kernel
theorem dX6_ears_55 : decode cX6_ears 55 = .ok (.invokestatic 111, 3) := by decide +kernel
theorem dX6_ears_58 : decode cX6_ears 58 = .ok (.iadd, 1) := by decide +kernel
theorem dX6_ears_59 : decode cX6_ears 59 = .ok (.iload 4, 2) := by decide +kernel
theorem dX6_ears_61 : decode cX6_ears 61 = .ok (.bipush 10, 2) := by decide +kernel
theorem dX6_ears_63 : decode cX6_ears 63 = .ok (.irem, 1) := by decide +kernel
theorem dX6_ears_64 : decode cX6_ears 64 = .ok (.aload_n 0, 1) := by decide +kernel
theorem dX6_ears_65 : decode cX6_ears 65 = .ok (.getfield 43, 3) := by decide +kernel
theorem dX6_ears_68 : decode cX6_ears 68 = .ok (.iload 6, 2) := by decide +kernel
theorem dX6_ears_70 : decode cX6_ears 70 = .ok (.iaload, 1) := by decide +kernel
theorem dX6_ears_71 : decode cX6_ears 71 = .ok (.iadd, 1) := by decide +kernel
theorem dX6_ears_72 : decode cX6_ears 72 = .ok (.if_icmp .le 7, 3) := by decide +kernel
theorem dX6_ears_75 : decode cX6_ears 75 = .ok (.iconst 1, 1) := by decide +kernel
theorem dX6_ears_76 : decode cX6_ears 76 = .ok (.goto 4, 3) := by decide +kernel
theorem dX6_ears_79 : decode cX6_ears 79 = .ok (.iconst 0, 1) := by decide +kernel
theorem dX6_ears_80 : decode cX6_ears 80 = .ok (.istore 7, 2) := by decide +kernel
theorem dX6_ears_82 : decode cX6_ears 82 = .ok (.iload 5, 2) := by decide +kernel
theorem dX6_ears_84 : decode cX6_ears 84 = .ok (.ifCond .eq 28, 3) := by decide +kernel
theorem dX6_ears_87 : decode cX6_ears 87 = .ok (.iload 7, 2) := by decide +kernel
theorem dX6_ears_89 : decode cX6_ears 89 = .ok (.aload_n 0, 1) := by decide +kernel
theorem dX6_ears_90 : decode cX6_ears 90 = .ok (.getfield 46, 3) := by decide +kernel
theorem dX6_ears_93 : decode cX6_ears 93 = .ok (.iload 6, 2) := by decide +kernel
theorem dX6_ears_95 : decode cX6_ears 95 = .ok (.iaload, 1) := by decide +kernel
theorem dX6_ears_96 : decode cX6_ears 96 = .ok (.iconst 1, 1) := by decide +kernel
theorem dX6_ears_97 : decode cX6_ears 97 = .ok (.if_icmp .ne 7, 3) := by decide +kernel
theorem dX6_ears_100 : decode cX6_ears 100 = .ok (.iconst 1, 1) := by decide +kernel
theorem dX6_ears_101 : decode cX6_ears 101 = .ok (.goto 4, 3) := by decide +kernel
theorem dX6_ears_104 : decode cX6_ears 104 = .ok (.iconst 0, 1) := by decide +kernel
theorem dX6_ears_105 : decode cX6_ears 105 = .ok (.if_icmp .ne 7, 3) := by decide +kernel
theorem dX6_ears_108 : decode cX6_ears 108 = .ok (.iconst 1, 1) := by decide +kernel
theorem dX6_ears_109 : decode cX6_ears 109 = .ok (.goto 4, 3) := by decide +kernel
theorem dX6_ears_112 : decode cX6_ears 112 = .ok (.iconst 0, 1) := by decide +kernel
theorem dX6_ears_113 : decode cX6_ears 113 = .ok (.istore 5, 2) := by decide +kernel
theorem dX6_ears_115 : decode cX6_ears 115 = .ok (.iinc 6 1, 3) := by decide +kernel
theorem dX6_ears_118 : decode cX6_ears 118 = .ok (.goto (-84), 3) := by decide +kernel
theorem dX6_ears_121 : decode cX6_ears 121 = .ok (.iload 5, 2) := by decide +kernel
theorem dX6_ears_123 : decode cX6_ears 123 = .ok (.ifCond .eq 12, 3) := by decide +kernel
theorem dX6_ears_126 : decode cX6_ears 126 = .ok (.iload_n 2, 1) := by decide +kernel
theorem dX6_ears_127 : decode cX6_ears 127 = .ok (.ifCond .ne 8, 3) := by decide +kernel
theorem dX6_ears_130 : decode cX6_ears 130 = .ok (.iload 4, 2) := by decide +kernel
theorem dX6_ears_132 : decode cX6_ears 132 = .ok (.goto 4, 3) := by decide +kernel
theorem dX6_ears_135 : decode cX6_ears 135 = .ok (.iload_n 3, 1) := by decide +kernel
theorem dX6_ears_136 : decode cX6_ears 136 = .ok (.istore_n 3, 1) := by decide +kernel
theorem dX6_ears_137 : decode cX6_ears 137 = .ok (.iload_n 2, 1) := by decide +kernel
theorem dX6_ears_138 : decode cX6_ears 138 = .ok (.iload 5, 2) := by decide +kernel
theorem dX6_ears_140 : decode cX6_ears 140 = .ok (.ifCond .eq 7, 3) := by decide +kernel
theorem dX6_ears_143 : decode cX6_ears 143 = .ok (.iconst 1, 1) := by decide +kernel
theorem dX6_ears_144 : decode cX6_ears 144 = .ok (.goto 4, 3) := by decide +kernel
theorem dX6_ears_147 : decode cX6_ears 147 = .ok (.iconst 0, 1) := by decide +kernel
theorem dX6_ears_148 : decode cX6_ears 148 = .ok (.iadd, 1) := by decide +kernel
theorem dX6_ears_149 : decode cX6_ears 149 = .ok (.istore_n 2, 1) := by decide +kernel
theorem dX6_ears_150 : decode cX6_ears 150 = .ok (.iinc 4 1, 3) := by decide +kernel
theorem dX6_ears_153 : decode cX6_ears 153 = .ok (.goto (-132), 3) := by decide +kernel
theorem dX6_ears_156 : decode cX6_ears 156 = .ok (.iload_n 1, 1) := by decide +kernel
theorem dX6_ears_157 : decode cX6_ears 157 = .ok (.ifCond .ne 7, 3) := by decide +kernel
theorem dX6_ears_160 : decode cX6_ears 160 = .ok (.iload_n 2, 1) := by decide +kernel
theorem dX6_ears_161 : decode cX6_ears 161 = .ok (.goto 4, 3) := by decide +kernel
theorem dX6_ears_164 : decode cX6_ears 164 = .ok (.iload_n 3, 1) := by decide +kernel
theorem dX6_ears_165 : decode cX6_ears 165 = .ok (.ireturn, 1) := by decide +kernel
theorem dX6_factorial_0 : decode cX6_factorial 0 = .ok (.iconst 1, 1) := by decide +kernel
theorem dX6_factorial_1 : decode cX6_factorial 1 = .ok (.istore_n 1, 1) := by decide +kernel
theorem dX6_factorial_2 : decode cX6_factorial 2 = .ok (.iconst 2, 1) := by decide +kernel
theorem dX6_factorial_3 : decode cX6_factorial 3 = .ok (.istore_n 2, 1) := by decide +kernel
theorem dX6_factorial_4 : decode cX6_factorial 4 = .ok (.iload_n 2, 1) := by decide +kernel
theorem dX6_factorial_5 : decode cX6_factorial 5 = .ok (.iload_n 0, 1) := by decide +kernel
theorem dX6_factorial_6 : decode cX6_factorial 6 = .ok (.if_icmp .gt 13, 3) := by decide +kernel
theorem dX6_factorial_9 : decode cX6_factorial 9 = .ok (.iload_n 1, 1) := by decide +kernel
theorem dX6_factorial_10 : decode cX6_factorial 10 = .ok (.iload_n 2, 1) := by decide +kernel
theorem dX6_factorial_11 : decode cX6_factorial 11 = .ok (.imul, 1) := by decide +kernel
theorem dX6_factorial_12 : decode cX6_factorial 12 = .ok (.istore_n 1, 1) := by decide +kernel
theorem dX6_factorial_13 : decode cX6_factorial 13 = .ok (.iinc 2 1, 3) := by decide +kernel
theorem dX6_factorial_16 : decode cX6_factorial 16 = .ok (.goto (-12), 3) := by decide +kernel
theorem dX6_factorial_19 : decode cX6_factorial 19 = .ok (.iload_n 1, 1) := by decide +kernel
theorem dX6_factorial_20 : decode cX6_factorial 20 = .ok (.ireturn, 1) := by decide +kernel
theorem dX6_common_0 : decode cX6_common 0 = .ok (.iload_n 0, 1) := by decide +kernel
theorem dX6_common_1 : decode cX6_common 1 = .ok (.ifCond .ge 8, 3) := by decide +kernel
theorem dX6_common_4 : decode cX6_common 4 = .ok (.iload_n 0, 1) := by decide +kernel
theorem dX6_common_5 : decode cX6_common 5 = .ok (.ineg, 1) := by decide +kernel
theorem dX6_common_6 : decode cX6_common 6 = .ok (.goto 4, 3) := by decide +kernel
theorem dX6_common_9 : decode cX6_common 9 = .ok (.iload_n 0, 1) := by decide +kernel
theorem dX6_common_10 : decode cX6_common 10 = .ok (.istore_n 2, 1) := by decide +kernel
theorem dX6_common_11 : decode cX6_common 11 = .ok (.iload_n 1, 1) := by decide +kernel
theorem dX6_common_12 : decode cX6_common 12 = .ok (.istore_n 3, 1) := by decide +kernel
theorem dX6_common_13 : decode cX6_common 13 = .ok (.iload_n 3, 1) := by decide +kernel
theorem dX6_common_14 : decode cX6_common 14 = .ok (.ifCond .eq 16, 3) := by decide +kernel
theorem dX6_common_17 : decode cX6_common 17 = .ok (.iload_n 2, 1) := by decide +kernel
theorem dX6_common_18 : decode cX6_common 18 = .ok (.iload_n 3, 1) := by decide +kernel
theorem dX6_common_19 : decode cX6_common 19 = .ok (.irem, 1) := by decide +kernel
theorem dX6_common_20 : decode cX6_common 20 = .ok (.istore 4, 2) := by decide +kernel
theorem dX6_common_22 : decode cX6_common 22 = .ok (.iload_n 3, 1) := by decide +kernel
theorem dX6_common_23 : decode cX6_common 23 = .ok (.istore_n 2, 1) := by decide +kernel
theorem dX6_common_24 : decode cX6_common 24 = .ok (.iload 4, 2) := by decide +kernel
theorem dX6_common_26 : decode cX6_common 26 = .ok (.istore_n 3, 1) := by decide +kernel
theorem dX6_common_27 : decode cX6_common 27 = .ok (.goto (-14), 3) := by decide +kernel
theorem dX6_common_30 : decode cX6_common 30 = .ok (.iload_n 2, 1) := by decide +kernel
theorem dX6_common_31 : decode cX6_common 31 = .ok (.ireturn, 1) := by decide +kernel
set_option maxRecDepth 20000 in
theorem ggX6_share_X6_isHouse : GoodIn wsX6_share wsX6_isHouse := goodIn_r _ [6, 1, 7, 8, 5, 9, 31, 32, 33, 34, 35, 36, 37, 38, 39, 40, 41, 42, 43, 44, 45, 46, 47, 48, 49, 50, 51, 52, 53, 54, 55, 56, 57, 58] (by decide +kernel) (by decide +kernel)
set_option maxRecDepth 20000 in
theorem gX6_share_X6_isHouse : GoodIn wsX6_share (wsV RX6 131 RX6 yX6_isHouse wsX6_isHouse) := goodIn_app (goodIn_of _ (by decide +kernel)) ggX6_share_X6_isHouse
set_option maxRecDepth 20000 in
theorem ggX6_share_X6_has : GoodIn wsX6_share wsX6_has := goodIn_r _ [12] (by decide +kernel) (by decide +kernel)
set_option maxRecDepth 20000 in
theorem gX6_share_X6_has : GoodIn wsX6_share (va_wsS RX6 121 yX6_has wsX6_has) := goodIn_app (goodIn_of _ (by decide +kernel)) ggX6_share_X6_has
set_option maxRecDepth 20000 in
theorem ggX6_share_X6_ones : GoodIn wsX6_share wsX6_ones := goodIn_r _ [15] (by decide +kernel) (by decide +kernel)
set_option maxRecDepth 20000 in
theorem gX6_share_X6_ones : GoodIn wsX6_share (va_wsS RX6 128 yX6_ones wsX6_ones) := goodIn_app (goodIn_of _ (by decide +kernel)) ggX6_share_X6_ones
set_option maxRecDepth 20000 in
theorem ggX6_share_X6_factorial : GoodIn wsX6_share wsX6_factorial := goodIn_r _ [18] (by decide +kernel) (by decide +kernel)
set_option maxRecDepth 20000 in
theorem gX6_share_X6_factorial : GoodIn wsX6_share (va_wsS RX6 202 yX6_factorial wsX6_factorial) := goodIn_app (goodIn_of _ (by decide +kernel)) ggX6_share_X6_factorial
set_option maxRecDepth 20000 in
theorem ggX6_share_X6_knownBy : GoodIn wsX6_share wsX6_knownBy := goodIn_r _ [22, 1, 10, 11, 5, 12, 23, 24, 25, 26, 27, 31, 32, 33, 34, 35, 36, 37, 38, 39, 40, 41, 42, 43, 44, 45, 46, 47, 48, 49, 50, 51, 52, 53, 54, 55, 56, 57, 58] (by decide +kernel) (by decide +kernel)
set_option maxRecDepth 20000 in
theorem gX6_share_X6_knownBy : GoodIn wsX6_share (wsV RX6 182 RX6 yX6_knownBy wsX6_knownBy) := goodIn_app (goodIn_of _ (by decide +kernel)) ggX6_share_X6_knownBy
set_option maxRecDepth 20000 in
theorem ggX6_share_X6_common : GoodIn wsX6_share wsX6_common := goodIn_r _ [30] (by decide +kernel) (by decide +kernel)
set_option maxRecDepth 20000 in
theorem gX6_share_X6_common : GoodIn wsX6_share (va_wsS RX6 205 yX6_common wsX6_common) := goodIn_app (goodIn_of _ (by decide +kernel)) ggX6_share_X6_common
theorem dX6_share_0 : decode cX6_share 0 = .ok (.aload_n 0, 1) := by decide +kernel
theorem dX6_share_1 : decode cX6_share 1 = .ok (.iload_n 1, 1) := by decide +kernel
theorem dX6_share_2 : decode cX6_share 2 = .ok (.invokevirtual 131, 3) := by decide +kernel
theorem dX6_share_5 : decode cX6_share 5 = .ok (.ifCond .ne 5, 3) := by decide +kernel
theorem dX6_share_8 : decode cX6_share 8 = .ok (.iconst (-1), 1) := by decide +kernel
theorem dX6_share_9 : decode cX6_share 9 = .ok (.ireturn, 1) := by decide +kernel
theorem dX6_share_10 : decode cX6_share 10 = .ok (.iconst 0, 1) := by decide +kernel
theorem dX6_share_11 : decode cX6_share 11 = .ok (.istore_n 3, 1) := by decide +kernel
theorem dX6_share_12 : decode cX6_share 12 = .ok (.iconst 0, 1) := by decide +kernel
theorem dX6_share_13 : decode cX6_share 13 = .ok (.istore 4, 2) := by decide +kernel
theorem dX6_share_15 : decode cX6_share 15 = .ok (.iload 4, 2) := by decide +kernel
theorem dX6_share_17 : decode cX6_share 17 = .ok (.iconst 1, 1) := by decide +kernel
theorem dX6_share_18 : decode cX6_share 18 = .ok (.aload_n 0, 1) := by decide +kernel
theorem dX6_share_19 : decode cX6_share 19 = .ok (.getfield 93, 3) := by decide +kernel
theorem dX6_share_22 : decode cX6_share 22 = .ok (.ishl, 1) := by decide +kernel
theorem dX6_share_23 : decode cX6_share 23 = .ok (.if_icmp .ge 73, 3) := by decide +kernel
theorem dX6_share_26 : decode cX6_share 26 = .ok (.iload 4, 2) := by decide +kernel
theorem dX6_share_28 : decode cX6_share 28 = .ok (.iload_n 1, 1) := by decide +kernel
theorem dX6_share_29 : decode cX6_share 29 = .ok (.invokestatic 121, 3) := by decide +kernel
theorem dX6_share_32 : decode cX6_share 32 = .ok (.ifCond .ne 58, 3) := by decide +kernel
theorem dX6_share_35 : decode cX6_share 35 = .ok (.iload 4, 2) := by decide +kernel
theorem dX6_share_37 : decode cX6_share 37 = .ok (.invokestatic 128, 3) := by decide +kernel
theorem dX6_share_40 : decode cX6_share 40 = .ok (.invokestatic 202, 3) := by decide +kernel
theorem dX6_share_43 : decode cX6_share 43 = .ok (.aload_n 0, 1) := by decide +kernel
theorem dX6_share_44 : decode cX6_share 44 = .ok (.getfield 93, 3) := by decide +kernel
theorem dX6_share_47 : decode cX6_share 47 = .ok (.iconst 1, 1) := by decide +kernel
theorem dX6_share_48 : decode cX6_share 48 = .ok (.isub, 1) := by decide +kernel
theorem dX6_share_49 : decode cX6_share 49 = .ok (.iload 4, 2) := by decide +kernel
theorem dX6_share_51 : decode cX6_share 51 = .ok (.invokestatic 128, 3) := by decide +kernel
theorem dX6_share_54 : decode cX6_share 54 = .ok (.isub, 1) := by decide +kernel
theorem dX6_share_55 : decode cX6_share 55 = .ok (.invokestatic 202, 3) := by decide +kernel
theorem dX6_share_58 : decode cX6_share 58 = .ok (.imul, 1) := by decide +kernel
theorem dX6_share_59 : decode cX6_share 59 = .ok (.istore 5, 2) := by decide +kernel
theorem dX6_share_61 : decode cX6_share 61 = .ok (.iload_n 3, 1) := by decide +kernel
theorem dX6_share_62 : decode cX6_share 62 = .ok (.iload 5, 2) := by decide +kernel
theorem dX6_share_64 : decode cX6_share 64 = .ok (.aload_n 0, 1) := by decide +kernel
theorem dX6_share_65 : decode cX6_share 65 = .ok (.iload 4, 2) := by decide +kernel
theorem dX6_share_67 : decode cX6_share 67 = .ok (.iconst 1, 1) := by decide +kernel
theorem dX6_share_68 : decode cX6_share 68 = .ok (.iload_n 1, 1) := by decide +kernel
theorem dX6_share_69 : decode cX6_share 69 = .ok (.ishl, 1) := by decide +kernel
theorem dX6_share_70 : decode cX6_share 70 = .ok (.ior, 1) := by decide +kernel
theorem dX6_share_71 : decode cX6_share 71 = .ok (.invokevirtual 182, 3) := by decide +kernel
theorem dX6_share_74 : decode cX6_share 74 = .ok (.invokestatic 128, 3) := by decide +kernel
theorem dX6_share_77 : decode cX6_share 77 = .ok (.aload_n 0, 1) := by decide +kernel
theorem dX6_share_78 : decode cX6_share 78 = .ok (.iload 4, 2) := by decide +kernel
theorem dX6_share_80 : decode cX6_share 80 = .ok (.invokevirtual 182, 3) := by decide +kernel
theorem dX6_share_83 : decode cX6_share 83 = .ok (.invokestatic 128, 3) := by decide +kernel
theorem dX6_share_86 : decode cX6_share 86 = .ok (.isub, 1) := by decide +kernel
theorem dX6_share_87 : decode cX6_share 87 = .ok (.imul, 1) := by decide +kernel
theorem dX6_share_88 : decode cX6_share 88 = .ok (.iadd, 1) := by decide +kernel
theorem dX6_share_89 : decode cX6_share 89 = .ok (.istore_n 3, 1) := by decide +kernel
theorem dX6_share_90 : decode cX6_share 90 = .ok (.iinc 4 1, 3) := by decide +kernel
theorem dX6_share_93 : decode cX6_share 93 = .ok (.goto (-78), 3) := by decide +kernel
theorem dX6_share_96 : decode cX6_share 96 = .ok (.iload_n 3, 1) := by decide +kernel
theorem dX6_share_97 : decode cX6_share 97 = .ok (.aload_n 0, 1) := by decide +kernel
theorem dX6_share_98 : decode cX6_share 98 = .ok (.getfield 93, 3) := by decide +kernel
theorem dX6_share_101 : decode cX6_share 101 = .ok (.invokestatic 202, 3) := by decide +kernel
theorem dX6_share_104 : decode cX6_share 104 = .ok (.invokestatic 205, 3) := by decide +kernel
theorem dX6_share_107 : decode cX6_share 107 = .ok (.istore 4, 2) := by decide +kernel
theorem dX6_share_109 : decode cX6_share 109 = .ok (.iload_n 2, 1) := by decide +kernel
theorem dX6_share_110 : decode cX6_share 110 = .ok (.ifCond .eq 10, 3) := by decide +kernel
theorem dX6_share_113 : decode cX6_share 113 = .ok (.iload_n 3, 1) := by decide +kernel
theorem dX6_share_114 : decode cX6_share 114 = .ok (.iload 4, 2) := by decide +kernel
theorem dX6_share_116 : decode cX6_share 116 = .ok (.idiv, 1) := by decide +kernel
theorem dX6_share_117 : decode cX6_share 117 = .ok (.goto 13, 3) := by decide +kernel
theorem dX6_share_120 : decode cX6_share 120 = .ok (.aload_n 0, 1) := by decide +kernel
theorem dX6_share_121 : decode cX6_share 121 = .ok (.getfield 93, 3) := by decide +kernel
theorem dX6_share_124 : decode cX6_share 124 = .ok (.invokestatic 202, 3) := by decide +kernel
theorem dX6_share_127 : decode cX6_share 127 = .ok (.iload 4, 2) := by decide +kernel
theorem dX6_share_129 : decode cX6_share 129 = .ok (.idiv, 1) := by decide +kernel
theorem dX6_share_130 : decode cX6_share 130 = .ok (.ireturn, 1) := by decide +kernel
set_option maxRecDepth 20000 in
theorem ggX6_gain_X6_layTrial : GoodIn wsX6_gain wsX6_layTrial := goodIn_r _ [6, 1, 55, 56, 57, 58, 59, 60, 61, 62, 63, 64, 65, 66, 67, 68, 69, 70, 71, 72, 73, 74, 75, 76, 77, 78, 79, 80, 81, 82] (by decide +kernel) (by decide +kernel)
set_option maxRecDepth 20000 in
theorem gX6_gain_X6_layTrial : GoodIn wsX6_gain (wsV RX6 162 RX6 yX6_layTrial wsX6_layTrial) := goodIn_app (goodIn_of _ (by decide +kernel)) ggX6_gain_X6_layTrial
set_option maxRecDepth 20000 in
theorem ggX6_gain_X6_goOn : GoodIn wsX6_gain wsX6_goOn := goodIn_r _ [10, 11, 12, 13, 5, 14, 15, 16, 1, 17, 18, 19, 20, 21, 22, 23, 24, 25, 26, 27, 28, 29, 30, 31, 32, 33, 34, 35, 36, 37, 38, 39, 40, 41, 42, 43, 44, 45, 46, 47, 48, 49, 50, 55, 56, 57, 58, 59, 60, 61, 62, 63, 64, 65, 66, 67, 68, 69, 70, 71, 72, 73, 74, 75, 76, 77, 78, 79, 80, 81, 82] (by decide +kernel) (by decide +kernel)
set_option maxRecDepth 20000 in
theorem gX6_gain_X6_goOn : GoodIn wsX6_gain (wsV RX6 165 RX6 yX6_goOn wsX6_goOn) := goodIn_app (goodIn_of _ (by decide +kernel)) ggX6_gain_X6_goOn
set_option maxRecDepth 20000 in
theorem ggX6_gain_X6_knowsAt : GoodIn wsX6_gain wsX6_knowsAt := goodIn_r _ [54, 1, 55, 56, 57, 58, 59, 60, 61, 62, 63, 64, 65, 66, 67, 68, 69, 70, 71, 72, 73, 74, 75, 76, 77, 78, 79, 80, 81, 82] (by decide +kernel) (by decide +kernel)
set_option maxRecDepth 20000 in
theorem gX6_gain_X6_knowsAt : GoodIn wsX6_gain (wsV RX6 134 RX6 yX6_knowsAt wsX6_knowsAt) := goodIn_app (goodIn_of _ (by decide +kernel)) ggX6_gain_X6_knowsAt
set_option maxRecDepth 20000 in
theorem ggX6_gain_X6_ones : GoodIn wsX6_gain wsX6_ones := goodIn_r _ [50] (by decide +kernel) (by decide +kernel)
set_option maxRecDepth 20000 in
theorem gX6_gain_X6_ones : GoodIn wsX6_gain (va_wsS RX6 128 yX6_ones wsX6_ones) := goodIn_app (goodIn_of _ (by decide +kernel)) ggX6_gain_X6_ones
theorem dX6_gain_0 : decode cX6_gain 0 = .ok (.aload_n 0, 1) := by decide +kernel
theorem dX6_gain_1 : decode cX6_gain 1 = .ok (.invokevirtual 162, 3) := by decide +kernel
theorem dX6_gain_4 : decode cX6_gain 4 = .ok (.aload_n 0, 1) := by decide +kernel
theorem dX6_gain_5 : decode cX6_gain 5 = .ok (.getfield 22, 3) := by decide +kernel
theorem dX6_gain_8 : decode cX6_gain 8 = .ok (.bipush 27, 2) := by decide +kernel
theorem dX6_gain_10 : decode cX6_gain 10 = .ok (.iload_n 1, 1) := by decide +kernel
theorem dX6_gain_11 : decode cX6_gain 11 = .ok (.iadd, 1) := by decide +kernel
theorem dX6_gain_12 : decode cX6_gain 12 = .ok (.dup2, 1) := by decide +kernel
theorem dX6_gain_13 : decode cX6_gain 13 = .ok (.iaload, 1) := by decide +kernel
theorem dX6_gain_14 : decode cX6_gain 14 = .ok (.iload_n 3, 1) := by decide +kernel
theorem dX6_gain_15 : decode cX6_gain 15 = .ok (.iconst 1, 1) := by decide +kernel
theorem dX6_gain_16 : decode cX6_gain 16 = .ok (.if_icmp .ne 21, 3) := by decide +kernel
theorem dX6_gain_19 : decode cX6_gain 19 = .ok (.aload_n 0, 1) := by decide +kernel
theorem dX6_gain_20 : decode cX6_gain 20 = .ok (.getfield 22, 3) := by decide +kernel
theorem dX6_gain_23 : decode cX6_gain 23 = .ok (.bipush 10, 2) := by decide +kernel
theorem dX6_gain_25 : decode cX6_gain 25 = .ok (.iload_n 1, 1) := by decide +kernel
theorem dX6_gain_26 : decode cX6_gain 26 = .ok (.iadd, 1) := by decide +kernel
theorem dX6_gain_27 : decode cX6_gain 27 = .ok (.iaload, 1) := by decide +kernel
theorem dX6_gain_28 : decode cX6_gain 28 = .ok (.bipush (-3), 2) := by decide +kernel
theorem dX6_gain_30 : decode cX6_gain 30 = .ok (.if_icmp .le 7, 3) := by decide +kernel
theorem dX6_gain_33 : decode cX6_gain 33 = .ok (.iconst 1, 1) := by decide +kernel
theorem dX6_gain_34 : decode cX6_gain 34 = .ok (.goto 4, 3) := by decide +kernel
theorem dX6_gain_37 : decode cX6_gain 37 = .ok (.iconst 0, 1) := by decide +kernel
theorem dX6_gain_38 : decode cX6_gain 38 = .ok (.isub, 1) := by decide +kernel
theorem dX6_gain_39 : decode cX6_gain 39 = .ok (.iastore, 1) := by decide +kernel
theorem dX6_gain_40 : decode cX6_gain 40 = .ok (.aload_n 0, 1) := by decide +kernel
theorem dX6_gain_41 : decode cX6_gain 41 = .ok (.getfield 22, 3) := by decide +kernel
theorem dX6_gain_44 : decode cX6_gain 44 = .ok (.bipush 27, 2) := by decide +kernel
theorem dX6_gain_46 : decode cX6_gain 46 = .ok (.iload_n 2, 1) := by decide +kernel
theorem dX6_gain_47 : decode cX6_gain 47 = .ok (.iadd, 1) := by decide +kernel
theorem dX6_gain_48 : decode cX6_gain 48 = .ok (.dup2, 1) := by decide +kernel
theorem dX6_gain_49 : decode cX6_gain 49 = .ok (.iaload, 1) := by decide +kernel
theorem dX6_gain_50 : decode cX6_gain 50 = .ok (.iload 4, 2) := by decide +kernel
theorem dX6_gain_52 : decode cX6_gain 52 = .ok (.iconst 1, 1) := by decide +kernel
theorem dX6_gain_53 : decode cX6_gain 53 = .ok (.if_icmp .ne 21, 3) := by decide +kernel
theorem dX6_gain_56 : decode cX6_gain 56 = .ok (.aload_n 0, 1) := by decide +kernel
theorem dX6_gain_57 : decode cX6_gain 57 = .ok (.getfield 22, 3) := by decide +kernel
theorem dX6_gain_60 : decode cX6_gain 60 = .ok (.bipush 10, 2) := by decide +kernel
theorem dX6_gain_62 : decode cX6_gain 62 = .ok (.iload_n 2, 1) := by decide +kernel
theorem dX6_gain_63 : decode cX6_gain 63 = .ok (.iadd, 1) := by decide +kernel
theorem dX6_gain_64 : decode cX6_gain 64 = .ok (.iaload, 1) := by decide +kernel
theorem dX6_gain_65 : decode cX6_gain 65 = .ok (.bipush (-3), 2) := by decide +kernel
theorem dX6_gain_67 : decode cX6_gain 67 = .ok (.if_icmp .le 7, 3) := by decide +kernel
theorem dX6_gain_70 : decode cX6_gain 70 = .ok (.iconst 1, 1) := by decide +kernel
theorem dX6_gain_71 : decode cX6_gain 71 = .ok (.goto 4, 3) := by decide +kernel
theorem dX6_gain_74 : decode cX6_gain 74 = .ok (.iconst 0, 1) := by decide +kernel
theorem dX6_gain_75 : decode cX6_gain 75 = .ok (.isub, 1) := by decide +kernel
theorem dX6_gain_76 : decode cX6_gain 76 = .ok (.iastore, 1) := by decide +kernel
theorem dX6_gain_77 : decode cX6_gain 77 = .ok (.aload_n 0, 1) := by decide +kernel
theorem dX6_gain_78 : decode cX6_gain 78 = .ok (.iconst 4, 1) := by decide +kernel
theorem dX6_gain_79 : decode cX6_gain 79 = .ok (.invokevirtual 165, 3) := by decide +kernel
theorem dX6_gain_82 : decode cX6_gain 82 = .ok (.bipush 6, 2) := by decide +kernel
theorem dX6_gain_84 : decode cX6_gain 84 = .ok (.aload_n 0, 1) := by decide +kernel
theorem dX6_gain_85 : decode cX6_gain 85 = .ok (.iconst 1, 1) := by decide +kernel
theorem dX6_gain_86 : decode cX6_gain 86 = .ok (.iload_n 1, 1) := by decide +kernel
theorem dX6_gain_87 : decode cX6_gain 87 = .ok (.invokevirtual 134, 3) := by decide +kernel
theorem dX6_gain_90 : decode cX6_gain 90 = .ok (.invokestatic 128, 3) := by decide +kernel
theorem dX6_gain_93 : decode cX6_gain 93 = .ok (.isub, 1) := by decide +kernel
theorem dX6_gain_94 : decode cX6_gain 94 = .ok (.iload_n 3, 1) := by decide +kernel
theorem dX6_gain_95 : decode cX6_gain 95 = .ok (.isub, 1) := by decide +kernel
theorem dX6_gain_96 : decode cX6_gain 96 = .ok (.ireturn, 1) := by decide +kernel
set_option maxRecDepth 20000 in
theorem ggX6_isRest_X6_gain : GoodIn wsX6_isRest wsX6_gain := goodIn_r _ [5, 6, 7, 8, 9, 4, 10, 11, 12, 13, 14, 15, 16, 17, 18, 19, 20, 21, 22, 23, 24, 25, 26, 27, 28, 29, 30, 31, 32, 33, 34, 35, 36, 37, 38, 39, 40, 41, 42, 43, 44, 45, 46, 47, 48, 49, 50, 51, 52, 53, 54, 55, 56, 57, 58, 59, 60, 61, 62, 63, 64, 65, 66, 67, 68, 69, 70, 71, 72, 73, 74, 75, 76, 77, 78, 79, 80, 81, 82, 83, 84, 85, 86] (by decide +kernel) (by decide +kernel)
set_option maxRecDepth 20000 in
theorem gX6_isRest_X6_gain : GoodIn wsX6_isRest (wsV RX6 208 RX6 yX6_gain wsX6_gain) := goodIn_app (goodIn_of _ (by decide +kernel)) ggX6_isRest_X6_gain
theorem dX6_isRest_0 : decode cX6_isRest 0 = .ok (.aload_n 0, 1) := by decide +kernel
theorem dX6_isRest_1 : decode cX6_isRest 1 = .ok (.iload_n 1, 1) := by decide +kernel
theorem dX6_isRest_2 : decode cX6_isRest 2 = .ok (.iload_n 2, 1) := by decide +kernel
theorem dX6_isRest_3 : decode cX6_isRest 3 = .ok (.iconst 1, 1) := by decide +kernel
theorem dX6_isRest_4 : decode cX6_isRest 4 = .ok (.iload_n 3, 1) := by decide +kernel
theorem dX6_isRest_5 : decode cX6_isRest 5 = .ok (.isub, 1) := by decide +kernel
theorem dX6_isRest_6 : decode cX6_isRest 6 = .ok (.iload 4, 2) := by decide +kernel
theorem dX6_isRest_8 : decode cX6_isRest 8 = .ok (.invokevirtual 208, 3) := by decide +kernel
theorem dX6_isRest_11 : decode cX6_isRest 11 = .ok (.aload_n 0, 1) := by decide +kernel
theorem dX6_isRest_12 : decode cX6_isRest 12 = .ok (.iload_n 1, 1) := by decide +kernel
theorem dX6_isRest_13 : decode cX6_isRest 13 = .ok (.iload_n 2, 1) := by decide +kernel
theorem dX6_isRest_14 : decode cX6_isRest 14 = .ok (.iload_n 3, 1) := by decide +kernel
theorem dX6_isRest_15 : decode cX6_isRest 15 = .ok (.iload 4, 2) := by decide +kernel
theorem dX6_isRest_17 : decode cX6_isRest 17 = .ok (.invokevirtual 208, 3) := by decide +kernel
theorem dX6_isRest_20 : decode cX6_isRest 20 = .ok (.if_icmp .gt 30, 3) := by decide +kernel
theorem dX6_isRest_23 : decode cX6_isRest 23 = .ok (.aload_n 0, 1) := by decide +kernel
theorem dX6_isRest_24 : decode cX6_isRest 24 = .ok (.iload_n 2, 1) := by decide +kernel
theorem dX6_isRest_25 : decode cX6_isRest 25 = .ok (.iload_n 1, 1) := by decide +kernel
theorem dX6_isRest_26 : decode cX6_isRest 26 = .ok (.iconst 1, 1) := by decide +kernel
theorem dX6_isRest_27 : decode cX6_isRest 27 = .ok (.iload 4, 2) := by decide +kernel
theorem dX6_isRest_29 : decode cX6_isRest 29 = .ok (.isub, 1) := by decide +kernel
theorem dX6_isRest_30 : decode cX6_isRest 30 = .ok (.iload_n 3, 1) := by decide +kernel
theorem dX6_isRest_31 : decode cX6_isRest 31 = .ok (.invokevirtual 208, 3) := by decide +kernel
theorem dX6_isRest_34 : decode cX6_isRest 34 = .ok (.aload_n 0, 1) := by decide +kernel
theorem dX6_isRest_35 : decode cX6_isRest 35 = .ok (.iload_n 2, 1) := by decide +kernel
theorem dX6_isRest_36 : decode cX6_isRest 36 = .ok (.iload_n 1, 1) := by decide +kernel
theorem dX6_isRest_37 : decode cX6_isRest 37 = .ok (.iload 4, 2) := by decide +kernel
theorem dX6_isRest_39 : decode cX6_isRest 39 = .ok (.iload_n 3, 1) := by decide +kernel
theorem dX6_isRest_40 : decode cX6_isRest 40 = .ok (.invokevirtual 208, 3) := by decide +kernel
theorem dX6_isRest_43 : decode cX6_isRest 43 = .ok (.if_icmp .gt 7, 3) := by decide +kernel
theorem dX6_isRest_46 : decode cX6_isRest 46 = .ok (.iconst 1, 1) := by decide +kernel
theorem dX6_isRest_47 : decode cX6_isRest 47 = .ok (.goto 4, 3) := by decide +kernel
theorem dX6_isRest_50 : decode cX6_isRest 50 = .ok (.iconst 0, 1) := by decide +kernel
theorem dX6_isRest_51 : decode cX6_isRest 51 = .ok (.ireturn, 1) := by decide +kernel
set_option maxRecDepth 20000 in
theorem ggX6_rests_X6_isHouse : GoodIn wsX6_rests wsX6_isHouse := goodIn_r _ [5, 6, 7, 8, 4, 9, 70, 71, 72, 73, 74, 75, 76, 77, 78, 79, 80, 81, 82, 83, 84, 85, 86, 87, 88, 89, 90, 91, 92, 93, 94, 95, 96, 97] (by decide +kernel) (by decide +kernel)
set_option maxRecDepth 20000 in
theorem gX6_rests_X6_isHouse : GoodIn wsX6_rests (wsV RX6 131 RX6 yX6_isHouse wsX6_isHouse) := goodIn_app (goodIn_of _ (by decide +kernel)) ggX6_rests_X6_isHouse
set_option maxRecDepth 20000 in
theorem ggX6_rests_X6_in : GoodIn wsX6_rests wsX6_in := goodIn_r _ [9] (by decide +kernel) (by decide +kernel)
set_option maxRecDepth 20000 in
theorem gX6_rests_X6_in : GoodIn wsX6_rests (va_wsS RX6 58 yX6_in wsX6_in) := goodIn_app (goodIn_of _ (by decide +kernel)) ggX6_rests_X6_in
set_option maxRecDepth 20000 in
theorem ggX6_rests_X6_isRest : GoodIn wsX6_rests wsX6_isRest := goodIn_r _ [13, 14, 15, 16, 4, 17, 18, 19, 20, 21, 22, 23, 24, 25, 26, 27, 28, 29, 30, 31, 32, 33, 34, 35, 36, 6, 37, 38, 39, 40, 41, 42, 43, 44, 45, 46, 47, 48, 49, 50, 51, 52, 53, 54, 55, 56, 57, 58, 59, 60, 61, 62, 63, 64, 65, 66, 67, 68, 69, 70, 71, 72, 73, 74, 75, 76, 77, 78, 79, 80, 81, 82, 83, 84, 85, 86, 87, 88, 89, 90, 91, 92, 93, 94, 95, 96, 97] (by decide +kernel) (by decide +kernel)
set_option maxRecDepth 20000 in
theorem gX6_rests_X6_isRest : GoodIn wsX6_rests (wsV RX6 211 RX6 yX6_isRest wsX6_isRest) := goodIn_app (goodIn_of _ (by decide +kernel)) ggX6_rests_X6_isRest
theorem dX6_rests_0 : decode cX6_rests 0 = .ok (.aload_n 0, 1) := by decide +kernel
theorem dX6_rests_1 : decode cX6_rests 1 = .ok (.iload_n 1, 1) := by decide +kernel
theorem dX6_rests_2 : decode cX6_rests 2 = .ok (.invokevirtual 131, 3) := by decide +kernel
theorem dX6_rests_5 : decode cX6_rests 5 = .ok (.ifCond .eq 11, 3) := by decide +kernel
theorem dX6_rests_8 : decode cX6_rests 8 = .ok (.aload_n 0, 1) := by decide +kernel
theorem dX6_rests_9 : decode cX6_rests 9 = .ok (.iload_n 2, 1) := by decide +kernel
theorem dX6_rests_10 : decode cX6_rests 10 = .ok (.invokevirtual 131, 3) := by decide +kernel
theorem dX6_rests_13 : decode cX6_rests 13 = .ok (.ifCond .ne 5, 3) := by decide +kernel
theorem dX6_rests_16 : decode cX6_rests 16 = .ok (.iconst (-1), 1) := by decide +kernel
theorem dX6_rests_17 : decode cX6_rests 17 = .ok (.ireturn, 1) := by decide +kernel
theorem dX6_rests_18 : decode cX6_rests 18 = .ok (.iload_n 1, 1) := by decide +kernel
theorem dX6_rests_19 : decode cX6_rests 19 = .ok (.iload_n 2, 1) := by decide +kernel
theorem dX6_rests_20 : decode cX6_rests 20 = .ok (.if_icmp .eq 13, 3) := by decide +kernel
theorem dX6_rests_23 : decode cX6_rests 23 = .ok (.iload_n 3, 1) := by decide +kernel
theorem dX6_rests_24 : decode cX6_rests 24 = .ok (.i2l, 1) := by decide +kernel
theorem dX6_rests_25 : decode cX6_rests 25 = .ok (.lconst 0, 1) := by decide +kernel
theorem dX6_rests_26 : decode cX6_rests 26 = .ok (.lconst 1, 1) := by decide +kernel
theorem dX6_rests_27 : decode cX6_rests 27 = .ok (.invokestatic 58, 3) := by decide +kernel
theorem dX6_rests_30 : decode cX6_rests 30 = .ok (.ifCond .ne 6, 3) := by decide +kernel
theorem dX6_rests_33 : decode cX6_rests 33 = .ok (.bipush (-2), 2) := by decide +kernel
theorem dX6_rests_35 : decode cX6_rests 35 = .ok (.ireturn, 1) := by decide +kernel
theorem dX6_rests_36 : decode cX6_rests 36 = .ok (.iconst 0, 1) := by decide +kernel
theorem dX6_rests_37 : decode cX6_rests 37 = .ok (.istore 4, 2) := by decide +kernel
theorem dX6_rests_39 : decode cX6_rests 39 = .ok (.bipush (-9), 2) := by decide +kernel
theorem dX6_rests_41 : decode cX6_rests 41 = .ok (.istore 5, 2) := by decide +kernel
theorem dX6_rests_43 : decode cX6_rests 43 = .ok (.iconst 0, 1) := by decide +kernel
theorem dX6_rests_44 : decode cX6_rests 44 = .ok (.istore 6, 2) := by decide +kernel
theorem dX6_rests_46 : decode cX6_rests 46 = .ok (.iload 6, 2) := by decide +kernel
theorem dX6_rests_48 : decode cX6_rests 48 = .ok (.iconst 4, 1) := by decide +kernel
theorem dX6_rests_49 : decode cX6_rests 49 = .ok (.if_icmp .ge 53, 3) := by decide +kernel
theorem dX6_rests_52 : decode cX6_rests 52 = .ok (.aload_n 0, 1) := by decide +kernel
theorem dX6_rests_53 : decode cX6_rests 53 = .ok (.iload_n 1, 1) := by decide +kernel
theorem dX6_rests_54 : decode cX6_rests 54 = .ok (.iload_n 2, 1) := by decide +kernel
theorem dX6_rests_55 : decode cX6_rests 55 = .ok (.iload 6, 2) := by decide +kernel
theorem dX6_rests_57 : decode cX6_rests 57 = .ok (.iconst 2, 1) := by decide +kernel
theorem dX6_rests_58 : decode cX6_rests 58 = .ok (.idiv, 1) := by decide +kernel
theorem dX6_rests_59 : decode cX6_rests 59 = .ok (.iload 6, 2) := by decide +kernel
theorem dX6_rests_61 : decode cX6_rests 61 = .ok (.iconst 2, 1) := by decide +kernel
theorem dX6_rests_62 : decode cX6_rests 62 = .ok (.irem, 1) := by decide +kernel
theorem dX6_rests_63 : decode cX6_rests 63 = .ok (.invokevirtual 211, 3) := by decide +kernel
theorem dX6_rests_66 : decode cX6_rests 66 = .ok (.ifCond .eq 30, 3) := by decide +kernel
theorem dX6_rests_69 : decode cX6_rests 69 = .ok (.iload 4, 2) := by decide +kernel
theorem dX6_rests_71 : decode cX6_rests 71 = .ok (.ifCond .ne 18, 3) := by decide +kernel
theorem dX6_rests_74 : decode cX6_rests 74 = .ok (.bipush 10, 2) := by decide +kernel
theorem dX6_rests_76 : decode cX6_rests 76 = .ok (.iload 6, 2) := by decide +kernel
theorem dX6_rests_78 : decode cX6_rests 78 = .ok (.iconst 2, 1) := by decide +kernel
theorem dX6_rests_79 : decode cX6_rests 79 = .ok (.idiv, 1) := by decide +kernel
theorem dX6_rests_80 : decode cX6_rests 80 = .ok (.imul, 1) := by decide +kernel
theorem dX6_rests_81 : decode cX6_rests 81 = .ok (.iload 6, 2) := by decide +kernel
theorem dX6_rests_83 : decode cX6_rests 83 = .ok (.iconst 2, 1) := by decide +kernel
theorem dX6_rests_84 : decode cX6_rests 84 = .ok (.irem, 1) := by decide +kernel
theorem dX6_rests_85 : decode cX6_rests 85 = .ok (.iadd, 1) := by decide +kernel
theorem dX6_rests_86 : decode cX6_rests 86 = .ok (.goto 5, 3) := by decide +kernel
theorem dX6_rests_89 : decode cX6_rests 89 = .ok (.iload 5, 2) := by decide +kernel
theorem dX6_rests_91 : decode cX6_rests 91 = .ok (.istore 5, 2) := by decide +kernel
theorem dX6_rests_93 : decode cX6_rests 93 = .ok (.iinc 4 1, 3) := by decide +kernel
theorem dX6_rests_96 : decode cX6_rests 96 = .ok (.iinc 6 1, 3) := by decide +kernel
theorem dX6_rests_99 : decode cX6_rests 99 = .ok (.goto (-53), 3) := by decide +kernel
theorem dX6_rests_102 : decode cX6_rests 102 = .ok (.iload_n 3, 1) := by decide +kernel
theorem dX6_rests_103 : decode cX6_rests 103 = .ok (.ifCond .ne 8, 3) := by decide +kernel
theorem dX6_rests_106 : decode cX6_rests 106 = .ok (.iload 4, 2) := by decide +kernel
theorem dX6_rests_108 : decode cX6_rests 108 = .ok (.goto 5, 3) := by decide +kernel
theorem dX6_rests_111 : decode cX6_rests 111 = .ok (.iload 5, 2) := by decide +kernel
theorem dX6_rests_113 : decode cX6_rests 113 = .ok (.ireturn, 1) := by decide +kernel
set_option maxRecDepth 20000 in
theorem ggX6_dries_X6_isHouse : GoodIn wsX6_dries wsX6_isHouse := goodIn_r _ [7, 8, 9, 10, 6, 11, 67, 68, 69, 70, 71, 72, 73, 74, 75, 76, 77, 78, 79, 80, 81, 82, 83, 84, 85, 86, 87, 88, 89, 90, 91, 92, 93, 94] (by decide +kernel) (by decide +kernel)
set_option maxRecDepth 20000 in
theorem gX6_dries_X6_isHouse : GoodIn wsX6_dries (wsV RX6 131 RX6 yX6_isHouse wsX6_isHouse) := goodIn_app (goodIn_of _ (by decide +kernel)) ggX6_dries_X6_isHouse
set_option maxRecDepth 20000 in
theorem ggX6_dries_X6_isThing : GoodIn wsX6_dries wsX6_isThing := goodIn_r _ [14, 15, 9, 10, 6, 11] (by decide +kernel) (by decide +kernel)
set_option maxRecDepth 20000 in
theorem gX6_dries_X6_isThing : GoodIn wsX6_dries (va_wsS RX6 168 yX6_isThing wsX6_isThing) := goodIn_app (goodIn_of _ (by decide +kernel)) ggX6_dries_X6_isThing
set_option maxRecDepth 20000 in
theorem ggX6_dries_X6_in : GoodIn wsX6_dries wsX6_in := goodIn_r _ [11] (by decide +kernel) (by decide +kernel)
set_option maxRecDepth 20000 in
theorem gX6_dries_X6_in : GoodIn wsX6_dries (va_wsS RX6 58 yX6_in wsX6_in) := goodIn_app (goodIn_of _ (by decide +kernel)) ggX6_dries_X6_in
set_option maxRecDepth 20000 in
theorem ggX6_dries_X6_layTrial : GoodIn wsX6_dries wsX6_layTrial := goodIn_r _ [19, 20, 67, 68, 69, 70, 71, 72, 73, 74, 75, 76, 77, 78, 79, 80, 81, 82, 83, 84, 85, 86, 87, 88, 89, 90, 91, 92, 93, 94] (by decide +kernel) (by decide +kernel)
set_option maxRecDepth 20000 in
theorem gX6_dries_X6_layTrial : GoodIn wsX6_dries (wsV RX6 162 RX6 yX6_layTrial wsX6_layTrial) := goodIn_app (goodIn_of _ (by decide +kernel)) ggX6_dries_X6_layTrial
set_option maxRecDepth 20000 in
theorem ggX6_dries_X6_has : GoodIn wsX6_dries wsX6_has := goodIn_r _ [23] (by decide +kernel) (by decide +kernel)
set_option maxRecDepth 20000 in
theorem gX6_dries_X6_has : GoodIn wsX6_dries (va_wsS RX6 121 yX6_has wsX6_has) := goodIn_app (goodIn_of _ (by decide +kernel)) ggX6_dries_X6_has
set_option maxRecDepth 20000 in
theorem ggX6_dries_X6_rainOn : GoodIn wsX6_dries wsX6_rainOn := goodIn_r _ [27, 28, 29, 20, 67, 68, 69, 70, 71, 72, 73, 74, 75, 76, 77, 78, 79, 80, 81, 82, 83, 84, 85, 86, 87, 88, 89, 90, 91, 92, 93, 94] (by decide +kernel) (by decide +kernel)
set_option maxRecDepth 20000 in
theorem gX6_dries_X6_rainOn : GoodIn wsX6_dries (wsV RX6 138 RX6 yX6_rainOn wsX6_rainOn) := goodIn_app (goodIn_of _ (by decide +kernel)) ggX6_dries_X6_rainOn
set_option maxRecDepth 20000 in
theorem ggX6_dries_X6_hourBy : GoodIn wsX6_dries wsX6_hourBy := goodIn_r _ [33, 8, 20, 34, 35, 36, 37, 6, 38, 39, 40, 41, 42, 43, 44, 45, 46, 47, 48, 49, 50, 51, 52, 21, 22, 23, 53, 54, 55, 56, 57, 58, 59, 67, 68, 69, 70, 71, 72, 73, 74, 75, 76, 77, 78, 79, 80, 81, 82, 83, 84, 85, 86, 87, 88, 89, 90, 91, 92, 93, 94] (by decide +kernel) (by decide +kernel)
set_option maxRecDepth 20000 in
theorem gX6_dries_X6_hourBy : GoodIn wsX6_dries (wsV RX6 149 RX6 yX6_hourBy wsX6_hourBy) := goodIn_app (goodIn_of _ (by decide +kernel)) ggX6_dries_X6_hourBy
set_option maxRecDepth 20000 in
theorem ggX6_dries_X6_knowsAt : GoodIn wsX6_dries wsX6_knowsAt := goodIn_r _ [63, 20, 67, 68, 69, 70, 71, 72, 73, 74, 75, 76, 77, 78, 79, 80, 81, 82, 83, 84, 85, 86, 87, 88, 89, 90, 91, 92, 93, 94] (by decide +kernel) (by decide +kernel)
set_option maxRecDepth 20000 in
theorem gX6_dries_X6_knowsAt : GoodIn wsX6_dries (wsV RX6 134 RX6 yX6_knowsAt wsX6_knowsAt) := goodIn_app (goodIn_of _ (by decide +kernel)) ggX6_dries_X6_knowsAt
set_option maxRecDepth 20000 in
theorem ggX6_dries_X6_common : GoodIn wsX6_dries wsX6_common := goodIn_r _ [66] (by decide +kernel) (by decide +kernel)
set_option maxRecDepth 20000 in
theorem gX6_dries_X6_common : GoodIn wsX6_dries (va_wsS RX6 205 yX6_common wsX6_common) := goodIn_app (goodIn_of _ (by decide +kernel)) ggX6_dries_X6_common
theorem dX6_dries_0 : decode cX6_dries 0 = .ok (.aload_n 0, 1) := by decide +kernel
theorem dX6_dries_1 : decode cX6_dries 1 = .ok (.iload_n 1, 1) := by decide +kernel
theorem dX6_dries_2 : decode cX6_dries 2 = .ok (.invokevirtual 131, 3) := by decide +kernel
theorem dX6_dries_5 : decode cX6_dries 5 = .ok (.ifCond .eq 10, 3) := by decide +kernel
theorem dX6_dries_8 : decode cX6_dries 8 = .ok (.iload_n 2, 1) := by decide +kernel
theorem dX6_dries_9 : decode cX6_dries 9 = .ok (.invokestatic 168, 3) := by decide +kernel
theorem dX6_dries_12 : decode cX6_dries 12 = .ok (.ifCond .ne 5, 3) := by decide +kernel
theorem dX6_dries_15 : decode cX6_dries 15 = .ok (.iconst (-1), 1) := by decide +kernel
theorem dX6_dries_16 : decode cX6_dries 16 = .ok (.ireturn, 1) := by decide +kernel
theorem dX6_dries_17 : decode cX6_dries 17 = .ok (.iload_n 3, 1) := by decide +kernel
theorem dX6_dries_18 : decode cX6_dries 18 = .ok (.i2l, 1) := by decide +kernel
theorem dX6_dries_19 : decode cX6_dries 19 = .ok (.lconst 1, 1) := by decide +kernel
theorem dX6_dries_20 : decode cX6_dries 20 = .ok (.ldc2_w 214, 3) := by decide +kernel
theorem dX6_dries_23 : decode cX6_dries 23 = .ok (.invokestatic 58, 3) := by decide +kernel
theorem dX6_dries_26 : decode cX6_dries 26 = .ok (.ifCond .eq 16, 3) := by decide +kernel
theorem dX6_dries_29 : decode cX6_dries 29 = .ok (.iload 4, 2) := by decide +kernel
theorem dX6_dries_31 : decode cX6_dries 31 = .ok (.i2l, 1) := by decide +kernel
theorem dX6_dries_32 : decode cX6_dries 32 = .ok (.lconst 0, 1) := by decide +kernel
theorem dX6_dries_33 : decode cX6_dries 33 = .ok (.ldc2_w 216, 3) := by decide +kernel
theorem dX6_dries_36 : decode cX6_dries 36 = .ok (.invokestatic 58, 3) := by decide +kernel
theorem dX6_dries_39 : decode cX6_dries 39 = .ok (.ifCond .ne 6, 3) := by decide +kernel
theorem dX6_dries_42 : decode cX6_dries 42 = .ok (.bipush (-2), 2) := by decide +kernel
theorem dX6_dries_44 : decode cX6_dries 44 = .ok (.ireturn, 1) := by decide +kernel
theorem dX6_dries_45 : decode cX6_dries 45 = .ok (.iconst 0, 1) := by decide +kernel
theorem dX6_dries_46 : decode cX6_dries 46 = .ok (.istore 6, 2) := by decide +kernel
theorem dX6_dries_48 : decode cX6_dries 48 = .ok (.iconst 0, 1) := by decide +kernel
theorem dX6_dries_49 : decode cX6_dries 49 = .ok (.istore 7, 2) := by decide +kernel
theorem dX6_dries_51 : decode cX6_dries 51 = .ok (.iconst 0, 1) := by decide +kernel
theorem dX6_dries_52 : decode cX6_dries 52 = .ok (.istore 8, 2) := by decide +kernel
theorem dX6_dries_54 : decode cX6_dries 54 = .ok (.iload 8, 2) := by decide +kernel
theorem dX6_dries_56 : decode cX6_dries 56 = .ok (.iconst 1, 1) := by decide +kernel
theorem dX6_dries_57 : decode cX6_dries 57 = .ok (.iload_n 3, 1) := by decide +kernel
theorem dX6_dries_58 : decode cX6_dries 58 = .ok (.ishl, 1) := by decide +kernel
theorem dX6_dries_59 : decode cX6_dries 59 = .ok (.if_icmp .ge 112, 3) := by decide +kernel
theorem dX6_dries_62 : decode cX6_dries 62 = .ok (.aload_n 0, 1) := by decide +kernel
theorem dX6_dries_63 : decode cX6_dries 63 = .ok (.invokevirtual 162, 3) := by decide +kernel
theorem dX6_dries_66 : decode cX6_dries 66 = .ok (.iconst 1, 1) := by decide +kernel
theorem dX6_dries_67 : decode cX6_dries 67 = .ok (.istore 9, 2) := by decide +kernel
theorem dX6_dries_69 : decode cX6_dries 69 = .ok (.iconst 0, 1) := by decide +kernel
theorem dX6_dries_70 : decode cX6_dries 70 = .ok (.istore 10, 2) := by decide +kernel
theorem dX6_dries_72 : decode cX6_dries 72 = .ok (.iload 10, 2) := by decide +kernel
theorem dX6_dries_74 : decode cX6_dries 74 = .ok (.iload_n 3, 1) := by decide +kernel
theorem dX6_dries_75 : decode cX6_dries 75 = .ok (.if_icmp .ge 59, 3) := by decide +kernel
theorem dX6_dries_78 : decode cX6_dries 78 = .ok (.iload 9, 2) := by decide +kernel
theorem dX6_dries_80 : decode cX6_dries 80 = .ok (.iload 8, 2) := by decide +kernel
theorem dX6_dries_82 : decode cX6_dries 82 = .ok (.iload 10, 2) := by decide +kernel
theorem dX6_dries_84 : decode cX6_dries 84 = .ok (.invokestatic 121, 3) := by decide +kernel
theorem dX6_dries_87 : decode cX6_dries 87 = .ok (.ifCond .eq 8, 3) := by decide +kernel
theorem dX6_dries_90 : decode cX6_dries 90 = .ok (.iload 4, 2) := by decide +kernel
theorem dX6_dries_92 : decode cX6_dries 92 = .ok (.goto 8, 3) := by decide +kernel
theorem dX6_dries_95 : decode cX6_dries 95 = .ok (.bipush 10, 2) := by decide +kernel
theorem dX6_dries_97 : decode cX6_dries 97 = .ok (.iload 4, 2) := by decide +kernel
theorem dX6_dries_99 : decode cX6_dries 99 = .ok (.isub, 1) := by decide +kernel
theorem dX6_dries_100 : decode cX6_dries 100 = .ok (.imul, 1) := by decide +kernel
theorem dX6_dries_101 : decode cX6_dries 101 = .ok (.istore 9, 2) := by decide +kernel
theorem dX6_dries_103 : decode cX6_dries 103 = .ok (.aload_n 0, 1) := by decide +kernel
theorem dX6_dries_104 : decode cX6_dries 104 = .ok (.iconst 1, 1) := by decide +kernel
theorem dX6_dries_105 : decode cX6_dries 105 = .ok (.iload 8, 2) := by decide +kernel
theorem dX6_dries_107 : decode cX6_dries 107 = .ok (.iload 10, 2) := by decide +kernel
theorem dX6_dries_109 : decode cX6_dries 109 = .ok (.invokestatic 121, 3) := by decide +kernel
theorem dX6_dries_112 : decode cX6_dries 112 = .ok (.ifCond .eq 7, 3) := by decide +kernel
theorem dX6_dries_115 : decode cX6_dries 115 = .ok (.iconst 0, 1) := by decide +kernel
theorem dX6_dries_116 : decode cX6_dries 116 = .ok (.goto 8, 3) := by decide +kernel
theorem dX6_dries_119 : decode cX6_dries 119 = .ok (.aload_n 0, 1) := by decide +kernel
theorem dX6_dries_120 : decode cX6_dries 120 = .ok (.iconst 1, 1) := by decide +kernel
theorem dX6_dries_121 : decode cX6_dries 121 = .ok (.invokevirtual 138, 3) := by decide +kernel
theorem dX6_dries_124 : decode cX6_dries 124 = .ok (.invokevirtual 149, 3) := by decide +kernel
theorem dX6_dries_127 : decode cX6_dries 127 = .ok (.pop, 1) := by decide +kernel
theorem dX6_dries_128 : decode cX6_dries 128 = .ok (.iinc 10 1, 3) := by decide +kernel
theorem dX6_dries_131 : decode cX6_dries 131 = .ok (.goto (-59), 3) := by decide +kernel
theorem dX6_dries_134 : decode cX6_dries 134 = .ok (.iload 7, 2) := by decide +kernel
theorem dX6_dries_136 : decode cX6_dries 136 = .ok (.iload 9, 2) := by decide +kernel
theorem dX6_dries_138 : decode cX6_dries 138 = .ok (.iadd, 1) := by decide +kernel
theorem dX6_dries_139 : decode cX6_dries 139 = .ok (.istore 7, 2) := by decide +kernel
theorem dX6_dries_141 : decode cX6_dries 141 = .ok (.iload 6, 2) := by decide +kernel
theorem dX6_dries_143 : decode cX6_dries 143 = .ok (.aload_n 0, 1) := by decide +kernel
theorem dX6_dries_144 : decode cX6_dries 144 = .ok (.iconst 1, 1) := by decide +kernel
theorem dX6_dries_145 : decode cX6_dries 145 = .ok (.iload_n 1, 1) := by decide +kernel
theorem dX6_dries_146 : decode cX6_dries 146 = .ok (.invokevirtual 134, 3) := by decide +kernel
theorem dX6_dries_149 : decode cX6_dries 149 = .ok (.iload_n 2, 1) := by decide +kernel
theorem dX6_dries_150 : decode cX6_dries 150 = .ok (.invokestatic 121, 3) := by decide +kernel
theorem dX6_dries_153 : decode cX6_dries 153 = .ok (.ifCond .eq 8, 3) := by decide +kernel
end
section
theorem dX6_dries_156 : decode cX6_dries 156 = .ok (.iload 9, 2) := by decide +kernel
theorem dX6_dries_158 : decode cX6_dries 158 = .ok (.goto 4, 3) := by decide +kernel
theorem dX6_dries_161 : decode cX6_dries 161 = .ok (.iconst 0, 1) := by decide +kernel
theorem dX6_dries_162 : decode cX6_dries 162 = .ok (.iadd, 1) := by decide +kernel
theorem dX6_dries_163 : decode cX6_dries 163 = .ok (.istore 6, 2) := by decide +kernel
theorem dX6_dries_165 : decode cX6_dries 165 = .ok (.iinc 8 1, 3) := by decide +kernel
theorem dX6_dries_168 : decode cX6_dries 168 = .ok (.goto (-114), 3) := by decide +kernel
theorem dX6_dries_171 : decode cX6_dries 171 = .ok (.iload 6, 2) := by decide +kernel
theorem dX6_dries_173 : decode cX6_dries 173 = .ok (.iload 7, 2) := by decide +kernel
theorem dX6_dries_175 : decode cX6_dries 175 = .ok (.invokestatic 205, 3) := by decide +kernel
theorem dX6_dries_178 : decode cX6_dries 178 = .ok (.istore 8, 2) := by decide +kernel
theorem dX6_dries_180 : decode cX6_dries 180 = .ok (.iload 5, 2) := by decide +kernel
theorem dX6_dries_182 : decode cX6_dries 182 = .ok (.ifCond .eq 11, 3) := by decide +kernel
theorem dX6_dries_185 : decode cX6_dries 185 = .ok (.iload 6, 2) := by decide +kernel
theorem dX6_dries_187 : decode cX6_dries 187 = .ok (.iload 8, 2) := by decide +kernel
theorem dX6_dries_189 : decode cX6_dries 189 = .ok (.idiv, 1) := by decide +kernel
theorem dX6_dries_190 : decode cX6_dries 190 = .ok (.goto 8, 3) := by decide +kernel
theorem dX6_dries_193 : decode cX6_dries 193 = .ok (.iload 7, 2) := by decide +kernel
theorem dX6_dries_195 : decode cX6_dries 195 = .ok (.iload 8, 2) := by decide +kernel
theorem dX6_dries_197 : decode cX6_dries 197 = .ok (.idiv, 1) := by decide +kernel
theorem dX6_dries_198 : decode cX6_dries 198 = .ok (.ireturn, 1) := by decide +kernel
theorem dX6_seed_0 : decode cX6_seed 0 = .ok (.aload_n 0, 1) := by decide +kernel
theorem dX6_seed_1 : decode cX6_seed 1 = .ok (.getfield 218, 3) := by decide +kernel
theorem dX6_seed_4 : decode cX6_seed 4 = .ok (.lstore_n 3, 1) := by decide +kernel
theorem dX6_seed_5 : decode cX6_seed 5 = .ok (.aload_n 0, 1) := by decide +kernel
theorem dX6_seed_6 : decode cX6_seed 6 = .ok (.lload_n 1, 1) := by decide +kernel
theorem dX6_seed_7 : decode cX6_seed 7 = .ok (.putfield 218, 3) := by decide +kernel
theorem dX6_seed_10 : decode cX6_seed 10 = .ok (.lload_n 3, 1) := by decide +kernel
theorem dX6_seed_11 : decode cX6_seed 11 = .ok (.lreturn, 1) := by decide +kernel
set_option maxRecDepth 20000 in
theorem ggX6_knownTogether_X6_ones : GoodIn wsX6_knownTogether wsX6_ones := goodIn_r _ [6] (by decide +kernel) (by decide +kernel)
set_option maxRecDepth 20000 in
theorem gX6_knownTogether_X6_ones : GoodIn wsX6_knownTogether (va_wsS RX6 128 yX6_ones wsX6_ones) := goodIn_app (goodIn_of _ (by decide +kernel)) ggX6_knownTogether_X6_ones
theorem dX6_knownTogether_0 : decode cX6_knownTogether 0 = .ok (.iconst 0, 1) := by decide +kernel
theorem dX6_knownTogether_1 : decode cX6_knownTogether 1 = .ok (.istore_n 1, 1) := by decide +kernel
theorem dX6_knownTogether_2 : decode cX6_knownTogether 2 = .ok (.iconst 0, 1) := by decide +kernel
theorem dX6_knownTogether_3 : decode cX6_knownTogether 3 = .ok (.istore_n 2, 1) := by decide +kernel
theorem dX6_knownTogether_4 : decode cX6_knownTogether 4 = .ok (.iload_n 2, 1) := by decide +kernel
theorem dX6_knownTogether_5 : decode cX6_knownTogether 5 = .ok (.aload_n 0, 1) := by decide +kernel
theorem dX6_knownTogether_6 : decode cX6_knownTogether 6 = .ok (.getfield 93, 3) := by decide +kernel
theorem dX6_knownTogether_9 : decode cX6_knownTogether 9 = .ok (.if_icmp .ge 24, 3) := by decide +kernel
theorem dX6_knownTogether_12 : decode cX6_knownTogether 12 = .ok (.iload_n 1, 1) := by decide +kernel
theorem dX6_knownTogether_13 : decode cX6_knownTogether 13 = .ok (.aload_n 0, 1) := by decide +kernel
theorem dX6_knownTogether_14 : decode cX6_knownTogether 14 = .ok (.getfield 22, 3) := by decide +kernel
theorem dX6_knownTogether_17 : decode cX6_knownTogether 17 = .ok (.bipush 22, 2) := by decide +kernel
theorem dX6_knownTogether_19 : decode cX6_knownTogether 19 = .ok (.iload_n 2, 1) := by decide +kernel
theorem dX6_knownTogether_20 : decode cX6_knownTogether 20 = .ok (.iadd, 1) := by decide +kernel
theorem dX6_knownTogether_21 : decode cX6_knownTogether 21 = .ok (.iaload, 1) := by decide +kernel
theorem dX6_knownTogether_22 : decode cX6_knownTogether 22 = .ok (.invokestatic 128, 3) := by decide +kernel
theorem dX6_knownTogether_25 : decode cX6_knownTogether 25 = .ok (.iadd, 1) := by decide +kernel
theorem dX6_knownTogether_26 : decode cX6_knownTogether 26 = .ok (.istore_n 1, 1) := by decide +kernel
theorem dX6_knownTogether_27 : decode cX6_knownTogether 27 = .ok (.iinc 2 1, 3) := by decide +kernel
theorem dX6_knownTogether_30 : decode cX6_knownTogether 30 = .ok (.goto (-26), 3) := by decide +kernel
theorem dX6_knownTogether_33 : decode cX6_knownTogether 33 = .ok (.iload_n 1, 1) := by decide +kernel
theorem dX6_knownTogether_34 : decode cX6_knownTogether 34 = .ok (.ireturn, 1) := by decide +kernel
set_option maxRecDepth 20000 in
theorem ggX6_years_X6_in : GoodIn wsX6_years wsX6_in := goodIn_r _ [9] (by decide +kernel) (by decide +kernel)
set_option maxRecDepth 20000 in
theorem gX6_years_X6_in : GoodIn wsX6_years (va_wsS RX6 58 yX6_in wsX6_in) := goodIn_app (goodIn_of _ (by decide +kernel)) ggX6_years_X6_in
set_option maxRecDepth 20000 in
theorem ggX6_years_X6_layTrial : GoodIn wsX6_years wsX6_layTrial := goodIn_r _ [13, 14, 87, 88, 89, 90, 91, 92, 93, 94, 95, 96, 97, 98, 99, 100, 101, 102, 103, 104, 105, 106, 107, 108, 109, 110, 111, 112, 113, 114] (by decide +kernel) (by decide +kernel)
set_option maxRecDepth 20000 in
theorem gX6_years_X6_layTrial : GoodIn wsX6_years (wsV RX6 162 RX6 yX6_layTrial wsX6_layTrial) := goodIn_app (goodIn_of _ (by decide +kernel)) ggX6_years_X6_layTrial
set_option maxRecDepth 20000 in
theorem ggX6_years_X6_goOn : GoodIn wsX6_years wsX6_goOn := goodIn_r _ [18, 19, 20, 21, 8, 22, 23, 24, 14, 25, 26, 27, 28, 29, 30, 31, 32, 33, 34, 35, 36, 37, 38, 39, 40, 41, 42, 43, 44, 45, 46, 47, 48, 49, 50, 51, 52, 53, 54, 55, 56, 57, 58, 87, 88, 89, 90, 91, 92, 93, 94, 95, 96, 97, 98, 99, 100, 101, 102, 103, 104, 105, 106, 107, 108, 109, 110, 111, 112, 113, 114] (by decide +kernel) (by decide +kernel)
set_option maxRecDepth 20000 in
theorem gX6_years_X6_goOn : GoodIn wsX6_years (wsV RX6 165 RX6 yX6_goOn wsX6_goOn) := goodIn_app (goodIn_of _ (by decide +kernel)) ggX6_years_X6_goOn
set_option maxRecDepth 20000 in
theorem ggX6_years_X6_tryThing : GoodIn wsX6_years wsX6_tryThing := goodIn_r _ [62, 14, 15, 16, 17, 8, 18, 19, 20, 21, 22, 23, 24, 25, 26, 27, 28, 29, 30, 31, 32, 33, 34, 35, 36, 37, 38, 39, 40, 41, 42, 43, 44, 45, 46, 47, 48, 49, 50, 51, 52, 53, 54, 55, 56, 57, 58, 63, 64, 65, 66, 6, 7, 9, 67, 68, 69, 70, 71, 72, 73, 74, 75, 76, 77, 78, 79, 80, 81, 82, 87, 88, 89, 90, 91, 92, 93, 94, 95, 96, 97, 98, 99, 100, 101, 102, 103, 104, 105, 106, 107, 108, 109, 110, 111, 112, 113, 114] (by decide +kernel) (by decide +kernel)
set_option maxRecDepth 20000 in
theorem gX6_years_X6_tryThing : GoodIn wsX6_years (wsV RX6 193 RX6 yX6_tryThing wsX6_tryThing) := goodIn_app (goodIn_of _ (by decide +kernel)) ggX6_years_X6_tryThing
set_option maxRecDepth 20000 in
theorem ggX6_years_X6_knownTogether : GoodIn wsX6_years wsX6_knownTogether := goodIn_r _ [86, 29, 14, 56, 57, 8, 58, 87, 88, 89, 90, 91, 92, 93, 94, 95, 96, 97, 98, 99, 100, 101, 102, 103, 104, 105, 106, 107, 108, 109, 110, 111, 112, 113, 114] (by decide +kernel) (by decide +kernel)
set_option maxRecDepth 20000 in
theorem gX6_years_X6_knownTogether : GoodIn wsX6_years (wsV RX6 228 RX6 yX6_knownTogether wsX6_knownTogether) := goodIn_app (goodIn_of _ (by decide +kernel)) ggX6_years_X6_knownTogether
theorem dX6_years_0 : decode cX6_years 0 = .ok (.iload_n 1, 1) := by decide +kernel
theorem dX6_years_1 : decode cX6_years 1 = .ok (.i2l, 1) := by decide +kernel
theorem dX6_years_2 : decode cX6_years 2 = .ok (.lconst 1, 1) := by decide +kernel
theorem dX6_years_3 : decode cX6_years 3 = .ok (.ldc2_w 160, 3) := by decide +kernel
theorem dX6_years_6 : decode cX6_years 6 = .ok (.invokestatic 58, 3) := by decide +kernel
theorem dX6_years_9 : decode cX6_years 9 = .ok (.ifCond .ne 6, 3) := by decide +kernel
theorem dX6_years_12 : decode cX6_years 12 = .ok (.bipush (-2), 2) := by decide +kernel
theorem dX6_years_14 : decode cX6_years 14 = .ok (.ireturn, 1) := by decide +kernel
theorem dX6_years_15 : decode cX6_years 15 = .ok (.aload_n 0, 1) := by decide +kernel
theorem dX6_years_16 : decode cX6_years 16 = .ok (.invokevirtual 162, 3) := by decide +kernel
theorem dX6_years_19 : decode cX6_years 19 = .ok (.iconst 0, 1) := by decide +kernel
theorem dX6_years_20 : decode cX6_years 20 = .ok (.istore_n 2, 1) := by decide +kernel
theorem dX6_years_21 : decode cX6_years 21 = .ok (.iconst 0, 1) := by decide +kernel
theorem dX6_years_22 : decode cX6_years 22 = .ok (.istore_n 3, 1) := by decide +kernel
theorem dX6_years_23 : decode cX6_years 23 = .ok (.iload_n 3, 1) := by decide +kernel
theorem dX6_years_24 : decode cX6_years 24 = .ok (.iload_n 1, 1) := by decide +kernel
theorem dX6_years_25 : decode cX6_years 25 = .ok (.if_icmp .ge 130, 3) := by decide +kernel
theorem dX6_years_28 : decode cX6_years 28 = .ok (.aload_n 0, 1) := by decide +kernel
theorem dX6_years_29 : decode cX6_years 29 = .ok (.aload_n 0, 1) := by decide +kernel
theorem dX6_years_30 : decode cX6_years 30 = .ok (.getfield 218, 3) := by decide +kernel
theorem dX6_years_33 : decode cX6_years 33 = .ok (.ldc2_w 222, 3) := by decide +kernel
theorem dX6_years_36 : decode cX6_years 36 = .ok (.lmul, 1) := by decide +kernel
theorem dX6_years_37 : decode cX6_years 37 = .ok (.ldc2_w 224, 3) := by decide +kernel
theorem dX6_years_40 : decode cX6_years 40 = .ok (.ladd, 1) := by decide +kernel
theorem dX6_years_41 : decode cX6_years 41 = .ok (.putfield 218, 3) := by decide +kernel
theorem dX6_years_44 : decode cX6_years 44 = .ok (.aload_n 0, 1) := by decide +kernel
theorem dX6_years_45 : decode cX6_years 45 = .ok (.getfield 218, 3) := by decide +kernel
theorem dX6_years_48 : decode cX6_years 48 = .ok (.bipush 33, 2) := by decide +kernel
theorem dX6_years_50 : decode cX6_years 50 = .ok (.lushr, 1) := by decide +kernel
theorem dX6_years_51 : decode cX6_years 51 = .ok (.ldc2_w 226, 3) := by decide +kernel
theorem dX6_years_54 : decode cX6_years 54 = .ok (.lrem, 1) := by decide +kernel
theorem dX6_years_55 : decode cX6_years 55 = .ok (.l2i, 1) := by decide +kernel
theorem dX6_years_56 : decode cX6_years 56 = .ok (.istore 4, 2) := by decide +kernel
theorem dX6_years_58 : decode cX6_years 58 = .ok (.iload 4, 2) := by decide +kernel
theorem dX6_years_60 : decode cX6_years 60 = .ok (.bipush 17, 2) := by decide +kernel
theorem dX6_years_62 : decode cX6_years 62 = .ok (.if_icmp .le 11, 3) := by decide +kernel
theorem dX6_years_65 : decode cX6_years 65 = .ok (.aload_n 0, 1) := by decide +kernel
theorem dX6_years_66 : decode cX6_years 66 = .ok (.iconst 1, 1) := by decide +kernel
theorem dX6_years_67 : decode cX6_years 67 = .ok (.invokevirtual 165, 3) := by decide +kernel
theorem dX6_years_70 : decode cX6_years 70 = .ok (.goto 72, 3) := by decide +kernel
theorem dX6_years_73 : decode cX6_years 73 = .ok (.iload 4, 2) := by decide +kernel
theorem dX6_years_75 : decode cX6_years 75 = .ok (.bipush 13, 2) := by decide +kernel
theorem dX6_years_77 : decode cX6_years 77 = .ok (.if_icmp .le 18, 3) := by decide +kernel
theorem dX6_years_80 : decode cX6_years 80 = .ok (.aload_n 0, 1) := by decide +kernel
theorem dX6_years_81 : decode cX6_years 81 = .ok (.iconst 4, 1) := by decide +kernel
theorem dX6_years_82 : decode cX6_years 82 = .ok (.iconst 0, 1) := by decide +kernel
theorem dX6_years_83 : decode cX6_years 83 = .ok (.iload 4, 2) := by decide +kernel
theorem dX6_years_85 : decode cX6_years 85 = .ok (.bipush 14, 2) := by decide +kernel
theorem dX6_years_87 : decode cX6_years 87 = .ok (.isub, 1) := by decide +kernel
theorem dX6_years_88 : decode cX6_years 88 = .ok (.invokevirtual 193, 3) := by decide +kernel
theorem dX6_years_91 : decode cX6_years 91 = .ok (.pop, 1) := by decide +kernel
theorem dX6_years_92 : decode cX6_years 92 = .ok (.goto 50, 3) := by decide +kernel
theorem dX6_years_95 : decode cX6_years 95 = .ok (.iload 4, 2) := by decide +kernel
theorem dX6_years_97 : decode cX6_years 97 = .ok (.bipush 9, 2) := by decide +kernel
theorem dX6_years_99 : decode cX6_years 99 = .ok (.if_icmp .le 22, 3) := by decide +kernel
theorem dX6_years_102 : decode cX6_years 102 = .ok (.aload_n 0, 1) := by decide +kernel
theorem dX6_years_103 : decode cX6_years 103 = .ok (.iconst 3, 1) := by decide +kernel
theorem dX6_years_104 : decode cX6_years 104 = .ok (.iload 4, 2) := by decide +kernel
theorem dX6_years_106 : decode cX6_years 106 = .ok (.bipush 10, 2) := by decide +kernel
theorem dX6_years_108 : decode cX6_years 108 = .ok (.isub, 1) := by decide +kernel
theorem dX6_years_109 : decode cX6_years 109 = .ok (.iload 4, 2) := by decide +kernel
theorem dX6_years_111 : decode cX6_years 111 = .ok (.bipush 9, 2) := by decide +kernel
theorem dX6_years_113 : decode cX6_years 113 = .ok (.isub, 1) := by decide +kernel
theorem dX6_years_114 : decode cX6_years 114 = .ok (.invokevirtual 193, 3) := by decide +kernel
theorem dX6_years_117 : decode cX6_years 117 = .ok (.pop, 1) := by decide +kernel
theorem dX6_years_118 : decode cX6_years 118 = .ok (.goto 24, 3) := by decide +kernel
theorem dX6_years_121 : decode cX6_years 121 = .ok (.aload_n 0, 1) := by decide +kernel
theorem dX6_years_122 : decode cX6_years 122 = .ok (.iload 4, 2) := by decide +kernel
theorem dX6_years_124 : decode cX6_years 124 = .ok (.iconst 4, 1) := by decide +kernel
theorem dX6_years_125 : decode cX6_years 125 = .ok (.if_icmp .le 7, 3) := by decide +kernel
theorem dX6_years_128 : decode cX6_years 128 = .ok (.iconst 2, 1) := by decide +kernel
theorem dX6_years_129 : decode cX6_years 129 = .ok (.goto 4, 3) := by decide +kernel
theorem dX6_years_132 : decode cX6_years 132 = .ok (.iconst 1, 1) := by decide +kernel
theorem dX6_years_133 : decode cX6_years 133 = .ok (.iconst 0, 1) := by decide +kernel
theorem dX6_years_134 : decode cX6_years 134 = .ok (.iload 4, 2) := by decide +kernel
theorem dX6_years_136 : decode cX6_years 136 = .ok (.iconst 5, 1) := by decide +kernel
theorem dX6_years_137 : decode cX6_years 137 = .ok (.irem, 1) := by decide +kernel
theorem dX6_years_138 : decode cX6_years 138 = .ok (.invokevirtual 193, 3) := by decide +kernel
theorem dX6_years_141 : decode cX6_years 141 = .ok (.pop, 1) := by decide +kernel
theorem dX6_years_142 : decode cX6_years 142 = .ok (.iload_n 2, 1) := by decide +kernel
theorem dX6_years_143 : decode cX6_years 143 = .ok (.aload_n 0, 1) := by decide +kernel
theorem dX6_years_144 : decode cX6_years 144 = .ok (.invokevirtual 228, 3) := by decide +kernel
theorem dX6_years_147 : decode cX6_years 147 = .ok (.iadd, 1) := by decide +kernel
theorem dX6_years_148 : decode cX6_years 148 = .ok (.istore_n 2, 1) := by decide +kernel
theorem dX6_years_149 : decode cX6_years 149 = .ok (.iinc 3 1, 3) := by decide +kernel
theorem dX6_years_152 : decode cX6_years 152 = .ok (.goto (-129), 3) := by decide +kernel
theorem dX6_years_155 : decode cX6_years 155 = .ok (.iload_n 2, 1) := by decide +kernel
theorem dX6_years_156 : decode cX6_years 156 = .ok (.ireturn, 1) := by decide +kernel
set_option maxRecDepth 20000 in
theorem ggX6_keep_X6_in : GoodIn wsX6_keep wsX6_in := goodIn_r _ [7] (by decide +kernel) (by decide +kernel)
set_option maxRecDepth 20000 in
theorem gX6_keep_X6_in : GoodIn wsX6_keep (va_wsS RX6 58 yX6_in wsX6_in) := goodIn_app (goodIn_of _ (by decide +kernel)) ggX6_keep_X6_in
theorem dX6_keep_0 : decode cX6_keep 0 = .ok (.iload_n 1, 1) := by decide +kernel
theorem dX6_keep_1 : decode cX6_keep 1 = .ok (.i2l, 1) := by decide +kernel
theorem dX6_keep_2 : decode cX6_keep 2 = .ok (.lconst 0, 1) := by decide +kernel
theorem dX6_keep_3 : decode cX6_keep 3 = .ok (.lconst 1, 1) := by decide +kernel
theorem dX6_keep_4 : decode cX6_keep 4 = .ok (.invokestatic 58, 3) := by decide +kernel
theorem dX6_keep_7 : decode cX6_keep 7 = .ok (.ifCond .ne 5, 3) := by decide +kernel
theorem dX6_keep_10 : decode cX6_keep 10 = .ok (.iconst (-1), 1) := by decide +kernel
theorem dX6_keep_11 : decode cX6_keep 11 = .ok (.ireturn, 1) := by decide +kernel
theorem dX6_keep_12 : decode cX6_keep 12 = .ok (.aload_n 0, 1) := by decide +kernel
theorem dX6_keep_13 : decode cX6_keep 13 = .ok (.getfield 49, 3) := by decide +kernel
theorem dX6_keep_16 : decode cX6_keep 16 = .ok (.iload_n 1, 1) := by decide +kernel
theorem dX6_keep_17 : decode cX6_keep 17 = .ok (.iconst 1, 1) := by decide +kernel
theorem dX6_keep_18 : decode cX6_keep 18 = .ok (.bastore, 1) := by decide +kernel
theorem dX6_keep_19 : decode cX6_keep 19 = .ok (.iconst 0, 1) := by decide +kernel
theorem dX6_keep_20 : decode cX6_keep 20 = .ok (.istore_n 2, 1) := by decide +kernel
theorem dX6_keep_21 : decode cX6_keep 21 = .ok (.iload_n 2, 1) := by decide +kernel
theorem dX6_keep_22 : decode cX6_keep 22 = .ok (.bipush 17, 2) := by decide +kernel
theorem dX6_keep_24 : decode cX6_keep 24 = .ok (.if_icmp .ge 26, 3) := by decide +kernel
theorem dX6_keep_27 : decode cX6_keep 27 = .ok (.aload_n 0, 1) := by decide +kernel
theorem dX6_keep_28 : decode cX6_keep 28 = .ok (.getfield 53, 3) := by decide +kernel
theorem dX6_keep_31 : decode cX6_keep 31 = .ok (.bipush 17, 2) := by decide +kernel
theorem dX6_keep_33 : decode cX6_keep 33 = .ok (.iload_n 1, 1) := by decide +kernel
theorem dX6_keep_34 : decode cX6_keep 34 = .ok (.imul, 1) := by decide +kernel
theorem dX6_keep_35 : decode cX6_keep 35 = .ok (.iload_n 2, 1) := by decide +kernel
theorem dX6_keep_36 : decode cX6_keep 36 = .ok (.iadd, 1) := by decide +kernel
theorem dX6_keep_37 : decode cX6_keep 37 = .ok (.aload_n 0, 1) := by decide +kernel
theorem dX6_keep_38 : decode cX6_keep 38 = .ok (.getfield 22, 3) := by decide +kernel
theorem dX6_keep_41 : decode cX6_keep 41 = .ok (.iload_n 2, 1) := by decide +kernel
theorem dX6_keep_42 : decode cX6_keep 42 = .ok (.iaload, 1) := by decide +kernel
theorem dX6_keep_43 : decode cX6_keep 43 = .ok (.iastore, 1) := by decide +kernel
theorem dX6_keep_44 : decode cX6_keep 44 = .ok (.iinc 2 1, 3) := by decide +kernel
theorem dX6_keep_47 : decode cX6_keep 47 = .ok (.goto (-26), 3) := by decide +kernel
theorem dX6_keep_50 : decode cX6_keep 50 = .ok (.aload_n 0, 1) := by decide +kernel
theorem dX6_keep_51 : decode cX6_keep 51 = .ok (.getfield 22, 3) := by decide +kernel
theorem dX6_keep_54 : decode cX6_keep 54 = .ok (.bipush 15, 2) := by decide +kernel
theorem dX6_keep_56 : decode cX6_keep 56 = .ok (.iaload, 1) := by decide +kernel
theorem dX6_keep_57 : decode cX6_keep 57 = .ok (.ireturn, 1) := by decide +kernel
set_option maxRecDepth 20000 in
theorem ggX6_again_X6_in : GoodIn wsX6_again wsX6_in := goodIn_r _ [8] (by decide +kernel) (by decide +kernel)
set_option maxRecDepth 20000 in
theorem gX6_again_X6_in : GoodIn wsX6_again (va_wsS RX6 58 yX6_in wsX6_in) := goodIn_app (goodIn_of _ (by decide +kernel)) ggX6_again_X6_in
theorem dX6_again_0 : decode cX6_again 0 = .ok (.iload_n 1, 1) := by decide +kernel
theorem dX6_again_1 : decode cX6_again 1 = .ok (.i2l, 1) := by decide +kernel
theorem dX6_again_2 : decode cX6_again 2 = .ok (.lconst 0, 1) := by decide +kernel
theorem dX6_again_3 : decode cX6_again 3 = .ok (.lconst 1, 1) := by decide +kernel
theorem dX6_again_4 : decode cX6_again 4 = .ok (.invokestatic 58, 3) := by decide +kernel
theorem dX6_again_7 : decode cX6_again 7 = .ok (.ifCond .ne 5, 3) := by decide +kernel
theorem dX6_again_10 : decode cX6_again 10 = .ok (.iconst (-1), 1) := by decide +kernel
theorem dX6_again_11 : decode cX6_again 11 = .ok (.ireturn, 1) := by decide +kernel
theorem dX6_again_12 : decode cX6_again 12 = .ok (.aload_n 0, 1) := by decide +kernel
theorem dX6_again_13 : decode cX6_again 13 = .ok (.getfield 49, 3) := by decide +kernel
theorem dX6_again_16 : decode cX6_again 16 = .ok (.iload_n 1, 1) := by decide +kernel
theorem dX6_again_17 : decode cX6_again 17 = .ok (.baload, 1) := by decide +kernel
theorem dX6_again_18 : decode cX6_again 18 = .ok (.ifCond .ne 6, 3) := by decide +kernel
theorem dX6_again_21 : decode cX6_again 21 = .ok (.bipush (-3), 2) := by decide +kernel
theorem dX6_again_23 : decode cX6_again 23 = .ok (.ireturn, 1) := by decide +kernel
theorem dX6_again_24 : decode cX6_again 24 = .ok (.iconst 0, 1) := by decide +kernel
theorem dX6_again_25 : decode cX6_again 25 = .ok (.istore_n 2, 1) := by decide +kernel
theorem dX6_again_26 : decode cX6_again 26 = .ok (.iload_n 2, 1) := by decide +kernel
theorem dX6_again_27 : decode cX6_again 27 = .ok (.bipush 17, 2) := by decide +kernel
theorem dX6_again_29 : decode cX6_again 29 = .ok (.if_icmp .ge 26, 3) := by decide +kernel
theorem dX6_again_32 : decode cX6_again 32 = .ok (.aload_n 0, 1) := by decide +kernel
theorem dX6_again_33 : decode cX6_again 33 = .ok (.getfield 22, 3) := by decide +kernel
theorem dX6_again_36 : decode cX6_again 36 = .ok (.iload_n 2, 1) := by decide +kernel
theorem dX6_again_37 : decode cX6_again 37 = .ok (.aload_n 0, 1) := by decide +kernel
theorem dX6_again_38 : decode cX6_again 38 = .ok (.getfield 53, 3) := by decide +kernel
theorem dX6_again_41 : decode cX6_again 41 = .ok (.bipush 17, 2) := by decide +kernel
theorem dX6_again_43 : decode cX6_again 43 = .ok (.iload_n 1, 1) := by decide +kernel
theorem dX6_again_44 : decode cX6_again 44 = .ok (.imul, 1) := by decide +kernel
theorem dX6_again_45 : decode cX6_again 45 = .ok (.iload_n 2, 1) := by decide +kernel
theorem dX6_again_46 : decode cX6_again 46 = .ok (.iadd, 1) := by decide +kernel
theorem dX6_again_47 : decode cX6_again 47 = .ok (.iaload, 1) := by decide +kernel
theorem dX6_again_48 : decode cX6_again 48 = .ok (.iastore, 1) := by decide +kernel
theorem dX6_again_49 : decode cX6_again 49 = .ok (.iinc 2 1, 3) := by decide +kernel
theorem dX6_again_52 : decode cX6_again 52 = .ok (.goto (-26), 3) := by decide +kernel
theorem dX6_again_55 : decode cX6_again 55 = .ok (.aload_n 0, 1) := by decide +kernel
theorem dX6_again_56 : decode cX6_again 56 = .ok (.iconst 0, 1) := by decide +kernel
theorem dX6_again_57 : decode cX6_again 57 = .ok (.putfield 102, 3) := by decide +kernel
theorem dX6_again_60 : decode cX6_again 60 = .ok (.aload_n 0, 1) := by decide +kernel
theorem dX6_again_61 : decode cX6_again 61 = .ok (.getfield 22, 3) := by decide +kernel
theorem dX6_again_64 : decode cX6_again 64 = .ok (.bipush 15, 2) := by decide +kernel
theorem dX6_again_66 : decode cX6_again 66 = .ok (.iaload, 1) := by decide +kernel
theorem dX6_again_67 : decode cX6_again 67 = .ok (.ireturn, 1) := by decide +kernel
set_option maxRecDepth 20000 in
theorem ggX6_hearingHouses_X6_sayingOn : GoodIn wsX6_hearingHouses wsX6_sayingOn := goodIn_r _ [6, 7, 8, 29, 30, 31, 32, 33, 34, 35, 36, 37, 38, 39, 40, 41, 42, 43, 44, 45, 46, 47, 48, 49, 50, 51, 52, 53, 54, 55, 56] (by decide +kernel) (by decide +kernel)
set_option maxRecDepth 20000 in
theorem gX6_hearingHouses_X6_sayingOn : GoodIn wsX6_hearingHouses (wsV RX6 114 RX6 yX6_sayingOn wsX6_sayingOn) := goodIn_app (goodIn_of _ (by decide +kernel)) ggX6_hearingHouses_X6_sayingOn
set_option maxRecDepth 20000 in
theorem ggX6_hearingHouses_X6_rainOn : GoodIn wsX6_hearingHouses wsX6_rainOn := goodIn_r _ [12, 13, 14, 8, 29, 30, 31, 32, 33, 34, 35, 36, 37, 38, 39, 40, 41, 42, 43, 44, 45, 46, 47, 48, 49, 50, 51, 52, 53, 54, 55, 56] (by decide +kernel) (by decide +kernel)
set_option maxRecDepth 20000 in
theorem gX6_hearingHouses_X6_rainOn : GoodIn wsX6_hearingHouses (wsV RX6 138 RX6 yX6_rainOn wsX6_rainOn) := goodIn_app (goodIn_of _ (by decide +kernel)) ggX6_hearingHouses_X6_rainOn
set_option maxRecDepth 20000 in
theorem ggX6_hearingHouses_X6_hears : GoodIn wsX6_hearingHouses wsX6_hears := goodIn_r _ [18, 19, 20, 8, 21, 22, 23, 24, 5, 25, 26, 27, 28, 29, 30, 31, 32, 33, 34, 35, 36, 37, 38, 39, 40, 41, 42, 43, 44, 45, 46, 47, 48, 49, 50, 51, 52, 53, 54, 55, 56] (by decide +kernel) (by decide +kernel)
set_option maxRecDepth 20000 in
theorem gX6_hearingHouses_X6_hears : GoodIn wsX6_hearingHouses (wsV RX6 117 RX6 yX6_hears wsX6_hears) := goodIn_app (goodIn_of _ (by decide +kernel)) ggX6_hearingHouses_X6_hears
theorem dX6_hearingHouses_0 : decode cX6_hearingHouses 0 = .ok (.iconst 0, 1) := by decide +kernel
theorem dX6_hearingHouses_1 : decode cX6_hearingHouses 1 = .ok (.istore_n 1, 1) := by decide +kernel
theorem dX6_hearingHouses_2 : decode cX6_hearingHouses 2 = .ok (.iconst 0, 1) := by decide +kernel
theorem dX6_hearingHouses_3 : decode cX6_hearingHouses 3 = .ok (.istore_n 2, 1) := by decide +kernel
theorem dX6_hearingHouses_4 : decode cX6_hearingHouses 4 = .ok (.iload_n 2, 1) := by decide +kernel
theorem dX6_hearingHouses_5 : decode cX6_hearingHouses 5 = .ok (.aload_n 0, 1) := by decide +kernel
theorem dX6_hearingHouses_6 : decode cX6_hearingHouses 6 = .ok (.getfield 93, 3) := by decide +kernel
theorem dX6_hearingHouses_9 : decode cX6_hearingHouses 9 = .ok (.if_icmp .ge 38, 3) := by decide +kernel
theorem dX6_hearingHouses_12 : decode cX6_hearingHouses 12 = .ok (.iload_n 1, 1) := by decide +kernel
theorem dX6_hearingHouses_13 : decode cX6_hearingHouses 13 = .ok (.aload_n 0, 1) := by decide +kernel
theorem dX6_hearingHouses_14 : decode cX6_hearingHouses 14 = .ok (.iconst 0, 1) := by decide +kernel
theorem dX6_hearingHouses_15 : decode cX6_hearingHouses 15 = .ok (.iload_n 2, 1) := by decide +kernel
theorem dX6_hearingHouses_16 : decode cX6_hearingHouses 16 = .ok (.aload_n 0, 1) := by decide +kernel
theorem dX6_hearingHouses_17 : decode cX6_hearingHouses 17 = .ok (.iconst 0, 1) := by decide +kernel
theorem dX6_hearingHouses_18 : decode cX6_hearingHouses 18 = .ok (.invokevirtual 114, 3) := by decide +kernel
theorem dX6_hearingHouses_21 : decode cX6_hearingHouses 21 = .ok (.aload_n 0, 1) := by decide +kernel
theorem dX6_hearingHouses_22 : decode cX6_hearingHouses 22 = .ok (.iconst 0, 1) := by decide +kernel
theorem dX6_hearingHouses_23 : decode cX6_hearingHouses 23 = .ok (.invokevirtual 138, 3) := by decide +kernel
theorem dX6_hearingHouses_26 : decode cX6_hearingHouses 26 = .ok (.invokevirtual 117, 3) := by decide +kernel
theorem dX6_hearingHouses_29 : decode cX6_hearingHouses 29 = .ok (.ifCond .eq 9, 3) := by decide +kernel
theorem dX6_hearingHouses_32 : decode cX6_hearingHouses 32 = .ok (.iconst 1, 1) := by decide +kernel
theorem dX6_hearingHouses_33 : decode cX6_hearingHouses 33 = .ok (.iload_n 2, 1) := by decide +kernel
theorem dX6_hearingHouses_34 : decode cX6_hearingHouses 34 = .ok (.ishl, 1) := by decide +kernel
theorem dX6_hearingHouses_35 : decode cX6_hearingHouses 35 = .ok (.goto 4, 3) := by decide +kernel
theorem dX6_hearingHouses_38 : decode cX6_hearingHouses 38 = .ok (.iconst 0, 1) := by decide +kernel
theorem dX6_hearingHouses_39 : decode cX6_hearingHouses 39 = .ok (.ior, 1) := by decide +kernel
theorem dX6_hearingHouses_40 : decode cX6_hearingHouses 40 = .ok (.istore_n 1, 1) := by decide +kernel
theorem dX6_hearingHouses_41 : decode cX6_hearingHouses 41 = .ok (.iinc 2 1, 3) := by decide +kernel
theorem dX6_hearingHouses_44 : decode cX6_hearingHouses 44 = .ok (.goto (-40), 3) := by decide +kernel
theorem dX6_hearingHouses_47 : decode cX6_hearingHouses 47 = .ok (.iload_n 1, 1) := by decide +kernel
theorem dX6_hearingHouses_48 : decode cX6_hearingHouses 48 = .ok (.ireturn, 1) := by decide +kernel
set_option maxRecDepth 20000 in
theorem ggX6_count_X6_rainOn : GoodIn wsX6_count wsX6_rainOn := goodIn_r _ [12, 4, 13, 5, 40, 41, 42, 43, 44, 45, 46, 47, 48, 49, 50, 51, 52, 53, 54, 55, 56, 57, 58, 59, 60, 61, 62, 63, 64, 65, 66, 67] (by decide +kernel) (by decide +kernel)
set_option maxRecDepth 20000 in
theorem gX6_count_X6_rainOn : GoodIn wsX6_count (wsV RX6 138 RX6 yX6_rainOn wsX6_rainOn) := goodIn_app (goodIn_of _ (by decide +kernel)) ggX6_count_X6_rainOn
set_option maxRecDepth 20000 in
theorem ggX6_count_X6_isStrayed : GoodIn wsX6_count wsX6_isStrayed := goodIn_r _ [17, 5, 40, 41, 42, 43, 44, 45, 46, 47, 48, 49, 50, 51, 52, 53, 54, 55, 56, 57, 58, 59, 60, 61, 62, 63, 64, 65, 66, 67] (by decide +kernel) (by decide +kernel)
set_option maxRecDepth 20000 in
theorem gX6_count_X6_isStrayed : GoodIn wsX6_count (wsV RX6 107 RX6 yX6_isStrayed wsX6_isStrayed) := goodIn_app (goodIn_of _ (by decide +kernel)) ggX6_count_X6_isStrayed
set_option maxRecDepth 20000 in
theorem ggX6_count_X6_knownOn : GoodIn wsX6_count wsX6_knownOn := goodIn_r _ [21, 2, 5, 40, 41, 42, 43, 44, 45, 46, 47, 48, 49, 50, 51, 52, 53, 54, 55, 56, 57, 58, 59, 60, 61, 62, 63, 64, 65, 66, 67] (by decide +kernel) (by decide +kernel)
set_option maxRecDepth 20000 in
theorem gX6_count_X6_knownOn : GoodIn wsX6_count (wsV RX6 125 RX6 yX6_knownOn wsX6_knownOn) := goodIn_app (goodIn_of _ (by decide +kernel)) ggX6_count_X6_knownOn
set_option maxRecDepth 20000 in
theorem ggX6_count_X6_hearingHouses : GoodIn wsX6_count wsX6_hearingHouses := goodIn_r _ [25, 2, 26, 27, 28, 11, 29, 3, 5, 8, 9, 10, 12, 4, 13, 30, 31, 32, 33, 34, 35, 36, 14, 15, 16, 17, 37, 38, 39, 40, 41, 42, 43, 44, 45, 46, 47, 48, 49, 50, 51, 52, 53, 54, 55, 56, 57, 58, 59, 60, 61, 62, 63, 64, 65, 66, 67] (by decide +kernel) (by decide +kernel)
set_option maxRecDepth 20000 in
theorem gX6_count_X6_hearingHouses : GoodIn wsX6_count (wsV RX6 231 RX6 yX6_hearingHouses wsX6_hearingHouses) := goodIn_app (goodIn_of _ (by decide +kernel)) ggX6_count_X6_hearingHouses
theorem dX6_count_0 : decode cX6_count 0 = .ok (.iload_n 1, 1) := by decide +kernel
theorem dX6_count_1 : decode cX6_count 1 = .ok (.tableswitch 140 0 11 #[63, 68, 73, 78, 83, 91, 97, 105, 119, 125, 130, 135], 63) := by decide +kernel
theorem dX6_count_64 : decode cX6_count 64 = .ok (.aload_n 0, 1) := by decide +kernel
theorem dX6_count_65 : decode cX6_count 65 = .ok (.getfield 62, 3) := by decide +kernel
theorem dX6_count_68 : decode cX6_count 68 = .ok (.ireturn, 1) := by decide +kernel
theorem dX6_count_69 : decode cX6_count 69 = .ok (.aload_n 0, 1) := by decide +kernel
theorem dX6_count_70 : decode cX6_count 70 = .ok (.getfield 93, 3) := by decide +kernel
theorem dX6_count_73 : decode cX6_count 73 = .ok (.ireturn, 1) := by decide +kernel
theorem dX6_count_74 : decode cX6_count 74 = .ok (.aload_n 0, 1) := by decide +kernel
theorem dX6_count_75 : decode cX6_count 75 = .ok (.getfield 96, 3) := by decide +kernel
theorem dX6_count_78 : decode cX6_count 78 = .ok (.ireturn, 1) := by decide +kernel
theorem dX6_count_79 : decode cX6_count 79 = .ok (.aload_n 0, 1) := by decide +kernel
theorem dX6_count_80 : decode cX6_count 80 = .ok (.getfield 99, 3) := by decide +kernel
theorem dX6_count_83 : decode cX6_count 83 = .ok (.ireturn, 1) := by decide +kernel
theorem dX6_count_84 : decode cX6_count 84 = .ok (.aload_n 0, 1) := by decide +kernel
theorem dX6_count_85 : decode cX6_count 85 = .ok (.getfield 22, 3) := by decide +kernel
theorem dX6_count_88 : decode cX6_count 88 = .ok (.bipush 15, 2) := by decide +kernel
theorem dX6_count_90 : decode cX6_count 90 = .ok (.iaload, 1) := by decide +kernel
theorem dX6_count_91 : decode cX6_count 91 = .ok (.ireturn, 1) := by decide +kernel
theorem dX6_count_92 : decode cX6_count 92 = .ok (.aload_n 0, 1) := by decide +kernel
theorem dX6_count_93 : decode cX6_count 93 = .ok (.iconst 0, 1) := by decide +kernel
theorem dX6_count_94 : decode cX6_count 94 = .ok (.invokevirtual 138, 3) := by decide +kernel
theorem dX6_count_97 : decode cX6_count 97 = .ok (.ireturn, 1) := by decide +kernel
theorem dX6_count_98 : decode cX6_count 98 = .ok (.aload_n 0, 1) := by decide +kernel
theorem dX6_count_99 : decode cX6_count 99 = .ok (.getfield 22, 3) := by decide +kernel
theorem dX6_count_102 : decode cX6_count 102 = .ok (.bipush 16, 2) := by decide +kernel
theorem dX6_count_104 : decode cX6_count 104 = .ok (.iaload, 1) := by decide +kernel
theorem dX6_count_105 : decode cX6_count 105 = .ok (.ireturn, 1) := by decide +kernel
theorem dX6_count_106 : decode cX6_count 106 = .ok (.aload_n 0, 1) := by decide +kernel
theorem dX6_count_107 : decode cX6_count 107 = .ok (.iconst 0, 1) := by decide +kernel
theorem dX6_count_108 : decode cX6_count 108 = .ok (.invokevirtual 107, 3) := by decide +kernel
theorem dX6_count_111 : decode cX6_count 111 = .ok (.ifCond .eq 7, 3) := by decide +kernel
theorem dX6_count_114 : decode cX6_count 114 = .ok (.iconst 1, 1) := by decide +kernel
theorem dX6_count_115 : decode cX6_count 115 = .ok (.goto 4, 3) := by decide +kernel
theorem dX6_count_118 : decode cX6_count 118 = .ok (.iconst 0, 1) := by decide +kernel
theorem dX6_count_119 : decode cX6_count 119 = .ok (.ireturn, 1) := by decide +kernel
theorem dX6_count_120 : decode cX6_count 120 = .ok (.aload_n 0, 1) := by decide +kernel
theorem dX6_count_121 : decode cX6_count 121 = .ok (.iconst 0, 1) := by decide +kernel
theorem dX6_count_122 : decode cX6_count 122 = .ok (.invokevirtual 125, 3) := by decide +kernel
theorem dX6_count_125 : decode cX6_count 125 = .ok (.ireturn, 1) := by decide +kernel
theorem dX6_count_126 : decode cX6_count 126 = .ok (.aload_n 0, 1) := by decide +kernel
theorem dX6_count_127 : decode cX6_count 127 = .ok (.invokevirtual 231, 3) := by decide +kernel
theorem dX6_count_130 : decode cX6_count 130 = .ok (.ireturn, 1) := by decide +kernel
theorem dX6_count_131 : decode cX6_count 131 = .ok (.aload_n 0, 1) := by decide +kernel
theorem dX6_count_132 : decode cX6_count 132 = .ok (.getfield 102, 3) := by decide +kernel
theorem dX6_count_135 : decode cX6_count 135 = .ok (.ireturn, 1) := by decide +kernel
theorem dX6_count_136 : decode cX6_count 136 = .ok (.aload_n 0, 1) := by decide +kernel
theorem dX6_count_137 : decode cX6_count 137 = .ok (.getfield 199, 3) := by decide +kernel
theorem dX6_count_140 : decode cX6_count 140 = .ok (.ireturn, 1) := by decide +kernel
theorem dX6_count_141 : decode cX6_count 141 = .ok (.bipush (-2), 2) := by decide +kernel
theorem dX6_count_143 : decode cX6_count 143 = .ok (.ireturn, 1) := by decide +kernel
theorem dJ6_bitCount_0f7a4_0 : decode cJ6_bitCount_0f7a4 0 = .ok (.iload_n 0, 1) := by decide +kernel
theorem dJ6_bitCount_0f7a4_1 : decode cJ6_bitCount_0f7a4 1 = .ok (.iload_n 0, 1) := by decide +kernel
theorem dJ6_bitCount_0f7a4_2 : decode cJ6_bitCount_0f7a4 2 = .ok (.iconst 1, 1) := by decide +kernel
theorem dJ6_bitCount_0f7a4_3 : decode cJ6_bitCount_0f7a4 3 = .ok (.iushr, 1) := by decide +kernel
theorem dJ6_bitCount_0f7a4_4 : decode cJ6_bitCount_0f7a4 4 = .ok (.ldc_w 265, 3) := by decide +kernel
theorem dJ6_bitCount_0f7a4_7 : decode cJ6_bitCount_0f7a4 7 = .ok (.iand, 1) := by decide +kernel
theorem dJ6_bitCount_0f7a4_8 : decode cJ6_bitCount_0f7a4 8 = .ok (.isub, 1) := by decide +kernel
theorem dJ6_bitCount_0f7a4_9 : decode cJ6_bitCount_0f7a4 9 = .ok (.istore_n 0, 1) := by decide +kernel
theorem dJ6_bitCount_0f7a4_10 : decode cJ6_bitCount_0f7a4 10 = .ok (.iload_n 0, 1) := by decide +kernel
theorem dJ6_bitCount_0f7a4_11 : decode cJ6_bitCount_0f7a4 11 = .ok (.ldc_w 266, 3) := by decide +kernel
theorem dJ6_bitCount_0f7a4_14 : decode cJ6_bitCount_0f7a4 14 = .ok (.iand, 1) := by decide +kernel
theorem dJ6_bitCount_0f7a4_15 : decode cJ6_bitCount_0f7a4 15 = .ok (.iload_n 0, 1) := by decide +kernel
theorem dJ6_bitCount_0f7a4_16 : decode cJ6_bitCount_0f7a4 16 = .ok (.iconst 2, 1) := by decide +kernel
theorem dJ6_bitCount_0f7a4_17 : decode cJ6_bitCount_0f7a4 17 = .ok (.iushr, 1) := by decide +kernel
theorem dJ6_bitCount_0f7a4_18 : decode cJ6_bitCount_0f7a4 18 = .ok (.ldc_w 266, 3) := by decide +kernel
theorem dJ6_bitCount_0f7a4_21 : decode cJ6_bitCount_0f7a4 21 = .ok (.iand, 1) := by decide +kernel
theorem dJ6_bitCount_0f7a4_22 : decode cJ6_bitCount_0f7a4 22 = .ok (.iadd, 1) := by decide +kernel
theorem dJ6_bitCount_0f7a4_23 : decode cJ6_bitCount_0f7a4 23 = .ok (.istore_n 0, 1) := by decide +kernel
theorem dJ6_bitCount_0f7a4_24 : decode cJ6_bitCount_0f7a4 24 = .ok (.iload_n 0, 1) := by decide +kernel
theorem dJ6_bitCount_0f7a4_25 : decode cJ6_bitCount_0f7a4 25 = .ok (.iload_n 0, 1) := by decide +kernel
theorem dJ6_bitCount_0f7a4_26 : decode cJ6_bitCount_0f7a4 26 = .ok (.iconst 4, 1) := by decide +kernel
theorem dJ6_bitCount_0f7a4_27 : decode cJ6_bitCount_0f7a4 27 = .ok (.iushr, 1) := by decide +kernel
theorem dJ6_bitCount_0f7a4_28 : decode cJ6_bitCount_0f7a4 28 = .ok (.iadd, 1) := by decide +kernel
theorem dJ6_bitCount_0f7a4_29 : decode cJ6_bitCount_0f7a4 29 = .ok (.ldc_w 267, 3) := by decide +kernel
theorem dJ6_bitCount_0f7a4_32 : decode cJ6_bitCount_0f7a4 32 = .ok (.iand, 1) := by decide +kernel
theorem dJ6_bitCount_0f7a4_33 : decode cJ6_bitCount_0f7a4 33 = .ok (.istore_n 0, 1) := by decide +kernel
theorem dJ6_bitCount_0f7a4_34 : decode cJ6_bitCount_0f7a4 34 = .ok (.iload_n 0, 1) := by decide +kernel
theorem dJ6_bitCount_0f7a4_35 : decode cJ6_bitCount_0f7a4 35 = .ok (.iload_n 0, 1) := by decide +kernel
theorem dJ6_bitCount_0f7a4_36 : decode cJ6_bitCount_0f7a4 36 = .ok (.bipush 8, 2) := by decide +kernel
theorem dJ6_bitCount_0f7a4_38 : decode cJ6_bitCount_0f7a4 38 = .ok (.iushr, 1) := by decide +kernel
theorem dJ6_bitCount_0f7a4_39 : decode cJ6_bitCount_0f7a4 39 = .ok (.iadd, 1) := by decide +kernel
theorem dJ6_bitCount_0f7a4_40 : decode cJ6_bitCount_0f7a4 40 = .ok (.istore_n 0, 1) := by decide +kernel
theorem dJ6_bitCount_0f7a4_41 : decode cJ6_bitCount_0f7a4 41 = .ok (.iload_n 0, 1) := by decide +kernel
theorem dJ6_bitCount_0f7a4_42 : decode cJ6_bitCount_0f7a4 42 = .ok (.iload_n 0, 1) := by decide +kernel
theorem dJ6_bitCount_0f7a4_43 : decode cJ6_bitCount_0f7a4 43 = .ok (.bipush 16, 2) := by decide +kernel
theorem dJ6_bitCount_0f7a4_45 : decode cJ6_bitCount_0f7a4 45 = .ok (.iushr, 1) := by decide +kernel
theorem dJ6_bitCount_0f7a4_46 : decode cJ6_bitCount_0f7a4 46 = .ok (.iadd, 1) := by decide +kernel
theorem dJ6_bitCount_0f7a4_47 : decode cJ6_bitCount_0f7a4 47 = .ok (.istore_n 0, 1) := by decide +kernel
theorem dJ6_bitCount_0f7a4_48 : decode cJ6_bitCount_0f7a4 48 = .ok (.iload_n 0, 1) := by decide +kernel
theorem dJ6_bitCount_0f7a4_49 : decode cJ6_bitCount_0f7a4 49 = .ok (.bipush 63, 2) := by decide +kernel
theorem dJ6_bitCount_0f7a4_51 : decode cJ6_bitCount_0f7a4 51 = .ok (.iand, 1) := by decide +kernel
theorem dJ6_bitCount_0f7a4_52 : decode cJ6_bitCount_0f7a4 52 = .ok (.ireturn, 1) := by decide +kernel
theorem dJ9_abs_0f7a4_0 : decode cJ9_abs_0f7a4 0 = .ok (.iload_n 0, 1) := by decide +kernel
theorem dJ9_abs_0f7a4_1 : decode cJ9_abs_0f7a4 1 = .ok (.ifCond .ge 8, 3) := by decide +kernel
theorem dJ9_abs_0f7a4_4 : decode cJ9_abs_0f7a4 4 = .ok (.iload_n 0, 1) := by decide +kernel
theorem dJ9_abs_0f7a4_5 : decode cJ9_abs_0f7a4 5 = .ok (.ineg, 1) := by decide +kernel
theorem dJ9_abs_0f7a4_6 : decode cJ9_abs_0f7a4 6 = .ok (.goto 4, 3) := by decide +kernel
theorem dJ9_abs_0f7a4_9 : decode cJ9_abs_0f7a4 9 = .ok (.iload_n 0, 1) := by decide +kernel
theorem dJ9_abs_0f7a4_10 : decode cJ9_abs_0f7a4 10 = .ok (.ireturn, 1) := by decide +kernel
theorem dJ9_min_7cf53_0 : decode cJ9_min_7cf53 0 = .ok (.iload_n 0, 1) := by decide +kernel
theorem dJ9_min_7cf53_1 : decode cJ9_min_7cf53 1 = .ok (.iload_n 1, 1) := by decide +kernel
theorem dJ9_min_7cf53_2 : decode cJ9_min_7cf53 2 = .ok (.if_icmp .gt 7, 3) := by decide +kernel
theorem dJ9_min_7cf53_5 : decode cJ9_min_7cf53 5 = .ok (.iload_n 0, 1) := by decide +kernel
theorem dJ9_min_7cf53_6 : decode cJ9_min_7cf53 6 = .ok (.goto 4, 3) := by decide +kernel
theorem dJ9_min_7cf53_9 : decode cJ9_min_7cf53 9 = .ok (.iload_n 1, 1) := by decide +kernel
theorem dJ9_min_7cf53_10 : decode cJ9_min_7cf53 10 = .ok (.ireturn, 1) := by decide +kernel
set_option maxRecDepth 20000 in
theorem ggL_law_X5_init : GoodIn wsL_law wsX5_init := goodIn_r _ [9, 10, 11, 12, 13, 14, 15, 16, 17, 18, 19, 20, 21, 22, 23, 24, 25, 26, 27, 28, 29, 30, 31, 32, 33, 34, 35, 36, 37, 38, 39, 40, 41, 42, 43, 44, 45, 46, 47, 48, 49, 50, 51, 52, 53, 54, 55, 56, 57, 58, 59, 60, 61, 62, 63, 64, 65, 66, 67, 68, 69, 70, 71, 72, 73, 74, 75, 76, 77, 78, 763, 764, 765, 766, 767, 768, 769, 770, 771, 772, 773, 774, 775, 776, 777, 806, 807, 808, 809, 810, 811, 812, 813, 814, 815, 816, 817, 818, 819, 820, 821, 822, 823, 824, 825, 826, 827, 828, 829, 830, 831, 832] (by decide +kernel) (by decide +kernel)
set_option maxRecDepth 20000 in
theorem gL_law_X5_init : GoodIn wsL_law (wsX5_init) := ggL_law_X5_init
set_option maxRecDepth 20000 in
theorem ggL_law_X6_init : GoodIn wsL_law wsX6_init := goodIn_r _ [81, 82, 11, 12, 13, 83, 84, 85, 86, 87, 88, 89, 90, 91, 92, 93, 94, 95, 17, 96, 97, 778, 779, 780, 781, 782, 783, 784, 785, 786, 787, 788, 789, 790, 791, 792, 793, 794, 795, 796, 797, 798, 799, 800, 801, 802, 803, 804, 805] (by decide +kernel) (by decide +kernel)
set_option maxRecDepth 20000 in
theorem gL_law_X6_init : GoodIn wsL_law (wsX6_init) := ggL_law_X6_init
set_option maxRecDepth 20000 in
theorem ggL_law_X5_write : GoodIn wsL_law wsX5_write := goodIn_r _ [101, 102, 14, 763, 764, 765, 766, 767, 768, 769, 770, 771, 772, 773, 774, 775, 776, 777] (by decide +kernel) (by decide +kernel)
set_option maxRecDepth 20000 in
theorem gL_law_X5_write : GoodIn wsL_law (wsV RL 13 RX5 yX5_write wsX5_write) := goodIn_app (goodIn_of _ (by decide +kernel)) ggL_law_X5_write
set_option maxRecDepth 20000 in
theorem ggL_law_X6_write : GoodIn wsL_law wsX6_write := goodIn_r _ [106, 107, 108, 91, 109, 110, 5, 111, 778, 779, 780, 781, 782, 783, 784, 785, 786, 787, 788, 789, 790, 791, 792, 793, 794, 795, 796, 797, 798, 799, 800, 801, 802, 803, 804, 805] (by decide +kernel) (by decide +kernel)
set_option maxRecDepth 20000 in
theorem gL_law_X6_write : GoodIn wsL_law (wsV RL 17 RX6 yX6_write wsX6_write) := goodIn_app (goodIn_of _ (by decide +kernel)) ggL_law_X6_write
set_option maxRecDepth 20000 in
theorem ggL_law_X5_wipe : GoodIn wsL_law wsX5_wipe := goodIn_r _ [115, 102, 763, 764, 765, 766, 767, 768, 769, 770, 771, 772, 773, 774, 775, 776, 777] (by decide +kernel) (by decide +kernel)
set_option maxRecDepth 20000 in
theorem gL_law_X5_wipe : GoodIn wsL_law (wsV RL 18 RX5 yX5_wipe wsX5_wipe) := goodIn_app (goodIn_of _ (by decide +kernel)) ggL_law_X5_wipe
set_option maxRecDepth 20000 in
theorem ggL_law_X6_wipe : GoodIn wsL_law wsX6_wipe := goodIn_r _ [119, 108, 778, 779, 780, 781, 782, 783, 784, 785, 786, 787, 788, 789, 790, 791, 792, 793, 794, 795, 796, 797, 798, 799, 800, 801, 802, 803, 804, 805] (by decide +kernel) (by decide +kernel)
set_option maxRecDepth 20000 in
theorem gL_law_X6_wipe : GoodIn wsL_law (wsV RL 22 RX6 yX6_wipe wsX6_wipe) := goodIn_app (goodIn_of _ (by decide +kernel)) ggL_law_X6_wipe
set_option maxRecDepth 20000 in
theorem ggL_law_X5_fault : GoodIn wsL_law wsX5_fault := goodIn_r _ [123, 30, 14, 102, 124, 125, 126, 29, 127, 56, 128, 129, 130, 131, 132, 25, 133, 134, 135, 136, 137, 138, 139, 140, 141, 57, 142, 143, 144, 145, 146, 147, 148, 149, 150, 151, 152, 153, 154, 155, 156, 157, 158, 159, 160, 47, 46, 161, 162, 163, 164, 48, 49, 50, 165, 166, 167, 168, 51, 763, 764, 765, 766, 767, 768, 769, 770, 771, 772, 773, 774, 775, 776, 777, 815, 816, 817, 818, 819, 806, 807, 808, 809, 810, 811, 812, 813, 814] (by decide +kernel) (by decide +kernel)
set_option maxRecDepth 20000 in
theorem gL_law_X5_fault : GoodIn wsL_law (wsV RL 23 RX5 yX5_fault wsX5_fault) := goodIn_app (goodIn_of _ (by decide +kernel)) ggL_law_X5_fault
set_option maxRecDepth 20000 in
theorem ggL_law_X6_fault : GoodIn wsL_law wsX6_fault := goodIn_r _ [172, 173, 174, 175, 5, 176, 177, 178, 179, 180, 181, 108, 91, 182, 183, 184, 185, 88, 89, 90, 186, 187, 188, 189, 109, 110, 111, 778, 779, 780, 781, 782, 783, 784, 785, 786, 787, 788, 789, 790, 791, 792, 793, 794, 795, 796, 797, 798, 799, 800, 801, 802, 803, 804, 805] (by decide +kernel) (by decide +kernel)
set_option maxRecDepth 20000 in
theorem gL_law_X6_fault : GoodIn wsL_law (wsV RL 26 RX6 yX6_fault wsX6_fault) := goodIn_app (goodIn_of _ (by decide +kernel)) ggL_law_X6_fault
set_option maxRecDepth 20000 in
theorem ggL_law_X5_lane : GoodIn wsL_law wsX5_lane := goodIn_r _ [193, 30, 14, 102, 26, 194, 33, 38, 18, 195, 196, 197, 124, 125, 126, 29, 127, 56, 128, 129, 130, 131, 132, 25, 133, 134, 135, 136, 137, 138, 139, 140, 141, 57, 142, 143, 144, 145, 146, 147, 148, 149, 150, 151, 152, 153, 154, 155, 156, 157, 158, 159, 160, 47, 46, 161, 162, 163, 164, 48, 49, 50, 165, 166, 167, 168, 51, 198, 199, 200, 201, 202, 203, 204, 205, 206, 207, 208, 32, 209, 62, 63, 64, 210, 211, 212, 213, 214, 37, 215, 216, 217, 763, 764, 765, 766, 767, 768, 769, 770, 771, 772, 773, 774, 775, 776, 777, 815, 816, 817, 818, 819, 806, 807, 808, 809, 810, 811, 812, 813, 814, 820, 821, 822, 823, 824, 825, 826, 827, 828] (by decide +kernel) (by decide +kernel)
set_option maxRecDepth 20000 in
theorem gL_law_X5_lane : GoodIn wsL_law (wsV RL 27 RX5 yX5_lane wsX5_lane) := goodIn_app (goodIn_of _ (by decide +kernel)) ggL_law_X5_lane
set_option maxRecDepth 20000 in
theorem ggL_law_X6_lane : GoodIn wsL_law wsX6_lane := goodIn_r _ [221, 179, 222, 180, 223, 181, 224, 87, 83, 88, 84, 85, 89, 86, 90, 225, 96, 173, 174, 175, 5, 176, 177, 178, 108, 91, 182, 183, 184, 185, 186, 187, 188, 189, 109, 110, 111, 778, 779, 780, 781, 782, 783, 784, 785, 786, 787, 788, 789, 790, 791, 792, 793, 794, 795, 796, 797, 798, 799, 800, 801, 802, 803, 804, 805] (by decide +kernel) (by decide +kernel)
set_option maxRecDepth 20000 in
theorem gL_law_X6_lane : GoodIn wsL_law (wsV RL 30 RX6 yX6_lane wsX6_lane) := goodIn_app (goodIn_of _ (by decide +kernel)) ggL_law_X6_lane
set_option maxRecDepth 20000 in
theorem ggL_law_X5_house : GoodIn wsL_law wsX5_house := goodIn_r _ [229, 26, 230, 33, 231, 232, 233, 234, 235, 236, 25, 237, 134, 238, 239, 240, 32, 241, 65, 242, 62, 243, 244, 245, 246, 211, 247, 248, 249, 250, 136, 51, 251, 252, 253, 254, 255, 256, 64, 257, 258, 259, 260, 261, 262, 263, 264, 265, 266, 135, 267, 268, 269, 270, 210, 271, 272, 273, 274, 763, 764, 765, 766, 767, 768, 769, 770, 771, 772, 773, 774, 775, 776, 777, 806, 807, 808, 809, 810, 811, 812, 813, 814, 820, 821, 822, 823, 824, 825] (by decide +kernel) (by decide +kernel)
set_option maxRecDepth 20000 in
theorem gL_law_X5_house : GoodIn wsL_law (wsV RL 31 RX5 yX5_house wsX5_house) := goodIn_app (goodIn_of _ (by decide +kernel)) ggL_law_X5_house
set_option maxRecDepth 20000 in
theorem ggL_law_X6_house : GoodIn wsL_law wsX6_house := goodIn_r _ [278, 84, 87, 83, 279, 280, 281, 5, 282, 222, 109, 110, 111, 283, 284, 285, 286, 287, 288, 289, 290, 223, 291, 292, 293, 294, 224, 86, 295, 296, 297, 298, 85, 299, 300, 301, 302, 303, 304, 305, 778, 779, 780, 781, 782, 783, 784, 785, 786, 787, 788, 789, 790, 791, 792, 793, 794, 795, 796, 797, 798, 799, 800, 801, 802, 803, 804, 805] (by decide +kernel) (by decide +kernel)
set_option maxRecDepth 20000 in
theorem gL_law_X6_house : GoodIn wsL_law (wsV RL 35 RX6 yX6_house wsX6_house) := goodIn_app (goodIn_of _ (by decide +kernel)) ggL_law_X6_house
set_option maxRecDepth 20000 in
theorem ggL_law_X5_saying : GoodIn wsL_law wsX5_saying := goodIn_r _ [309, 26, 310, 311, 312, 313, 272, 273, 25, 274, 135, 763, 764, 765, 766, 767, 768, 769, 770, 771, 772, 773, 774, 775, 776, 777, 806, 807, 808, 809, 810, 811, 812, 813, 814] (by decide +kernel) (by decide +kernel)
set_option maxRecDepth 20000 in
theorem gL_law_X5_saying : GoodIn wsL_law (wsV RL 36 RX5 yX5_saying wsX5_saying) := goodIn_app (goodIn_of _ (by decide +kernel)) ggL_law_X5_saying
set_option maxRecDepth 20000 in
theorem ggL_law_X6_saying : GoodIn wsL_law wsX6_saying := goodIn_r _ [317, 223, 318, 85, 109, 110, 5, 111, 778, 779, 780, 781, 782, 783, 784, 785, 786, 787, 788, 789, 790, 791, 792, 793, 794, 795, 796, 797, 798, 799, 800, 801, 802, 803, 804, 805] (by decide +kernel) (by decide +kernel)
set_option maxRecDepth 20000 in
theorem gL_law_X6_saying : GoodIn wsL_law (wsV RL 39 RX6 yX6_saying wsX6_saying) := goodIn_app (goodIn_of _ (by decide +kernel)) ggL_law_X6_saying
set_option maxRecDepth 20000 in
theorem ggL_law_X5_hour : GoodIn wsL_law wsX5_hour := goodIn_r _ [322, 38, 33, 323, 324, 325, 37, 326, 71, 216, 217, 327, 328, 329, 32, 330, 62, 331, 203, 204, 205, 63, 64, 210, 211, 332, 333, 334, 335, 65, 247, 248, 249, 25, 250, 136, 51, 336, 337, 338, 339, 340, 341, 342, 261, 343, 263, 264, 265, 266, 135, 271, 272, 273, 274, 251, 252, 253, 254, 255, 256, 257, 258, 242, 259, 260, 262, 267, 268, 269, 270, 344, 345, 346, 347, 348, 349, 350, 351, 134, 352, 353, 354, 355, 356, 357, 358, 359, 360, 361, 362, 763, 764, 765, 766, 767, 768, 769, 770, 771, 772, 773, 774, 775, 776, 777, 826, 827, 828, 820, 821, 822, 823, 824, 825, 806, 807, 808, 809, 810, 811, 812, 813, 814] (by decide +kernel) (by decide +kernel)
set_option maxRecDepth 20000 in
theorem gL_law_X5_hour : GoodIn wsL_law (wsV RL 40 RX5 yX5_hour wsX5_hour) := goodIn_app (goodIn_of _ (by decide +kernel)) ggL_law_X5_hour
set_option maxRecDepth 20000 in
theorem ggL_law_X6_hour : GoodIn wsL_law wsX6_hour := goodIn_r _ [366, 367, 368, 369, 5, 370, 92, 371, 87, 225, 291, 292, 293, 294, 224, 86, 372, 373, 374, 375, 222, 85, 287, 288, 289, 290, 223, 295, 296, 297, 298, 83, 84, 299, 300, 301, 302, 303, 304, 305, 376, 377, 378, 379, 380, 381, 382, 383, 384, 385, 778, 779, 780, 781, 782, 783, 784, 785, 786, 787, 788, 789, 790, 791, 792, 793, 794, 795, 796, 797, 798, 799, 800, 801, 802, 803, 804, 805] (by decide +kernel) (by decide +kernel)
set_option maxRecDepth 20000 in
theorem gL_law_X6_hour : GoodIn wsL_law (wsV RL 43 RX6 yX6_hour wsX6_hour) := goodIn_app (goodIn_of _ (by decide +kernel)) ggL_law_X6_hour
set_option maxRecDepth 20000 in
theorem ggL_law_X5_lower : GoodIn wsL_law wsX5_lower := goodIn_r _ [389, 26, 33, 38, 231, 234, 235, 236, 25, 237, 134, 390, 391, 392, 32, 393, 65, 64, 394, 323, 324, 325, 37, 326, 71, 216, 217, 327, 328, 329, 330, 62, 331, 203, 204, 205, 63, 210, 211, 395, 396, 397, 398, 399, 763, 764, 765, 766, 767, 768, 769, 770, 771, 772, 773, 774, 775, 776, 777, 820, 821, 822, 823, 824, 825, 806, 807, 808, 809, 810, 811, 812, 813, 814, 826, 827, 828] (by decide +kernel) (by decide +kernel)
set_option maxRecDepth 20000 in
theorem gL_law_X5_lower : GoodIn wsL_law (wsV RL 44 RX5 yX5_lower wsX5_lower) := goodIn_app (goodIn_of _ (by decide +kernel)) ggL_law_X5_lower
set_option maxRecDepth 20000 in
theorem ggL_law_X6_lower : GoodIn wsL_law wsX6_lower := goodIn_r _ [403, 87, 279, 280, 281, 5, 282, 222, 109, 110, 111, 367, 368, 369, 370, 92, 371, 225, 778, 779, 780, 781, 782, 783, 784, 785, 786, 787, 788, 789, 790, 791, 792, 793, 794, 795, 796, 797, 798, 799, 800, 801, 802, 803, 804, 805] (by decide +kernel) (by decide +kernel)
set_option maxRecDepth 20000 in
theorem gL_law_X6_lower : GoodIn wsL_law (wsV RL 47 RX6 yX6_lower wsX6_lower) := goodIn_app (goodIn_of _ (by decide +kernel)) ggL_law_X6_lower
set_option maxRecDepth 20000 in
theorem ggL_law_X5_raise : GoodIn wsL_law wsX5_raise := goodIn_r _ [407, 26, 33, 38, 231, 234, 235, 236, 25, 237, 134, 408, 409, 410, 32, 411, 65, 64, 394, 323, 324, 325, 37, 326, 71, 216, 217, 327, 328, 329, 330, 62, 331, 203, 204, 205, 63, 210, 211, 412, 413, 414, 415, 416, 763, 764, 765, 766, 767, 768, 769, 770, 771, 772, 773, 774, 775, 776, 777, 820, 821, 822, 823, 824, 825, 806, 807, 808, 809, 810, 811, 812, 813, 814, 826, 827, 828] (by decide +kernel) (by decide +kernel)
set_option maxRecDepth 20000 in
theorem gL_law_X5_raise : GoodIn wsL_law (wsV RL 48 RX5 yX5_raise wsX5_raise) := goodIn_app (goodIn_of _ (by decide +kernel)) ggL_law_X5_raise
set_option maxRecDepth 20000 in
theorem ggL_law_X6_raise : GoodIn wsL_law wsX6_raise := goodIn_r _ [420, 87, 279, 280, 281, 5, 282, 222, 109, 110, 111, 367, 368, 369, 370, 92, 371, 225, 778, 779, 780, 781, 782, 783, 784, 785, 786, 787, 788, 789, 790, 791, 792, 793, 794, 795, 796, 797, 798, 799, 800, 801, 802, 803, 804, 805] (by decide +kernel) (by decide +kernel)
set_option maxRecDepth 20000 in
theorem gL_law_X6_raise : GoodIn wsL_law (wsV RL 51 RX6 yX6_raise wsX6_raise) := goodIn_app (goodIn_of _ (by decide +kernel)) ggL_law_X6_raise
set_option maxRecDepth 20000 in
theorem ggL_law_X5_change : GoodIn wsL_law wsX5_change := goodIn_r _ [424, 26, 38, 33, 232, 234, 235, 236, 25, 237, 134, 323, 324, 325, 37, 326, 71, 216, 217, 327, 328, 329, 32, 330, 62, 331, 203, 204, 205, 63, 64, 210, 211, 425, 426, 427, 428, 65, 394, 763, 764, 765, 766, 767, 768, 769, 770, 771, 772, 773, 774, 775, 776, 777, 820, 821, 822, 823, 824, 825, 806, 807, 808, 809, 810, 811, 812, 813, 814, 826, 827, 828] (by decide +kernel) (by decide +kernel)
set_option maxRecDepth 20000 in
theorem gL_law_X5_change : GoodIn wsL_law (wsV RL 52 RX5 yX5_change wsX5_change) := goodIn_app (goodIn_of _ (by decide +kernel)) ggL_law_X5_change
set_option maxRecDepth 20000 in
theorem ggL_law_X6_change : GoodIn wsL_law wsX6_change := goodIn_r _ [432, 279, 280, 281, 5, 282, 222, 109, 110, 111, 367, 368, 369, 370, 92, 371, 87, 225, 433, 434, 435, 436, 283, 284, 285, 286, 778, 779, 780, 781, 782, 783, 784, 785, 786, 787, 788, 789, 790, 791, 792, 793, 794, 795, 796, 797, 798, 799, 800, 801, 802, 803, 804, 805] (by decide +kernel) (by decide +kernel)
set_option maxRecDepth 20000 in
theorem gL_law_X6_change : GoodIn wsL_law (wsV RL 55 RX6 yX6_change wsX6_change) := goodIn_app (goodIn_of _ (by decide +kernel)) ggL_law_X6_change
set_option maxRecDepth 20000 in
theorem ggL_law_X5_plate : GoodIn wsL_law wsX5_plate := goodIn_r _ [440, 26, 38, 33, 232, 234, 235, 236, 25, 237, 134, 441, 442, 443, 444, 323, 324, 325, 37, 326, 71, 216, 217, 327, 328, 329, 32, 330, 62, 331, 203, 204, 205, 63, 64, 210, 211, 445, 446, 447, 448, 65, 449, 763, 764, 765, 766, 767, 768, 769, 770, 771, 772, 773, 774, 775, 776, 777, 820, 821, 822, 823, 824, 825, 806, 807, 808, 809, 810, 811, 812, 813, 814, 826, 827, 828] (by decide +kernel) (by decide +kernel)
set_option maxRecDepth 20000 in
theorem gL_law_X5_plate : GoodIn wsL_law (wsV RL 56 RX5 yX5_plate wsX5_plate) := goodIn_app (goodIn_of _ (by decide +kernel)) ggL_law_X5_plate
set_option maxRecDepth 20000 in
theorem ggL_law_X6_plate : GoodIn wsL_law wsX6_plate := goodIn_r _ [453, 279, 280, 281, 5, 282, 222, 109, 110, 111, 367, 368, 369, 370, 92, 371, 87, 225, 454, 455, 456, 457, 283, 284, 285, 286, 778, 779, 780, 781, 782, 783, 784, 785, 786, 787, 788, 789, 790, 791, 792, 793, 794, 795, 796, 797, 798, 799, 800, 801, 802, 803, 804, 805] (by decide +kernel) (by decide +kernel)
set_option maxRecDepth 20000 in
theorem gL_law_X6_plate : GoodIn wsL_law (wsV RL 59 RX6 yX6_plate wsX6_plate) := goodIn_app (goodIn_of _ (by decide +kernel)) ggL_law_X6_plate
set_option maxRecDepth 20000 in
theorem ggL_law_X5_undo : GoodIn wsL_law wsX5_undo := goodIn_r _ [461, 38, 462, 33, 463, 464, 465, 37, 466, 217, 71, 216, 327, 328, 329, 32, 330, 62, 331, 203, 204, 205, 63, 64, 210, 211, 763, 764, 765, 766, 767, 768, 769, 770, 771, 772, 773, 774, 775, 776, 777, 826, 827, 828, 820, 821, 822, 823, 824, 825] (by decide +kernel) (by decide +kernel)
set_option maxRecDepth 20000 in
theorem gL_law_X5_undo : GoodIn wsL_law (wsV RL 60 RX5 yX5_undo wsX5_undo) := goodIn_app (goodIn_of _ (by decide +kernel)) ggL_law_X5_undo
set_option maxRecDepth 20000 in
theorem ggL_law_X6_undo : GoodIn wsL_law wsX6_undo := goodIn_r _ [470, 225, 371, 87, 92, 778, 779, 780, 781, 782, 783, 784, 785, 786, 787, 788, 789, 790, 791, 792, 793, 794, 795, 796, 797, 798, 799, 800, 801, 802, 803, 804, 805] (by decide +kernel) (by decide +kernel)
set_option maxRecDepth 20000 in
theorem gL_law_X6_undo : GoodIn wsL_law (wsV RL 63 RX6 yX6_undo wsX6_undo) := goodIn_app (goodIn_of _ (by decide +kernel)) ggL_law_X6_undo
set_option maxRecDepth 20000 in
theorem ggL_law_X5_later : GoodIn wsL_law wsX5_later := goodIn_r _ [474, 26, 34, 33, 232, 234, 235, 236, 25, 237, 134, 475, 328, 329, 32, 330, 62, 331, 203, 204, 205, 63, 64, 210, 211, 476, 477, 478, 479, 65, 247, 248, 249, 250, 136, 51, 336, 337, 338, 339, 340, 341, 342, 261, 343, 263, 264, 265, 266, 135, 271, 272, 273, 274, 251, 252, 253, 254, 255, 256, 257, 258, 242, 259, 260, 262, 267, 268, 269, 270, 344, 345, 346, 347, 348, 349, 350, 351, 352, 353, 354, 355, 356, 357, 358, 359, 360, 361, 362, 763, 764, 765, 766, 767, 768, 769, 770, 771, 772, 773, 774, 775, 776, 777, 820, 821, 822, 823, 824, 825, 806, 807, 808, 809, 810, 811, 812, 813, 814] (by decide +kernel) (by decide +kernel)
set_option maxRecDepth 20000 in
theorem gL_law_X5_later : GoodIn wsL_law (wsV RL 64 RX5 yX5_later wsX5_later) := goodIn_app (goodIn_of _ (by decide +kernel)) ggL_law_X5_later
set_option maxRecDepth 20000 in
theorem ggL_law_X6_later : GoodIn wsL_law wsX6_later := goodIn_r _ [483, 484, 279, 280, 281, 5, 282, 222, 109, 110, 111, 485, 486, 487, 488, 87, 489, 490, 491, 492, 291, 292, 293, 294, 224, 86, 372, 373, 374, 375, 85, 287, 288, 289, 290, 223, 295, 296, 297, 298, 83, 84, 299, 300, 301, 302, 303, 304, 305, 376, 377, 378, 379, 380, 381, 382, 383, 384, 385, 283, 284, 285, 286, 778, 779, 780, 781, 782, 783, 784, 785, 786, 787, 788, 789, 790, 791, 792, 793, 794, 795, 796, 797, 798, 799, 800, 801, 802, 803, 804, 805] (by decide +kernel) (by decide +kernel)
set_option maxRecDepth 20000 in
theorem gL_law_X6_later : GoodIn wsL_law (wsV RL 67 RX6 yX6_later wsX6_later) := goodIn_app (goodIn_of _ (by decide +kernel)) ggL_law_X6_later
set_option maxRecDepth 20000 in
theorem ggL_law_X5_first : GoodIn wsL_law wsX5_first := goodIn_r _ [496, 26, 34, 33, 234, 235, 236, 25, 237, 134, 497, 498, 2, 499, 475, 328, 329, 32, 330, 62, 331, 203, 204, 205, 63, 64, 210, 211, 500, 501, 502, 503, 332, 333, 334, 335, 65, 247, 248, 249, 250, 136, 51, 336, 337, 338, 339, 340, 341, 342, 261, 343, 263, 264, 265, 266, 135, 271, 272, 273, 274, 251, 252, 253, 254, 255, 256, 257, 258, 242, 259, 260, 262, 267, 268, 269, 270, 344, 345, 346, 347, 348, 349, 350, 351, 352, 353, 354, 355, 356, 357, 358, 359, 360, 361, 362, 763, 764, 765, 766, 767, 768, 769, 770, 771, 772, 773, 774, 775, 776, 777, 806, 807, 808, 809, 810, 811, 812, 813, 814, 820, 821, 822, 823, 824, 825] (by decide +kernel) (by decide +kernel)
set_option maxRecDepth 20000 in
theorem gL_law_X5_first : GoodIn wsL_law (wsV RL 68 RX5 yX5_first wsX5_first) := goodIn_app (goodIn_of _ (by decide +kernel)) ggL_law_X5_first
set_option maxRecDepth 20000 in
theorem ggL_law_X6_first : GoodIn wsL_law wsX6_first := goodIn_r _ [507, 279, 280, 281, 5, 282, 222, 109, 110, 111, 508, 509, 510, 511, 485, 486, 487, 488, 87, 283, 284, 285, 286, 376, 377, 378, 489, 490, 491, 492, 291, 292, 293, 294, 224, 86, 372, 373, 374, 375, 85, 287, 288, 289, 290, 223, 295, 296, 297, 298, 83, 84, 299, 300, 301, 302, 303, 304, 305, 379, 380, 381, 382, 383, 384, 385, 778, 779, 780, 781, 782, 783, 784, 785, 786, 787, 788, 789, 790, 791, 792, 793, 794, 795, 796, 797, 798, 799, 800, 801, 802, 803, 804, 805] (by decide +kernel) (by decide +kernel)
set_option maxRecDepth 20000 in
theorem gL_law_X6_first : GoodIn wsL_law (wsV RL 71 RX6 yX6_first wsX6_first) := goodIn_app (goodIn_of _ (by decide +kernel)) ggL_law_X6_first
set_option maxRecDepth 20000 in
theorem ggL_law_X5_keeps : GoodIn wsL_law wsX5_keeps := goodIn_r _ [515, 26, 234, 235, 236, 25, 237, 134, 497, 498, 2, 499, 516, 517, 518, 519, 520, 521, 522, 195, 20, 33, 231, 523, 342, 261, 343, 524, 525, 526, 527, 34, 475, 328, 329, 32, 330, 62, 331, 203, 204, 205, 63, 64, 210, 211, 476, 477, 478, 479, 65, 247, 248, 249, 250, 136, 51, 336, 337, 338, 339, 340, 341, 263, 264, 265, 266, 135, 271, 272, 273, 274, 251, 252, 253, 254, 255, 256, 257, 258, 242, 259, 260, 262, 267, 268, 269, 270, 344, 345, 346, 347, 348, 349, 350, 351, 352, 353, 354, 355, 356, 357, 358, 359, 360, 361, 362, 500, 501, 502, 503, 528, 529, 530, 531, 532, 533, 534, 535, 763, 764, 765, 766, 767, 768, 769, 770, 771, 772, 773, 774, 775, 776, 777, 806, 807, 808, 809, 810, 811, 812, 813, 814, 820, 821, 822, 823, 824, 825] (by decide +kernel) (by decide +kernel)
set_option maxRecDepth 20000 in
theorem gL_law_X5_keeps : GoodIn wsL_law (wsV RL 72 RX5 yX5_keeps wsX5_keeps) := goodIn_app (goodIn_of _ (by decide +kernel)) ggL_law_X5_keeps
set_option maxRecDepth 20000 in
theorem ggL_law_X6_keeps : GoodIn wsL_law wsX6_keeps := goodIn_r _ [539, 540, 222, 279, 280, 281, 5, 282, 109, 110, 111, 508, 509, 510, 511, 541, 542, 543, 544, 87, 485, 486, 487, 488, 489, 490, 491, 492, 291, 292, 293, 294, 224, 86, 372, 373, 374, 375, 85, 287, 288, 289, 290, 223, 295, 296, 297, 298, 83, 84, 299, 300, 301, 302, 303, 304, 305, 376, 377, 378, 379, 380, 381, 382, 383, 384, 385, 283, 284, 285, 286, 545, 546, 547, 548, 778, 779, 780, 781, 782, 783, 784, 785, 786, 787, 788, 789, 790, 791, 792, 793, 794, 795, 796, 797, 798, 799, 800, 801, 802, 803, 804, 805] (by decide +kernel) (by decide +kernel)
set_option maxRecDepth 20000 in
theorem gL_law_X6_keeps : GoodIn wsL_law (wsV RL 76 RX6 yX6_keeps wsX6_keeps) := goodIn_app (goodIn_of _ (by decide +kernel)) ggL_law_X6_keeps
set_option maxRecDepth 20000 in
theorem ggL_law_X5_tells : GoodIn wsL_law wsX5_tells := goodIn_r _ [552, 26, 33, 516, 517, 2, 518, 553, 349, 350, 25, 351, 134, 554, 357, 358, 359, 360, 361, 362, 555, 353, 354, 32, 355, 65, 258, 63, 763, 764, 765, 766, 767, 768, 769, 770, 771, 772, 773, 774, 775, 776, 777, 806, 807, 808, 809, 810, 811, 812, 813, 814, 820, 821, 822, 823, 824, 825] (by decide +kernel) (by decide +kernel)
set_option maxRecDepth 20000 in
theorem gL_law_X5_tells : GoodIn wsL_law (wsV RL 77 RX5 yX5_tells wsX5_tells) := goodIn_app (goodIn_of _ (by decide +kernel)) ggL_law_X5_tells
set_option maxRecDepth 20000 in
theorem ggL_law_X6_tells : GoodIn wsL_law wsX6_tells := goodIn_r _ [559, 560, 222, 109, 110, 5, 111, 383, 384, 385, 561, 562, 563, 564, 376, 377, 378, 283, 284, 285, 286, 87, 778, 779, 780, 781, 782, 783, 784, 785, 786, 787, 788, 789, 790, 791, 792, 793, 794, 795, 796, 797, 798, 799, 800, 801, 802, 803, 804, 805] (by decide +kernel) (by decide +kernel)
set_option maxRecDepth 20000 in
theorem gL_law_X6_tells : GoodIn wsL_law (wsV RL 80 RX6 yX6_tells wsX6_tells) := goodIn_app (goodIn_of _ (by decide +kernel)) ggL_law_X6_tells
set_option maxRecDepth 20000 in
theorem ggL_law_X5_judge : GoodIn wsL_law wsX5_judge := goodIn_r _ [568, 34, 33, 19, 569, 570, 571, 2, 572, 573, 475, 328, 329, 32, 330, 62, 331, 203, 204, 205, 63, 64, 210, 211, 574, 575, 576, 577, 26, 578, 332, 333, 334, 335, 65, 247, 248, 249, 25, 250, 136, 51, 336, 337, 338, 339, 340, 341, 342, 261, 343, 263, 264, 265, 266, 135, 271, 272, 273, 274, 251, 252, 253, 254, 255, 256, 257, 258, 242, 259, 260, 262, 267, 268, 269, 270, 344, 345, 346, 347, 348, 349, 350, 351, 134, 352, 353, 354, 355, 356, 357, 358, 359, 360, 361, 362, 395, 396, 397, 398, 399, 391, 392, 393, 394, 235, 236, 237, 412, 413, 414, 415, 416, 409, 410, 411, 425, 426, 427, 428, 445, 446, 447, 448, 449, 442, 443, 444, 234, 497, 498, 499, 500, 501, 502, 503, 763, 764, 765, 766, 767, 768, 769, 770, 771, 772, 773, 774, 775, 776, 777, 820, 821, 822, 823, 824, 825, 806, 807, 808, 809, 810, 811, 812, 813, 814] (by decide +kernel) (by decide +kernel)
set_option maxRecDepth 20000 in
theorem gL_law_X5_judge : GoodIn wsL_law (wsV RL 83 RX5 yX5_judge wsX5_judge) := goodIn_app (goodIn_of _ (by decide +kernel)) ggL_law_X5_judge
set_option maxRecDepth 20000 in
theorem ggL_law_X6_judge : GoodIn wsL_law wsX6_judge := goodIn_r _ [582, 583, 584, 109, 110, 5, 111, 585, 586, 587, 485, 486, 487, 488, 87, 588, 589, 590, 591, 489, 490, 491, 492, 291, 292, 293, 294, 224, 86, 372, 373, 374, 375, 222, 85, 287, 288, 289, 290, 223, 295, 296, 297, 298, 83, 84, 299, 300, 301, 302, 303, 304, 305, 376, 377, 378, 379, 380, 381, 382, 383, 384, 385, 279, 280, 281, 282, 433, 434, 435, 436, 454, 455, 456, 457, 283, 284, 285, 286, 508, 509, 510, 511, 778, 779, 780, 781, 782, 783, 784, 785, 786, 787, 788, 789, 790, 791, 792, 793, 794, 795, 796, 797, 798, 799, 800, 801, 802, 803, 804, 805] (by decide +kernel) (by decide +kernel)
set_option maxRecDepth 20000 in
theorem gL_law_X6_judge : GoodIn wsL_law (wsV RL 87 RX6 yX6_judge wsX6_judge) := goodIn_app (goodIn_of _ (by decide +kernel)) ggL_law_X6_judge
set_option maxRecDepth 20000 in
theorem ggL_law_X5_hear : GoodIn wsL_law wsX5_hear := goodIn_r _ [595, 42, 596, 597, 598, 2, 599, 516, 517, 518, 600, 601, 602, 41, 603, 604, 76, 77, 78, 763, 764, 765, 766, 767, 768, 769, 770, 771, 772, 773, 774, 775, 776, 777, 829, 830, 831, 832] (by decide +kernel) (by decide +kernel)
set_option maxRecDepth 20000 in
theorem gL_law_X5_hear : GoodIn wsL_law (wsV RL 88 RX5 yX5_hear wsX5_hear) := goodIn_app (goodIn_of _ (by decide +kernel)) ggL_law_X5_hear
set_option maxRecDepth 20000 in
theorem ggL_law_X6_hear : GoodIn wsL_law wsX6_hear := goodIn_r _ [608, 609, 610, 93, 94, 95, 109, 110, 5, 111, 778, 779, 780, 781, 782, 783, 784, 785, 786, 787, 788, 789, 790, 791, 792, 793, 794, 795, 796, 797, 798, 799, 800, 801, 802, 803, 804, 805] (by decide +kernel) (by decide +kernel)
set_option maxRecDepth 20000 in
theorem gL_law_X6_hear : GoodIn wsL_law (wsV RL 92 RX6 yX6_hear wsX6_hear) := goodIn_app (goodIn_of _ (by decide +kernel)) ggL_law_X6_hear
set_option maxRecDepth 20000 in
theorem ggL_law_X5_unhear : GoodIn wsL_law wsX5_unhear := goodIn_r _ [614, 42, 596, 763, 764, 765, 766, 767, 768, 769, 770, 771, 772, 773, 774, 775, 776, 777, 829, 830, 831, 832] (by decide +kernel) (by decide +kernel)
set_option maxRecDepth 20000 in
theorem gL_law_X5_unhear : GoodIn wsL_law (wsV RL 93 RX5 yX5_unhear wsX5_unhear) := goodIn_app (goodIn_of _ (by decide +kernel)) ggL_law_X5_unhear
set_option maxRecDepth 20000 in
theorem ggL_law_X6_unhear : GoodIn wsL_law wsX6_unhear := goodIn_r _ [618, 610, 778, 779, 780, 781, 782, 783, 784, 785, 786, 787, 788, 789, 790, 791, 792, 793, 794, 795, 796, 797, 798, 799, 800, 801, 802, 803, 804, 805] (by decide +kernel) (by decide +kernel)
set_option maxRecDepth 20000 in
theorem gL_law_X6_unhear : GoodIn wsL_law (wsV RL 96 RX6 yX6_unhear wsX6_unhear) := goodIn_app (goodIn_of _ (by decide +kernel)) ggL_law_X6_unhear
set_option maxRecDepth 20000 in
theorem ggL_law_X5_ears : GoodIn wsL_law wsX5_ears := goodIn_r _ [622, 42, 516, 517, 2, 518, 623, 624, 625, 41, 626, 604, 76, 77, 78, 763, 764, 765, 766, 767, 768, 769, 770, 771, 772, 773, 774, 775, 776, 777, 829, 830, 831, 832] (by decide +kernel) (by decide +kernel)
set_option maxRecDepth 20000 in
theorem gL_law_X5_ears : GoodIn wsL_law (wsV RL 97 RX5 yX5_ears wsX5_ears) := goodIn_app (goodIn_of _ (by decide +kernel)) ggL_law_X5_ears
set_option maxRecDepth 20000 in
theorem ggL_law_X6_ears : GoodIn wsL_law wsX6_ears := goodIn_r _ [630, 610, 93, 94, 95, 109, 110, 5, 111, 303, 304, 305, 778, 779, 780, 781, 782, 783, 784, 785, 786, 787, 788, 789, 790, 791, 792, 793, 794, 795, 796, 797, 798, 799, 800, 801, 802, 803, 804, 805] (by decide +kernel) (by decide +kernel)
set_option maxRecDepth 20000 in
theorem gL_law_X6_ears : GoodIn wsL_law (wsV RL 100 RX6 yX6_ears wsX6_ears) := goodIn_app (goodIn_of _ (by decide +kernel)) ggL_law_X6_ears
set_option maxRecDepth 20000 in
theorem ggL_law_X5_share : GoodIn wsL_law wsX5_share := goodIn_r _ [634, 26, 33, 234, 235, 236, 25, 237, 134, 500, 501, 502, 32, 503, 63, 635, 636, 637, 638, 65, 258, 639, 640, 2, 641, 642, 643, 644, 763, 764, 765, 766, 767, 768, 769, 770, 771, 772, 773, 774, 775, 776, 777, 806, 807, 808, 809, 810, 811, 812, 813, 814, 820, 821, 822, 823, 824, 825] (by decide +kernel) (by decide +kernel)
set_option maxRecDepth 20000 in
theorem gL_law_X5_share : GoodIn wsL_law (wsV RL 101 RX5 yX5_share wsX5_share) := goodIn_app (goodIn_of _ (by decide +kernel)) ggL_law_X5_share
set_option maxRecDepth 20000 in
theorem ggL_law_X6_share : GoodIn wsL_law wsX6_share := goodIn_r _ [648, 222, 279, 280, 281, 5, 282, 109, 110, 111, 376, 377, 378, 383, 384, 385, 649, 650, 651, 561, 562, 563, 564, 283, 284, 285, 286, 87, 652, 653, 654, 778, 779, 780, 781, 782, 783, 784, 785, 786, 787, 788, 789, 790, 791, 792, 793, 794, 795, 796, 797, 798, 799, 800, 801, 802, 803, 804, 805] (by decide +kernel) (by decide +kernel)
set_option maxRecDepth 20000 in
theorem gL_law_X6_share : GoodIn wsL_law (wsV RL 105 RX6 yX6_share wsX6_share) := goodIn_app (goodIn_of _ (by decide +kernel)) ggL_law_X6_share
set_option maxRecDepth 20000 in
theorem ggL_law_X5_rests : GoodIn wsL_law wsX5_rests := goodIn_r _ [658, 26, 21, 22, 234, 235, 236, 25, 237, 134, 516, 517, 2, 518, 659, 660, 661, 662, 34, 33, 232, 475, 328, 329, 32, 330, 62, 331, 203, 204, 205, 63, 64, 210, 211, 395, 396, 397, 398, 399, 391, 392, 393, 65, 394, 476, 477, 478, 479, 247, 248, 249, 250, 136, 51, 336, 337, 338, 339, 340, 341, 342, 261, 343, 263, 264, 265, 266, 135, 271, 272, 273, 274, 251, 252, 253, 254, 255, 256, 257, 258, 242, 259, 260, 262, 267, 268, 269, 270, 344, 345, 346, 347, 348, 349, 350, 351, 352, 353, 354, 355, 356, 357, 358, 359, 360, 361, 362, 554, 763, 764, 765, 766, 767, 768, 769, 770, 771, 772, 773, 774, 775, 776, 777, 806, 807, 808, 809, 810, 811, 812, 813, 814, 820, 821, 822, 823, 824, 825] (by decide +kernel) (by decide +kernel)
set_option maxRecDepth 20000 in
theorem gL_law_X5_rests : GoodIn wsL_law (wsV RL 106 RX5 yX5_rests wsX5_rests) := goodIn_app (goodIn_of _ (by decide +kernel)) ggL_law_X5_rests
set_option maxRecDepth 20000 in
theorem ggL_law_X6_rests : GoodIn wsL_law wsX6_rests := goodIn_r _ [666, 279, 280, 281, 5, 282, 222, 109, 110, 111, 667, 668, 669, 670, 671, 672, 673, 674, 87, 485, 486, 487, 488, 489, 490, 491, 492, 291, 292, 293, 294, 224, 86, 372, 373, 374, 375, 85, 287, 288, 289, 290, 223, 295, 296, 297, 298, 83, 84, 299, 300, 301, 302, 303, 304, 305, 376, 377, 378, 379, 380, 381, 382, 383, 384, 385, 283, 284, 285, 286, 778, 779, 780, 781, 782, 783, 784, 785, 786, 787, 788, 789, 790, 791, 792, 793, 794, 795, 796, 797, 798, 799, 800, 801, 802, 803, 804, 805] (by decide +kernel) (by decide +kernel)
set_option maxRecDepth 20000 in
theorem gL_law_X6_rests : GoodIn wsL_law (wsV RL 109 RX6 yX6_rests wsX6_rests) := goodIn_app (goodIn_of _ (by decide +kernel)) ggL_law_X6_rests
set_option maxRecDepth 20000 in
theorem ggL_law_X5_dries : GoodIn wsL_law wsX5_dries := goodIn_r _ [678, 26, 234, 235, 236, 25, 237, 134, 497, 498, 2, 499, 679, 680, 681, 682, 683, 684, 685, 34, 33, 686, 475, 328, 329, 32, 330, 62, 331, 203, 204, 205, 63, 64, 210, 211, 687, 248, 249, 250, 136, 51, 688, 337, 338, 339, 65, 340, 341, 342, 261, 343, 263, 264, 265, 266, 135, 271, 272, 273, 274, 251, 252, 253, 254, 255, 256, 257, 258, 242, 259, 260, 262, 267, 268, 269, 270, 344, 345, 346, 347, 348, 349, 350, 351, 352, 353, 354, 355, 356, 357, 358, 359, 360, 361, 362, 500, 501, 502, 503, 689, 690, 691, 639, 640, 641, 642, 643, 644, 763, 764, 765, 766, 767, 768, 769, 770, 771, 772, 773, 774, 775, 776, 777, 806, 807, 808, 809, 810, 811, 812, 813, 814, 820, 821, 822, 823, 824, 825] (by decide +kernel) (by decide +kernel)
set_option maxRecDepth 20000 in
theorem gL_law_X5_dries : GoodIn wsL_law (wsV RL 110 RX5 yX5_dries wsX5_dries) := goodIn_app (goodIn_of _ (by decide +kernel)) ggL_law_X5_dries
set_option maxRecDepth 20000 in
theorem ggL_law_X6_dries : GoodIn wsL_law wsX6_dries := goodIn_r _ [695, 696, 697, 279, 280, 281, 5, 282, 222, 109, 110, 111, 508, 509, 510, 511, 485, 486, 487, 488, 87, 376, 377, 378, 291, 292, 293, 294, 224, 86, 372, 373, 374, 375, 85, 287, 288, 289, 290, 223, 295, 296, 297, 298, 83, 84, 299, 300, 301, 302, 303, 304, 305, 379, 380, 381, 382, 383, 384, 385, 283, 284, 285, 286, 652, 653, 654, 778, 779, 780, 781, 782, 783, 784, 785, 786, 787, 788, 789, 790, 791, 792, 793, 794, 795, 796, 797, 798, 799, 800, 801, 802, 803, 804, 805] (by decide +kernel) (by decide +kernel)
set_option maxRecDepth 20000 in
theorem gL_law_X6_dries : GoodIn wsL_law (wsV RL 114 RX6 yX6_dries wsX6_dries) := goodIn_app (goodIn_of _ (by decide +kernel)) ggL_law_X6_dries
set_option maxRecDepth 20000 in
theorem ggL_law_X5_seed : GoodIn wsL_law wsX5_seed := goodIn_r _ [701, 702, 763, 764, 765, 766, 767, 768, 769, 770, 771, 772, 773, 774, 775, 776, 777] (by decide +kernel) (by decide +kernel)
set_option maxRecDepth 20000 in
theorem gL_law_X5_seed : GoodIn wsL_law (wsV RL 115 RX5 yX5_seed wsX5_seed) := goodIn_app (goodIn_of _ (by decide +kernel)) ggL_law_X5_seed
set_option maxRecDepth 20000 in
theorem ggL_law_X6_seed : GoodIn wsL_law wsX6_seed := goodIn_r _ [706, 707, 778, 779, 780, 781, 782, 783, 784, 785, 786, 787, 788, 789, 790, 791, 792, 793, 794, 795, 796, 797, 798, 799, 800, 801, 802, 803, 804, 805] (by decide +kernel) (by decide +kernel)
set_option maxRecDepth 20000 in
theorem gL_law_X6_seed : GoodIn wsL_law (wsV RL 119 RX6 yX6_seed wsX6_seed) := goodIn_app (goodIn_of _ (by decide +kernel)) ggL_law_X6_seed
set_option maxRecDepth 20000 in
theorem ggL_law_X5_years : GoodIn wsL_law wsX5_years := goodIn_r _ [711, 34, 33, 702, 712, 713, 714, 475, 328, 329, 32, 330, 62, 331, 203, 204, 205, 63, 64, 210, 211, 715, 716, 717, 2, 718, 395, 396, 397, 398, 399, 391, 392, 393, 65, 394, 235, 236, 25, 237, 134, 412, 413, 414, 415, 416, 409, 410, 411, 425, 426, 427, 428, 445, 446, 447, 448, 449, 442, 443, 444, 332, 333, 334, 335, 247, 248, 249, 250, 136, 51, 336, 337, 338, 339, 340, 341, 342, 261, 343, 263, 264, 265, 266, 135, 271, 272, 273, 274, 251, 252, 253, 254, 255, 256, 257, 258, 242, 259, 260, 262, 267, 268, 269, 270, 344, 345, 346, 347, 348, 349, 350, 351, 352, 353, 354, 355, 356, 357, 358, 359, 360, 361, 362, 719, 720, 721, 722, 763, 764, 765, 766, 767, 768, 769, 770, 771, 772, 773, 774, 775, 776, 777, 820, 821, 822, 823, 824, 825, 806, 807, 808, 809, 810, 811, 812, 813, 814] (by decide +kernel) (by decide +kernel)
set_option maxRecDepth 20000 in
theorem gL_law_X5_years : GoodIn wsL_law (wsV RL 120 RX5 yX5_years wsX5_years) := goodIn_app (goodIn_of _ (by decide +kernel)) ggL_law_X5_years
set_option maxRecDepth 20000 in
theorem ggL_law_X6_years : GoodIn wsL_law wsX6_years := goodIn_r _ [726, 484, 707, 727, 728, 729, 109, 110, 5, 111, 485, 486, 487, 488, 87, 489, 490, 491, 492, 291, 292, 293, 294, 224, 86, 372, 373, 374, 375, 222, 85, 287, 288, 289, 290, 223, 295, 296, 297, 298, 83, 84, 299, 300, 301, 302, 303, 304, 305, 376, 377, 378, 379, 380, 381, 382, 383, 384, 385, 588, 589, 590, 591, 279, 280, 281, 282, 433, 434, 435, 436, 454, 455, 456, 457, 283, 284, 285, 286, 508, 509, 510, 511, 730, 731, 732, 733, 778, 779, 780, 781, 782, 783, 784, 785, 786, 787, 788, 789, 790, 791, 792, 793, 794, 795, 796, 797, 798, 799, 800, 801, 802, 803, 804, 805] (by decide +kernel) (by decide +kernel)
set_option maxRecDepth 20000 in
theorem gL_law_X6_years : GoodIn wsL_law (wsV RL 123 RX6 yX6_years wsX6_years) := goodIn_app (goodIn_of _ (by decide +kernel)) ggL_law_X6_years
set_option maxRecDepth 20000 in
theorem ggL_law_X5_keep : GoodIn wsL_law wsX5_keep := goodIn_r _ [737, 16, 33, 18, 686, 475, 328, 329, 32, 330, 62, 331, 203, 204, 205, 63, 64, 210, 211, 763, 764, 765, 766, 767, 768, 769, 770, 771, 772, 773, 774, 775, 776, 777, 820, 821, 822, 823, 824, 825] (by decide +kernel) (by decide +kernel)
set_option maxRecDepth 20000 in
theorem gL_law_X5_keep : GoodIn wsL_law (wsV RL 124 RX5 yX5_keep wsX5_keep) := goodIn_app (goodIn_of _ (by decide +kernel)) ggL_law_X5_keep
set_option maxRecDepth 20000 in
theorem ggL_law_X6_keep : GoodIn wsL_law wsX6_keep := goodIn_r _ [741, 96, 97, 87, 109, 110, 5, 111, 778, 779, 780, 781, 782, 783, 784, 785, 786, 787, 788, 789, 790, 791, 792, 793, 794, 795, 796, 797, 798, 799, 800, 801, 802, 803, 804, 805] (by decide +kernel) (by decide +kernel)
set_option maxRecDepth 20000 in
theorem gL_law_X6_keep : GoodIn wsL_law (wsV RL 127 RX6 yX6_keep wsX6_keep) := goodIn_app (goodIn_of _ (by decide +kernel)) ggL_law_X6_keep
set_option maxRecDepth 20000 in
theorem ggL_law_X5_again : GoodIn wsL_law wsX5_again := goodIn_r _ [745, 18, 33, 16, 38, 686, 475, 328, 329, 32, 330, 62, 331, 203, 204, 205, 63, 64, 210, 211, 212, 213, 214, 37, 215, 216, 217, 763, 764, 765, 766, 767, 768, 769, 770, 771, 772, 773, 774, 775, 776, 777, 820, 821, 822, 823, 824, 825, 826, 827, 828] (by decide +kernel) (by decide +kernel)
set_option maxRecDepth 20000 in
theorem gL_law_X5_again : GoodIn wsL_law (wsV RL 128 RX5 yX5_again wsX5_again) := goodIn_app (goodIn_of _ (by decide +kernel)) ggL_law_X5_again
set_option maxRecDepth 20000 in
theorem ggL_law_X6_again : GoodIn wsL_law wsX6_again := goodIn_r _ [749, 96, 87, 97, 225, 109, 110, 5, 111, 778, 779, 780, 781, 782, 783, 784, 785, 786, 787, 788, 789, 790, 791, 792, 793, 794, 795, 796, 797, 798, 799, 800, 801, 802, 803, 804, 805] (by decide +kernel) (by decide +kernel)
set_option maxRecDepth 20000 in
theorem gL_law_X6_again : GoodIn wsL_law (wsV RL 131 RX6 yX6_again wsX6_again) := goodIn_app (goodIn_of _ (by decide +kernel)) ggL_law_X6_again
set_option maxRecDepth 20000 in
theorem ggL_law_X5_count : GoodIn wsL_law wsX5_count := goodIn_r _ [753, 102, 26, 195, 196, 197, 33, 686, 578, 38, 462, 42, 596, 687, 248, 249, 25, 250, 136, 51, 754, 268, 269, 32, 270, 210, 553, 349, 350, 351, 134, 555, 353, 354, 355, 65, 258, 63, 243, 244, 245, 246, 211, 247, 251, 252, 253, 254, 255, 256, 64, 257, 242, 62, 259, 260, 261, 262, 263, 264, 265, 266, 135, 267, 271, 272, 273, 274, 763, 764, 765, 766, 767, 768, 769, 770, 771, 772, 773, 774, 775, 776, 777, 806, 807, 808, 809, 810, 811, 812, 813, 814, 820, 821, 822, 823, 824, 825, 826, 827, 828, 829, 830, 831, 832] (by decide +kernel) (by decide +kernel)
set_option maxRecDepth 20000 in
theorem gL_law_X5_count : GoodIn wsL_law (wsV RL 132 RX5 yX5_count wsX5_count) := goodIn_app (goodIn_of _ (by decide +kernel)) ggL_law_X5_count
set_option maxRecDepth 20000 in
theorem ggL_law_X6_count : GoodIn wsL_law wsX6_count := goodIn_r _ [758, 108, 222, 223, 224, 87, 225, 610, 291, 292, 293, 5, 294, 86, 299, 300, 301, 302, 379, 380, 381, 382, 759, 760, 761, 762, 287, 288, 289, 290, 295, 296, 297, 298, 85, 83, 84, 303, 304, 305, 778, 779, 780, 781, 782, 783, 784, 785, 786, 787, 788, 789, 790, 791, 792, 793, 794, 795, 796, 797, 798, 799, 800, 801, 802, 803, 804, 805] (by decide +kernel) (by decide +kernel)
set_option maxRecDepth 20000 in
theorem gL_law_X6_count : GoodIn wsL_law (wsV RL 135 RX6 yX6_count wsX6_count) := goodIn_app (goodIn_of _ (by decide +kernel)) ggL_law_X6_count
theorem dL_law_0 : decode cL_law 0 = .ok (.new 7, 3) := by decide +kernel
theorem dL_law_3 : decode cL_law 3 = .ok (.dup, 1) := by decide +kernel
theorem dL_law_4 : decode cL_law 4 = .ok (.invokespecial 9, 3) := by decide +kernel
theorem dL_law_7 : decode cL_law 7 = .ok (.astore_n 1, 1) := by decide +kernel
theorem dL_law_8 : decode cL_law 8 = .ok (.new 10, 3) := by decide +kernel
theorem dL_law_11 : decode cL_law 11 = .ok (.dup, 1) := by decide +kernel
theorem dL_law_12 : decode cL_law 12 = .ok (.invokespecial 12, 3) := by decide +kernel
theorem dL_law_15 : decode cL_law 15 = .ok (.astore_n 2, 1) := by decide +kernel
theorem dL_law_16 : decode cL_law 16 = .ok (.iconst 0, 1) := by decide +kernel
theorem dL_law_17 : decode cL_law 17 = .ok (.istore_n 3, 1) := by decide +kernel
theorem dL_law_18 : decode cL_law 18 = .ok (.iload_n 3, 1) := by decide +kernel
theorem dL_law_19 : decode cL_law 19 = .ok (.aload_n 0, 1) := by decide +kernel
theorem dL_law_20 : decode cL_law 20 = .ok (.arraylength, 1) := by decide +kernel
theorem dL_law_21 : decode cL_law 21 = .ok (.bipush 6, 2) := by decide +kernel
theorem dL_law_23 : decode cL_law 23 = .ok (.isub, 1) := by decide +kernel
theorem dL_law_24 : decode cL_law 24 = .ok (.if_icmp .gt 1009, 3) := by decide +kernel
theorem dL_law_27 : decode cL_law 27 = .ok (.aload_n 0, 1) := by decide +kernel
theorem dL_law_28 : decode cL_law 28 = .ok (.iload_n 3, 1) := by decide +kernel
theorem dL_law_29 : decode cL_law 29 = .ok (.iaload, 1) := by decide +kernel
theorem dL_law_30 : decode cL_law 30 = .ok (.bipush 31, 2) := by decide +kernel
theorem dL_law_32 : decode cL_law 32 = .ok (.iand, 1) := by decide +kernel
theorem dL_law_33 : decode cL_law 33 = .ok (.tableswitch 994 0 27 #[127, 150, 163, 176, 189, 222, 255, 268, 291, 314, 347, 370, 383, 416, 449, 502, 535, 598, 641, 654, 677, 726, 769, 848, 902, 925, 948, 971], 127) := by decide +kernel
theorem dL_law_160 : decode cL_law 160 = .ok (.aload_n 1, 1) := by decide +kernel
theorem dL_law_161 : decode cL_law 161 = .ok (.aload_n 0, 1) := by decide +kernel
theorem dL_law_162 : decode cL_law 162 = .ok (.iload_n 3, 1) := by decide +kernel
theorem dL_law_163 : decode cL_law 163 = .ok (.iconst 1, 1) := by decide +kernel
theorem dL_law_164 : decode cL_law 164 = .ok (.iadd, 1) := by decide +kernel
theorem dL_law_165 : decode cL_law 165 = .ok (.iaload, 1) := by decide +kernel
theorem dL_law_166 : decode cL_law 166 = .ok (.invokevirtual 13, 3) := by decide +kernel
theorem dL_law_169 : decode cL_law 169 = .ok (.aload_n 2, 1) := by decide +kernel
theorem dL_law_170 : decode cL_law 170 = .ok (.aload_n 0, 1) := by decide +kernel
theorem dL_law_171 : decode cL_law 171 = .ok (.iload_n 3, 1) := by decide +kernel
theorem dL_law_172 : decode cL_law 172 = .ok (.iconst 1, 1) := by decide +kernel
theorem dL_law_173 : decode cL_law 173 = .ok (.iadd, 1) := by decide +kernel
theorem dL_law_174 : decode cL_law 174 = .ok (.iaload, 1) := by decide +kernel
theorem dL_law_175 : decode cL_law 175 = .ok (.invokevirtual 17, 3) := by decide +kernel
theorem dL_law_178 : decode cL_law 178 = .ok (.if_icmp .eq 849, 3) := by decide +kernel
theorem dL_law_181 : decode cL_law 181 = .ok (.iconst 0, 1) := by decide +kernel
theorem dL_law_182 : decode cL_law 182 = .ok (.ireturn, 1) := by decide +kernel
theorem dL_law_183 : decode cL_law 183 = .ok (.aload_n 1, 1) := by decide +kernel
theorem dL_law_184 : decode cL_law 184 = .ok (.invokevirtual 18, 3) := by decide +kernel
theorem dL_law_187 : decode cL_law 187 = .ok (.aload_n 2, 1) := by decide +kernel
theorem dL_law_188 : decode cL_law 188 = .ok (.invokevirtual 22, 3) := by decide +kernel
theorem dL_law_191 : decode cL_law 191 = .ok (.if_icmp .eq 836, 3) := by decide +kernel
theorem dL_law_194 : decode cL_law 194 = .ok (.iconst 0, 1) := by decide +kernel
theorem dL_law_195 : decode cL_law 195 = .ok (.ireturn, 1) := by decide +kernel
theorem dL_law_196 : decode cL_law 196 = .ok (.aload_n 1, 1) := by decide +kernel
theorem dL_law_197 : decode cL_law 197 = .ok (.invokevirtual 23, 3) := by decide +kernel
theorem dL_law_200 : decode cL_law 200 = .ok (.aload_n 2, 1) := by decide +kernel
theorem dL_law_201 : decode cL_law 201 = .ok (.invokevirtual 26, 3) := by decide +kernel
theorem dL_law_204 : decode cL_law 204 = .ok (.if_icmp .eq 823, 3) := by decide +kernel
theorem dL_law_207 : decode cL_law 207 = .ok (.iconst 0, 1) := by decide +kernel
theorem dL_law_208 : decode cL_law 208 = .ok (.ireturn, 1) := by decide +kernel
theorem dL_law_209 : decode cL_law 209 = .ok (.aload_n 1, 1) := by decide +kernel
theorem dL_law_210 : decode cL_law 210 = .ok (.invokevirtual 27, 3) := by decide +kernel
theorem dL_law_213 : decode cL_law 213 = .ok (.aload_n 2, 1) := by decide +kernel
theorem dL_law_214 : decode cL_law 214 = .ok (.invokevirtual 30, 3) := by decide +kernel
theorem dL_law_217 : decode cL_law 217 = .ok (.if_icmp .eq 810, 3) := by decide +kernel
theorem dL_law_220 : decode cL_law 220 = .ok (.iconst 0, 1) := by decide +kernel
theorem dL_law_221 : decode cL_law 221 = .ok (.ireturn, 1) := by decide +kernel
theorem dL_law_222 : decode cL_law 222 = .ok (.aload_n 1, 1) := by decide +kernel
theorem dL_law_223 : decode cL_law 223 = .ok (.aload_n 0, 1) := by decide +kernel
theorem dL_law_224 : decode cL_law 224 = .ok (.iload_n 3, 1) := by decide +kernel
theorem dL_law_225 : decode cL_law 225 = .ok (.iconst 1, 1) := by decide +kernel
theorem dL_law_226 : decode cL_law 226 = .ok (.iadd, 1) := by decide +kernel
theorem dL_law_227 : decode cL_law 227 = .ok (.iaload, 1) := by decide +kernel
theorem dL_law_228 : decode cL_law 228 = .ok (.aload_n 0, 1) := by decide +kernel
theorem dL_law_229 : decode cL_law 229 = .ok (.iload_n 3, 1) := by decide +kernel
theorem dL_law_230 : decode cL_law 230 = .ok (.iconst 2, 1) := by decide +kernel
theorem dL_law_231 : decode cL_law 231 = .ok (.iadd, 1) := by decide +kernel
theorem dL_law_232 : decode cL_law 232 = .ok (.iaload, 1) := by decide +kernel
theorem dL_law_233 : decode cL_law 233 = .ok (.invokevirtual 31, 3) := by decide +kernel
theorem dL_law_236 : decode cL_law 236 = .ok (.aload_n 2, 1) := by decide +kernel
theorem dL_law_237 : decode cL_law 237 = .ok (.aload_n 0, 1) := by decide +kernel
theorem dL_law_238 : decode cL_law 238 = .ok (.iload_n 3, 1) := by decide +kernel
theorem dL_law_239 : decode cL_law 239 = .ok (.iconst 1, 1) := by decide +kernel
theorem dL_law_240 : decode cL_law 240 = .ok (.iadd, 1) := by decide +kernel
theorem dL_law_241 : decode cL_law 241 = .ok (.iaload, 1) := by decide +kernel
theorem dL_law_242 : decode cL_law 242 = .ok (.aload_n 0, 1) := by decide +kernel
theorem dL_law_243 : decode cL_law 243 = .ok (.iload_n 3, 1) := by decide +kernel
theorem dL_law_244 : decode cL_law 244 = .ok (.iconst 2, 1) := by decide +kernel
theorem dL_law_245 : decode cL_law 245 = .ok (.iadd, 1) := by decide +kernel
theorem dL_law_246 : decode cL_law 246 = .ok (.iaload, 1) := by decide +kernel
theorem dL_law_247 : decode cL_law 247 = .ok (.invokevirtual 35, 3) := by decide +kernel
theorem dL_law_250 : decode cL_law 250 = .ok (.if_icmp .eq 777, 3) := by decide +kernel
theorem dL_law_253 : decode cL_law 253 = .ok (.iconst 0, 1) := by decide +kernel
theorem dL_law_254 : decode cL_law 254 = .ok (.ireturn, 1) := by decide +kernel
theorem dL_law_255 : decode cL_law 255 = .ok (.aload_n 1, 1) := by decide +kernel
theorem dL_law_256 : decode cL_law 256 = .ok (.aload_n 0, 1) := by decide +kernel
theorem dL_law_257 : decode cL_law 257 = .ok (.iload_n 3, 1) := by decide +kernel
theorem dL_law_258 : decode cL_law 258 = .ok (.iconst 1, 1) := by decide +kernel
theorem dL_law_259 : decode cL_law 259 = .ok (.iadd, 1) := by decide +kernel
theorem dL_law_260 : decode cL_law 260 = .ok (.iaload, 1) := by decide +kernel
theorem dL_law_261 : decode cL_law 261 = .ok (.aload_n 0, 1) := by decide +kernel
theorem dL_law_262 : decode cL_law 262 = .ok (.iload_n 3, 1) := by decide +kernel
theorem dL_law_263 : decode cL_law 263 = .ok (.iconst 2, 1) := by decide +kernel
theorem dL_law_264 : decode cL_law 264 = .ok (.iadd, 1) := by decide +kernel
theorem dL_law_265 : decode cL_law 265 = .ok (.iaload, 1) := by decide +kernel
theorem dL_law_266 : decode cL_law 266 = .ok (.invokevirtual 36, 3) := by decide +kernel
theorem dL_law_269 : decode cL_law 269 = .ok (.aload_n 2, 1) := by decide +kernel
theorem dL_law_270 : decode cL_law 270 = .ok (.aload_n 0, 1) := by decide +kernel
theorem dL_law_271 : decode cL_law 271 = .ok (.iload_n 3, 1) := by decide +kernel
theorem dL_law_272 : decode cL_law 272 = .ok (.iconst 1, 1) := by decide +kernel
theorem dL_law_273 : decode cL_law 273 = .ok (.iadd, 1) := by decide +kernel
theorem dL_law_274 : decode cL_law 274 = .ok (.iaload, 1) := by decide +kernel
theorem dL_law_275 : decode cL_law 275 = .ok (.aload_n 0, 1) := by decide +kernel
theorem dL_law_276 : decode cL_law 276 = .ok (.iload_n 3, 1) := by decide +kernel
theorem dL_law_277 : decode cL_law 277 = .ok (.iconst 2, 1) := by decide +kernel
theorem dL_law_278 : decode cL_law 278 = .ok (.iadd, 1) := by decide +kernel
theorem dL_law_279 : decode cL_law 279 = .ok (.iaload, 1) := by decide +kernel
theorem dL_law_280 : decode cL_law 280 = .ok (.invokevirtual 39, 3) := by decide +kernel
theorem dL_law_283 : decode cL_law 283 = .ok (.if_icmp .eq 744, 3) := by decide +kernel
theorem dL_law_286 : decode cL_law 286 = .ok (.iconst 0, 1) := by decide +kernel
theorem dL_law_287 : decode cL_law 287 = .ok (.ireturn, 1) := by decide +kernel
theorem dL_law_288 : decode cL_law 288 = .ok (.aload_n 1, 1) := by decide +kernel
theorem dL_law_289 : decode cL_law 289 = .ok (.invokevirtual 40, 3) := by decide +kernel
theorem dL_law_292 : decode cL_law 292 = .ok (.aload_n 2, 1) := by decide +kernel
theorem dL_law_293 : decode cL_law 293 = .ok (.invokevirtual 43, 3) := by decide +kernel
theorem dL_law_296 : decode cL_law 296 = .ok (.if_icmp .eq 731, 3) := by decide +kernel
theorem dL_law_299 : decode cL_law 299 = .ok (.iconst 0, 1) := by decide +kernel
theorem dL_law_300 : decode cL_law 300 = .ok (.ireturn, 1) := by decide +kernel
theorem dL_law_301 : decode cL_law 301 = .ok (.aload_n 1, 1) := by decide +kernel
theorem dL_law_302 : decode cL_law 302 = .ok (.aload_n 0, 1) := by decide +kernel
theorem dL_law_303 : decode cL_law 303 = .ok (.iload_n 3, 1) := by decide +kernel
theorem dL_law_304 : decode cL_law 304 = .ok (.iconst 1, 1) := by decide +kernel
theorem dL_law_305 : decode cL_law 305 = .ok (.iadd, 1) := by decide +kernel
theorem dL_law_306 : decode cL_law 306 = .ok (.iaload, 1) := by decide +kernel
theorem dL_law_307 : decode cL_law 307 = .ok (.invokevirtual 44, 3) := by decide +kernel
theorem dL_law_310 : decode cL_law 310 = .ok (.aload_n 2, 1) := by decide +kernel
theorem dL_law_311 : decode cL_law 311 = .ok (.aload_n 0, 1) := by decide +kernel
theorem dL_law_312 : decode cL_law 312 = .ok (.iload_n 3, 1) := by decide +kernel
theorem dL_law_313 : decode cL_law 313 = .ok (.iconst 1, 1) := by decide +kernel
theorem dL_law_314 : decode cL_law 314 = .ok (.iadd, 1) := by decide +kernel
theorem dL_law_315 : decode cL_law 315 = .ok (.iaload, 1) := by decide +kernel
theorem dL_law_316 : decode cL_law 316 = .ok (.invokevirtual 47, 3) := by decide +kernel
theorem dL_law_319 : decode cL_law 319 = .ok (.if_icmp .eq 708, 3) := by decide +kernel
theorem dL_law_322 : decode cL_law 322 = .ok (.iconst 0, 1) := by decide +kernel
theorem dL_law_323 : decode cL_law 323 = .ok (.ireturn, 1) := by decide +kernel
theorem dL_law_324 : decode cL_law 324 = .ok (.aload_n 1, 1) := by decide +kernel
theorem dL_law_325 : decode cL_law 325 = .ok (.aload_n 0, 1) := by decide +kernel
theorem dL_law_326 : decode cL_law 326 = .ok (.iload_n 3, 1) := by decide +kernel
theorem dL_law_327 : decode cL_law 327 = .ok (.iconst 1, 1) := by decide +kernel
theorem dL_law_328 : decode cL_law 328 = .ok (.iadd, 1) := by decide +kernel
theorem dL_law_329 : decode cL_law 329 = .ok (.iaload, 1) := by decide +kernel
theorem dL_law_330 : decode cL_law 330 = .ok (.invokevirtual 48, 3) := by decide +kernel
theorem dL_law_333 : decode cL_law 333 = .ok (.aload_n 2, 1) := by decide +kernel
theorem dL_law_334 : decode cL_law 334 = .ok (.aload_n 0, 1) := by decide +kernel
theorem dL_law_335 : decode cL_law 335 = .ok (.iload_n 3, 1) := by decide +kernel
theorem dL_law_336 : decode cL_law 336 = .ok (.iconst 1, 1) := by decide +kernel
theorem dL_law_337 : decode cL_law 337 = .ok (.iadd, 1) := by decide +kernel
theorem dL_law_338 : decode cL_law 338 = .ok (.iaload, 1) := by decide +kernel
theorem dL_law_339 : decode cL_law 339 = .ok (.invokevirtual 51, 3) := by decide +kernel
theorem dL_law_342 : decode cL_law 342 = .ok (.if_icmp .eq 685, 3) := by decide +kernel
theorem dL_law_345 : decode cL_law 345 = .ok (.iconst 0, 1) := by decide +kernel
theorem dL_law_346 : decode cL_law 346 = .ok (.ireturn, 1) := by decide +kernel
theorem dL_law_347 : decode cL_law 347 = .ok (.aload_n 1, 1) := by decide +kernel
theorem dL_law_348 : decode cL_law 348 = .ok (.aload_n 0, 1) := by decide +kernel
theorem dL_law_349 : decode cL_law 349 = .ok (.iload_n 3, 1) := by decide +kernel
theorem dL_law_350 : decode cL_law 350 = .ok (.iconst 1, 1) := by decide +kernel
theorem dL_law_351 : decode cL_law 351 = .ok (.iadd, 1) := by decide +kernel
theorem dL_law_352 : decode cL_law 352 = .ok (.iaload, 1) := by decide +kernel
theorem dL_law_353 : decode cL_law 353 = .ok (.aload_n 0, 1) := by decide +kernel
theorem dL_law_354 : decode cL_law 354 = .ok (.iload_n 3, 1) := by decide +kernel
theorem dL_law_355 : decode cL_law 355 = .ok (.iconst 2, 1) := by decide +kernel
theorem dL_law_356 : decode cL_law 356 = .ok (.iadd, 1) := by decide +kernel
theorem dL_law_357 : decode cL_law 357 = .ok (.iaload, 1) := by decide +kernel
theorem dL_law_358 : decode cL_law 358 = .ok (.invokevirtual 52, 3) := by decide +kernel
theorem dL_law_361 : decode cL_law 361 = .ok (.aload_n 2, 1) := by decide +kernel
theorem dL_law_362 : decode cL_law 362 = .ok (.aload_n 0, 1) := by decide +kernel
theorem dL_law_363 : decode cL_law 363 = .ok (.iload_n 3, 1) := by decide +kernel
theorem dL_law_364 : decode cL_law 364 = .ok (.iconst 1, 1) := by decide +kernel
theorem dL_law_365 : decode cL_law 365 = .ok (.iadd, 1) := by decide +kernel
theorem dL_law_366 : decode cL_law 366 = .ok (.iaload, 1) := by decide +kernel
theorem dL_law_367 : decode cL_law 367 = .ok (.aload_n 0, 1) := by decide +kernel
theorem dL_law_368 : decode cL_law 368 = .ok (.iload_n 3, 1) := by decide +kernel
theorem dL_law_369 : decode cL_law 369 = .ok (.iconst 2, 1) := by decide +kernel
theorem dL_law_370 : decode cL_law 370 = .ok (.iadd, 1) := by decide +kernel
theorem dL_law_371 : decode cL_law 371 = .ok (.iaload, 1) := by decide +kernel
theorem dL_law_372 : decode cL_law 372 = .ok (.invokevirtual 55, 3) := by decide +kernel
theorem dL_law_375 : decode cL_law 375 = .ok (.if_icmp .eq 652, 3) := by decide +kernel
theorem dL_law_378 : decode cL_law 378 = .ok (.iconst 0, 1) := by decide +kernel
theorem dL_law_379 : decode cL_law 379 = .ok (.ireturn, 1) := by decide +kernel
theorem dL_law_380 : decode cL_law 380 = .ok (.aload_n 1, 1) := by decide +kernel
theorem dL_law_381 : decode cL_law 381 = .ok (.aload_n 0, 1) := by decide +kernel
theorem dL_law_382 : decode cL_law 382 = .ok (.iload_n 3, 1) := by decide +kernel
theorem dL_law_383 : decode cL_law 383 = .ok (.iconst 1, 1) := by decide +kernel
theorem dL_law_384 : decode cL_law 384 = .ok (.iadd, 1) := by decide +kernel
theorem dL_law_385 : decode cL_law 385 = .ok (.iaload, 1) := by decide +kernel
theorem dL_law_386 : decode cL_law 386 = .ok (.invokevirtual 56, 3) := by decide +kernel
theorem dL_law_389 : decode cL_law 389 = .ok (.aload_n 2, 1) := by decide +kernel
theorem dL_law_390 : decode cL_law 390 = .ok (.aload_n 0, 1) := by decide +kernel
theorem dL_law_391 : decode cL_law 391 = .ok (.iload_n 3, 1) := by decide +kernel
theorem dL_law_392 : decode cL_law 392 = .ok (.iconst 1, 1) := by decide +kernel
theorem dL_law_393 : decode cL_law 393 = .ok (.iadd, 1) := by decide +kernel
theorem dL_law_394 : decode cL_law 394 = .ok (.iaload, 1) := by decide +kernel
theorem dL_law_395 : decode cL_law 395 = .ok (.invokevirtual 59, 3) := by decide +kernel
theorem dL_law_398 : decode cL_law 398 = .ok (.if_icmp .eq 629, 3) := by decide +kernel
theorem dL_law_401 : decode cL_law 401 = .ok (.iconst 0, 1) := by decide +kernel
theorem dL_law_402 : decode cL_law 402 = .ok (.ireturn, 1) := by decide +kernel
theorem dL_law_403 : decode cL_law 403 = .ok (.aload_n 1, 1) := by decide +kernel
theorem dL_law_404 : decode cL_law 404 = .ok (.invokevirtual 60, 3) := by decide +kernel
theorem dL_law_407 : decode cL_law 407 = .ok (.aload_n 2, 1) := by decide +kernel
theorem dL_law_408 : decode cL_law 408 = .ok (.invokevirtual 63, 3) := by decide +kernel
theorem dL_law_411 : decode cL_law 411 = .ok (.if_icmp .eq 616, 3) := by decide +kernel
theorem dL_law_414 : decode cL_law 414 = .ok (.iconst 0, 1) := by decide +kernel
theorem dL_law_415 : decode cL_law 415 = .ok (.ireturn, 1) := by decide +kernel
theorem dL_law_416 : decode cL_law 416 = .ok (.aload_n 1, 1) := by decide +kernel
theorem dL_law_417 : decode cL_law 417 = .ok (.aload_n 0, 1) := by decide +kernel
theorem dL_law_418 : decode cL_law 418 = .ok (.iload_n 3, 1) := by decide +kernel
theorem dL_law_419 : decode cL_law 419 = .ok (.iconst 1, 1) := by decide +kernel
theorem dL_law_420 : decode cL_law 420 = .ok (.iadd, 1) := by decide +kernel
theorem dL_law_421 : decode cL_law 421 = .ok (.iaload, 1) := by decide +kernel
theorem dL_law_422 : decode cL_law 422 = .ok (.aload_n 0, 1) := by decide +kernel
theorem dL_law_423 : decode cL_law 423 = .ok (.iload_n 3, 1) := by decide +kernel
theorem dL_law_424 : decode cL_law 424 = .ok (.iconst 2, 1) := by decide +kernel
theorem dL_law_425 : decode cL_law 425 = .ok (.iadd, 1) := by decide +kernel
theorem dL_law_426 : decode cL_law 426 = .ok (.iaload, 1) := by decide +kernel
theorem dL_law_427 : decode cL_law 427 = .ok (.invokevirtual 64, 3) := by decide +kernel
theorem dL_law_430 : decode cL_law 430 = .ok (.aload_n 2, 1) := by decide +kernel
theorem dL_law_431 : decode cL_law 431 = .ok (.aload_n 0, 1) := by decide +kernel
theorem dL_law_432 : decode cL_law 432 = .ok (.iload_n 3, 1) := by decide +kernel
theorem dL_law_433 : decode cL_law 433 = .ok (.iconst 1, 1) := by decide +kernel
theorem dL_law_434 : decode cL_law 434 = .ok (.iadd, 1) := by decide +kernel
theorem dL_law_435 : decode cL_law 435 = .ok (.iaload, 1) := by decide +kernel
theorem dL_law_436 : decode cL_law 436 = .ok (.aload_n 0, 1) := by decide +kernel
theorem dL_law_437 : decode cL_law 437 = .ok (.iload_n 3, 1) := by decide +kernel
theorem dL_law_438 : decode cL_law 438 = .ok (.iconst 2, 1) := by decide +kernel
theorem dL_law_439 : decode cL_law 439 = .ok (.iadd, 1) := by decide +kernel
theorem dL_law_440 : decode cL_law 440 = .ok (.iaload, 1) := by decide +kernel
theorem dL_law_441 : decode cL_law 441 = .ok (.invokevirtual 67, 3) := by decide +kernel
theorem dL_law_444 : decode cL_law 444 = .ok (.if_icmp .eq 583, 3) := by decide +kernel
theorem dL_law_447 : decode cL_law 447 = .ok (.iconst 0, 1) := by decide +kernel
theorem dL_law_448 : decode cL_law 448 = .ok (.ireturn, 1) := by decide +kernel
theorem dL_law_449 : decode cL_law 449 = .ok (.aload_n 1, 1) := by decide +kernel
theorem dL_law_450 : decode cL_law 450 = .ok (.aload_n 0, 1) := by decide +kernel
theorem dL_law_451 : decode cL_law 451 = .ok (.iload_n 3, 1) := by decide +kernel
theorem dL_law_452 : decode cL_law 452 = .ok (.iconst 1, 1) := by decide +kernel
theorem dL_law_453 : decode cL_law 453 = .ok (.iadd, 1) := by decide +kernel
theorem dL_law_454 : decode cL_law 454 = .ok (.iaload, 1) := by decide +kernel
theorem dL_law_455 : decode cL_law 455 = .ok (.aload_n 0, 1) := by decide +kernel
theorem dL_law_456 : decode cL_law 456 = .ok (.iload_n 3, 1) := by decide +kernel
theorem dL_law_457 : decode cL_law 457 = .ok (.iconst 2, 1) := by decide +kernel
theorem dL_law_458 : decode cL_law 458 = .ok (.iadd, 1) := by decide +kernel
theorem dL_law_459 : decode cL_law 459 = .ok (.iaload, 1) := by decide +kernel
theorem dL_law_460 : decode cL_law 460 = .ok (.invokevirtual 68, 3) := by decide +kernel
theorem dL_law_463 : decode cL_law 463 = .ok (.aload_n 2, 1) := by decide +kernel
theorem dL_law_464 : decode cL_law 464 = .ok (.aload_n 0, 1) := by decide +kernel
theorem dL_law_465 : decode cL_law 465 = .ok (.iload_n 3, 1) := by decide +kernel
theorem dL_law_466 : decode cL_law 466 = .ok (.iconst 1, 1) := by decide +kernel
theorem dL_law_467 : decode cL_law 467 = .ok (.iadd, 1) := by decide +kernel
theorem dL_law_468 : decode cL_law 468 = .ok (.iaload, 1) := by decide +kernel
theorem dL_law_469 : decode cL_law 469 = .ok (.aload_n 0, 1) := by decide +kernel
theorem dL_law_470 : decode cL_law 470 = .ok (.iload_n 3, 1) := by decide +kernel
theorem dL_law_471 : decode cL_law 471 = .ok (.iconst 2, 1) := by decide +kernel
theorem dL_law_472 : decode cL_law 472 = .ok (.iadd, 1) := by decide +kernel
theorem dL_law_473 : decode cL_law 473 = .ok (.iaload, 1) := by decide +kernel
theorem dL_law_474 : decode cL_law 474 = .ok (.invokevirtual 71, 3) := by decide +kernel
theorem dL_law_477 : decode cL_law 477 = .ok (.if_icmp .eq 550, 3) := by decide +kernel
theorem dL_law_480 : decode cL_law 480 = .ok (.iconst 0, 1) := by decide +kernel
theorem dL_law_481 : decode cL_law 481 = .ok (.ireturn, 1) := by decide +kernel
theorem dL_law_482 : decode cL_law 482 = .ok (.aload_n 1, 1) := by decide +kernel
theorem dL_law_483 : decode cL_law 483 = .ok (.aload_n 0, 1) := by decide +kernel
theorem dL_law_484 : decode cL_law 484 = .ok (.iload_n 3, 1) := by decide +kernel
theorem dL_law_485 : decode cL_law 485 = .ok (.iconst 1, 1) := by decide +kernel
theorem dL_law_486 : decode cL_law 486 = .ok (.iadd, 1) := by decide +kernel
theorem dL_law_487 : decode cL_law 487 = .ok (.iaload, 1) := by decide +kernel
theorem dL_law_488 : decode cL_law 488 = .ok (.aload_n 0, 1) := by decide +kernel
theorem dL_law_489 : decode cL_law 489 = .ok (.iload_n 3, 1) := by decide +kernel
theorem dL_law_490 : decode cL_law 490 = .ok (.iconst 2, 1) := by decide +kernel
theorem dL_law_491 : decode cL_law 491 = .ok (.iadd, 1) := by decide +kernel
theorem dL_law_492 : decode cL_law 492 = .ok (.iaload, 1) := by decide +kernel
theorem dL_law_493 : decode cL_law 493 = .ok (.aload_n 0, 1) := by decide +kernel
theorem dL_law_494 : decode cL_law 494 = .ok (.iload_n 3, 1) := by decide +kernel
theorem dL_law_495 : decode cL_law 495 = .ok (.iconst 3, 1) := by decide +kernel
theorem dL_law_496 : decode cL_law 496 = .ok (.iadd, 1) := by decide +kernel
theorem dL_law_497 : decode cL_law 497 = .ok (.iaload, 1) := by decide +kernel
theorem dL_law_498 : decode cL_law 498 = .ok (.aload_n 0, 1) := by decide +kernel
theorem dL_law_499 : decode cL_law 499 = .ok (.iload_n 3, 1) := by decide +kernel
theorem dL_law_500 : decode cL_law 500 = .ok (.iconst 4, 1) := by decide +kernel
theorem dL_law_501 : decode cL_law 501 = .ok (.iadd, 1) := by decide +kernel
theorem dL_law_502 : decode cL_law 502 = .ok (.iaload, 1) := by decide +kernel
theorem dL_law_503 : decode cL_law 503 = .ok (.invokevirtual 72, 3) := by decide +kernel
theorem dL_law_506 : decode cL_law 506 = .ok (.aload_n 2, 1) := by decide +kernel
theorem dL_law_507 : decode cL_law 507 = .ok (.aload_n 0, 1) := by decide +kernel
theorem dL_law_508 : decode cL_law 508 = .ok (.iload_n 3, 1) := by decide +kernel
theorem dL_law_509 : decode cL_law 509 = .ok (.iconst 1, 1) := by decide +kernel
theorem dL_law_510 : decode cL_law 510 = .ok (.iadd, 1) := by decide +kernel
theorem dL_law_511 : decode cL_law 511 = .ok (.iaload, 1) := by decide +kernel
theorem dL_law_512 : decode cL_law 512 = .ok (.aload_n 0, 1) := by decide +kernel
theorem dL_law_513 : decode cL_law 513 = .ok (.iload_n 3, 1) := by decide +kernel
theorem dL_law_514 : decode cL_law 514 = .ok (.iconst 2, 1) := by decide +kernel
theorem dL_law_515 : decode cL_law 515 = .ok (.iadd, 1) := by decide +kernel
theorem dL_law_516 : decode cL_law 516 = .ok (.iaload, 1) := by decide +kernel
theorem dL_law_517 : decode cL_law 517 = .ok (.aload_n 0, 1) := by decide +kernel
theorem dL_law_518 : decode cL_law 518 = .ok (.iload_n 3, 1) := by decide +kernel
theorem dL_law_519 : decode cL_law 519 = .ok (.iconst 3, 1) := by decide +kernel
theorem dL_law_520 : decode cL_law 520 = .ok (.iadd, 1) := by decide +kernel
theorem dL_law_521 : decode cL_law 521 = .ok (.iaload, 1) := by decide +kernel
theorem dL_law_522 : decode cL_law 522 = .ok (.aload_n 0, 1) := by decide +kernel
theorem dL_law_523 : decode cL_law 523 = .ok (.iload_n 3, 1) := by decide +kernel
theorem dL_law_524 : decode cL_law 524 = .ok (.iconst 4, 1) := by decide +kernel
theorem dL_law_525 : decode cL_law 525 = .ok (.iadd, 1) := by decide +kernel
theorem dL_law_526 : decode cL_law 526 = .ok (.iaload, 1) := by decide +kernel
theorem dL_law_527 : decode cL_law 527 = .ok (.invokevirtual 76, 3) := by decide +kernel
theorem dL_law_530 : decode cL_law 530 = .ok (.if_icmp .eq 497, 3) := by decide +kernel
theorem dL_law_533 : decode cL_law 533 = .ok (.iconst 0, 1) := by decide +kernel
theorem dL_law_534 : decode cL_law 534 = .ok (.ireturn, 1) := by decide +kernel
theorem dL_law_535 : decode cL_law 535 = .ok (.aload_n 1, 1) := by decide +kernel
theorem dL_law_536 : decode cL_law 536 = .ok (.aload_n 0, 1) := by decide +kernel
theorem dL_law_537 : decode cL_law 537 = .ok (.iload_n 3, 1) := by decide +kernel
theorem dL_law_538 : decode cL_law 538 = .ok (.iconst 1, 1) := by decide +kernel
theorem dL_law_539 : decode cL_law 539 = .ok (.iadd, 1) := by decide +kernel
theorem dL_law_540 : decode cL_law 540 = .ok (.iaload, 1) := by decide +kernel
theorem dL_law_541 : decode cL_law 541 = .ok (.aload_n 0, 1) := by decide +kernel
theorem dL_law_542 : decode cL_law 542 = .ok (.iload_n 3, 1) := by decide +kernel
theorem dL_law_543 : decode cL_law 543 = .ok (.iconst 2, 1) := by decide +kernel
theorem dL_law_544 : decode cL_law 544 = .ok (.iadd, 1) := by decide +kernel
theorem dL_law_545 : decode cL_law 545 = .ok (.iaload, 1) := by decide +kernel
theorem dL_law_546 : decode cL_law 546 = .ok (.invokevirtual 77, 3) := by decide +kernel
theorem dL_law_549 : decode cL_law 549 = .ok (.aload_n 2, 1) := by decide +kernel
theorem dL_law_550 : decode cL_law 550 = .ok (.aload_n 0, 1) := by decide +kernel
theorem dL_law_551 : decode cL_law 551 = .ok (.iload_n 3, 1) := by decide +kernel
theorem dL_law_552 : decode cL_law 552 = .ok (.iconst 1, 1) := by decide +kernel
theorem dL_law_553 : decode cL_law 553 = .ok (.iadd, 1) := by decide +kernel
theorem dL_law_554 : decode cL_law 554 = .ok (.iaload, 1) := by decide +kernel
theorem dL_law_555 : decode cL_law 555 = .ok (.aload_n 0, 1) := by decide +kernel
theorem dL_law_556 : decode cL_law 556 = .ok (.iload_n 3, 1) := by decide +kernel
theorem dL_law_557 : decode cL_law 557 = .ok (.iconst 2, 1) := by decide +kernel
theorem dL_law_558 : decode cL_law 558 = .ok (.iadd, 1) := by decide +kernel
theorem dL_law_559 : decode cL_law 559 = .ok (.iaload, 1) := by decide +kernel
theorem dL_law_560 : decode cL_law 560 = .ok (.invokevirtual 80, 3) := by decide +kernel
theorem dL_law_563 : decode cL_law 563 = .ok (.if_icmp .eq 464, 3) := by decide +kernel
theorem dL_law_566 : decode cL_law 566 = .ok (.iconst 0, 1) := by decide +kernel
theorem dL_law_567 : decode cL_law 567 = .ok (.ireturn, 1) := by decide +kernel
theorem dL_law_568 : decode cL_law 568 = .ok (.aload_n 1, 1) := by decide +kernel
theorem dL_law_569 : decode cL_law 569 = .ok (.aload_n 0, 1) := by decide +kernel
theorem dL_law_570 : decode cL_law 570 = .ok (.iload_n 3, 1) := by decide +kernel
theorem dL_law_571 : decode cL_law 571 = .ok (.iconst 1, 1) := by decide +kernel
theorem dL_law_572 : decode cL_law 572 = .ok (.iadd, 1) := by decide +kernel
theorem dL_law_573 : decode cL_law 573 = .ok (.iaload, 1) := by decide +kernel
theorem dL_law_574 : decode cL_law 574 = .ok (.aload_n 0, 1) := by decide +kernel
theorem dL_law_575 : decode cL_law 575 = .ok (.iload_n 3, 1) := by decide +kernel
theorem dL_law_576 : decode cL_law 576 = .ok (.iconst 2, 1) := by decide +kernel
theorem dL_law_577 : decode cL_law 577 = .ok (.iadd, 1) := by decide +kernel
theorem dL_law_578 : decode cL_law 578 = .ok (.iaload, 1) := by decide +kernel
theorem dL_law_579 : decode cL_law 579 = .ok (.i2l, 1) := by decide +kernel
theorem dL_law_580 : decode cL_law 580 = .ok (.bipush 32, 2) := by decide +kernel
theorem dL_law_582 : decode cL_law 582 = .ok (.lshl, 1) := by decide +kernel
theorem dL_law_583 : decode cL_law 583 = .ok (.aload_n 0, 1) := by decide +kernel
theorem dL_law_584 : decode cL_law 584 = .ok (.iload_n 3, 1) := by decide +kernel
theorem dL_law_585 : decode cL_law 585 = .ok (.iconst 3, 1) := by decide +kernel
theorem dL_law_586 : decode cL_law 586 = .ok (.iadd, 1) := by decide +kernel
theorem dL_law_587 : decode cL_law 587 = .ok (.iaload, 1) := by decide +kernel
theorem dL_law_588 : decode cL_law 588 = .ok (.i2l, 1) := by decide +kernel
theorem dL_law_589 : decode cL_law 589 = .ok (.ldc2_w 81, 3) := by decide +kernel
theorem dL_law_592 : decode cL_law 592 = .ok (.land, 1) := by decide +kernel
theorem dL_law_593 : decode cL_law 593 = .ok (.lor, 1) := by decide +kernel
theorem dL_law_594 : decode cL_law 594 = .ok (.invokevirtual 83, 3) := by decide +kernel
theorem dL_law_597 : decode cL_law 597 = .ok (.aload_n 2, 1) := by decide +kernel
theorem dL_law_598 : decode cL_law 598 = .ok (.aload_n 0, 1) := by decide +kernel
theorem dL_law_599 : decode cL_law 599 = .ok (.iload_n 3, 1) := by decide +kernel
theorem dL_law_600 : decode cL_law 600 = .ok (.iconst 1, 1) := by decide +kernel
theorem dL_law_601 : decode cL_law 601 = .ok (.iadd, 1) := by decide +kernel
theorem dL_law_602 : decode cL_law 602 = .ok (.iaload, 1) := by decide +kernel
theorem dL_law_603 : decode cL_law 603 = .ok (.aload_n 0, 1) := by decide +kernel
theorem dL_law_604 : decode cL_law 604 = .ok (.iload_n 3, 1) := by decide +kernel
theorem dL_law_605 : decode cL_law 605 = .ok (.iconst 2, 1) := by decide +kernel
theorem dL_law_606 : decode cL_law 606 = .ok (.iadd, 1) := by decide +kernel
theorem dL_law_607 : decode cL_law 607 = .ok (.iaload, 1) := by decide +kernel
theorem dL_law_608 : decode cL_law 608 = .ok (.i2l, 1) := by decide +kernel
theorem dL_law_609 : decode cL_law 609 = .ok (.bipush 32, 2) := by decide +kernel
theorem dL_law_611 : decode cL_law 611 = .ok (.lshl, 1) := by decide +kernel
theorem dL_law_612 : decode cL_law 612 = .ok (.aload_n 0, 1) := by decide +kernel
theorem dL_law_613 : decode cL_law 613 = .ok (.iload_n 3, 1) := by decide +kernel
theorem dL_law_614 : decode cL_law 614 = .ok (.iconst 3, 1) := by decide +kernel
theorem dL_law_615 : decode cL_law 615 = .ok (.iadd, 1) := by decide +kernel
theorem dL_law_616 : decode cL_law 616 = .ok (.iaload, 1) := by decide +kernel
theorem dL_law_617 : decode cL_law 617 = .ok (.i2l, 1) := by decide +kernel
theorem dL_law_618 : decode cL_law 618 = .ok (.ldc2_w 81, 3) := by decide +kernel
theorem dL_law_621 : decode cL_law 621 = .ok (.land, 1) := by decide +kernel
theorem dL_law_622 : decode cL_law 622 = .ok (.lor, 1) := by decide +kernel
theorem dL_law_623 : decode cL_law 623 = .ok (.invokevirtual 87, 3) := by decide +kernel
theorem dL_law_626 : decode cL_law 626 = .ok (.if_icmp .eq 401, 3) := by decide +kernel
theorem dL_law_629 : decode cL_law 629 = .ok (.iconst 0, 1) := by decide +kernel
theorem dL_law_630 : decode cL_law 630 = .ok (.ireturn, 1) := by decide +kernel
theorem dL_law_631 : decode cL_law 631 = .ok (.aload_n 1, 1) := by decide +kernel
theorem dL_law_632 : decode cL_law 632 = .ok (.aload_n 0, 1) := by decide +kernel
theorem dL_law_633 : decode cL_law 633 = .ok (.iload_n 3, 1) := by decide +kernel
theorem dL_law_634 : decode cL_law 634 = .ok (.iconst 1, 1) := by decide +kernel
theorem dL_law_635 : decode cL_law 635 = .ok (.iadd, 1) := by decide +kernel
theorem dL_law_636 : decode cL_law 636 = .ok (.iaload, 1) := by decide +kernel
theorem dL_law_637 : decode cL_law 637 = .ok (.aload_n 0, 1) := by decide +kernel
theorem dL_law_638 : decode cL_law 638 = .ok (.iload_n 3, 1) := by decide +kernel
theorem dL_law_639 : decode cL_law 639 = .ok (.iconst 2, 1) := by decide +kernel
theorem dL_law_640 : decode cL_law 640 = .ok (.iadd, 1) := by decide +kernel
theorem dL_law_641 : decode cL_law 641 = .ok (.iaload, 1) := by decide +kernel
theorem dL_law_642 : decode cL_law 642 = .ok (.aload_n 0, 1) := by decide +kernel
theorem dL_law_643 : decode cL_law 643 = .ok (.iload_n 3, 1) := by decide +kernel
theorem dL_law_644 : decode cL_law 644 = .ok (.iconst 3, 1) := by decide +kernel
theorem dL_law_645 : decode cL_law 645 = .ok (.iadd, 1) := by decide +kernel
theorem dL_law_646 : decode cL_law 646 = .ok (.iaload, 1) := by decide +kernel
theorem dL_law_647 : decode cL_law 647 = .ok (.invokevirtual 88, 3) := by decide +kernel
theorem dL_law_650 : decode cL_law 650 = .ok (.aload_n 2, 1) := by decide +kernel
theorem dL_law_651 : decode cL_law 651 = .ok (.aload_n 0, 1) := by decide +kernel
theorem dL_law_652 : decode cL_law 652 = .ok (.iload_n 3, 1) := by decide +kernel
theorem dL_law_653 : decode cL_law 653 = .ok (.iconst 1, 1) := by decide +kernel
theorem dL_law_654 : decode cL_law 654 = .ok (.iadd, 1) := by decide +kernel
theorem dL_law_655 : decode cL_law 655 = .ok (.iaload, 1) := by decide +kernel
theorem dL_law_656 : decode cL_law 656 = .ok (.aload_n 0, 1) := by decide +kernel
theorem dL_law_657 : decode cL_law 657 = .ok (.iload_n 3, 1) := by decide +kernel
theorem dL_law_658 : decode cL_law 658 = .ok (.iconst 2, 1) := by decide +kernel
theorem dL_law_659 : decode cL_law 659 = .ok (.iadd, 1) := by decide +kernel
theorem dL_law_660 : decode cL_law 660 = .ok (.iaload, 1) := by decide +kernel
theorem dL_law_661 : decode cL_law 661 = .ok (.aload_n 0, 1) := by decide +kernel
theorem dL_law_662 : decode cL_law 662 = .ok (.iload_n 3, 1) := by decide +kernel
theorem dL_law_663 : decode cL_law 663 = .ok (.iconst 3, 1) := by decide +kernel
theorem dL_law_664 : decode cL_law 664 = .ok (.iadd, 1) := by decide +kernel
theorem dL_law_665 : decode cL_law 665 = .ok (.iaload, 1) := by decide +kernel
theorem dL_law_666 : decode cL_law 666 = .ok (.invokevirtual 92, 3) := by decide +kernel
theorem dL_law_669 : decode cL_law 669 = .ok (.if_icmp .eq 358, 3) := by decide +kernel
theorem dL_law_672 : decode cL_law 672 = .ok (.iconst 0, 1) := by decide +kernel
theorem dL_law_673 : decode cL_law 673 = .ok (.ireturn, 1) := by decide +kernel
theorem dL_law_674 : decode cL_law 674 = .ok (.aload_n 1, 1) := by decide +kernel
theorem dL_law_675 : decode cL_law 675 = .ok (.invokevirtual 93, 3) := by decide +kernel
theorem dL_law_678 : decode cL_law 678 = .ok (.aload_n 2, 1) := by decide +kernel
theorem dL_law_679 : decode cL_law 679 = .ok (.invokevirtual 96, 3) := by decide +kernel
theorem dL_law_682 : decode cL_law 682 = .ok (.if_icmp .eq 345, 3) := by decide +kernel
theorem dL_law_685 : decode cL_law 685 = .ok (.iconst 0, 1) := by decide +kernel
theorem dL_law_686 : decode cL_law 686 = .ok (.ireturn, 1) := by decide +kernel
theorem dL_law_687 : decode cL_law 687 = .ok (.aload_n 1, 1) := by decide +kernel
theorem dL_law_688 : decode cL_law 688 = .ok (.aload_n 0, 1) := by decide +kernel
theorem dL_law_689 : decode cL_law 689 = .ok (.iload_n 3, 1) := by decide +kernel
theorem dL_law_690 : decode cL_law 690 = .ok (.iconst 1, 1) := by decide +kernel
theorem dL_law_691 : decode cL_law 691 = .ok (.iadd, 1) := by decide +kernel
theorem dL_law_692 : decode cL_law 692 = .ok (.iaload, 1) := by decide +kernel
theorem dL_law_693 : decode cL_law 693 = .ok (.invokevirtual 97, 3) := by decide +kernel
theorem dL_law_696 : decode cL_law 696 = .ok (.aload_n 2, 1) := by decide +kernel
theorem dL_law_697 : decode cL_law 697 = .ok (.aload_n 0, 1) := by decide +kernel
theorem dL_law_698 : decode cL_law 698 = .ok (.iload_n 3, 1) := by decide +kernel
theorem dL_law_699 : decode cL_law 699 = .ok (.iconst 1, 1) := by decide +kernel
theorem dL_law_700 : decode cL_law 700 = .ok (.iadd, 1) := by decide +kernel
theorem dL_law_701 : decode cL_law 701 = .ok (.iaload, 1) := by decide +kernel
theorem dL_law_702 : decode cL_law 702 = .ok (.invokevirtual 100, 3) := by decide +kernel
theorem dL_law_705 : decode cL_law 705 = .ok (.if_icmp .eq 322, 3) := by decide +kernel
theorem dL_law_708 : decode cL_law 708 = .ok (.iconst 0, 1) := by decide +kernel
theorem dL_law_709 : decode cL_law 709 = .ok (.ireturn, 1) := by decide +kernel
theorem dL_law_710 : decode cL_law 710 = .ok (.aload_n 1, 1) := by decide +kernel
theorem dL_law_711 : decode cL_law 711 = .ok (.aload_n 0, 1) := by decide +kernel
theorem dL_law_712 : decode cL_law 712 = .ok (.iload_n 3, 1) := by decide +kernel
theorem dL_law_713 : decode cL_law 713 = .ok (.iconst 1, 1) := by decide +kernel
theorem dL_law_714 : decode cL_law 714 = .ok (.iadd, 1) := by decide +kernel
theorem dL_law_715 : decode cL_law 715 = .ok (.iaload, 1) := by decide +kernel
theorem dL_law_716 : decode cL_law 716 = .ok (.aload_n 0, 1) := by decide +kernel
theorem dL_law_717 : decode cL_law 717 = .ok (.iload_n 3, 1) := by decide +kernel
theorem dL_law_718 : decode cL_law 718 = .ok (.iconst 2, 1) := by decide +kernel
theorem dL_law_719 : decode cL_law 719 = .ok (.iadd, 1) := by decide +kernel
theorem dL_law_720 : decode cL_law 720 = .ok (.iaload, 1) := by decide +kernel
theorem dL_law_721 : decode cL_law 721 = .ok (.ifCond .eq 7, 3) := by decide +kernel
theorem dL_law_724 : decode cL_law 724 = .ok (.iconst 1, 1) := by decide +kernel
theorem dL_law_725 : decode cL_law 725 = .ok (.goto 4, 3) := by decide +kernel
theorem dL_law_728 : decode cL_law 728 = .ok (.iconst 0, 1) := by decide +kernel
theorem dL_law_729 : decode cL_law 729 = .ok (.invokevirtual 101, 3) := by decide +kernel
theorem dL_law_732 : decode cL_law 732 = .ok (.aload_n 2, 1) := by decide +kernel
theorem dL_law_733 : decode cL_law 733 = .ok (.aload_n 0, 1) := by decide +kernel
theorem dL_law_734 : decode cL_law 734 = .ok (.iload_n 3, 1) := by decide +kernel
theorem dL_law_735 : decode cL_law 735 = .ok (.iconst 1, 1) := by decide +kernel
theorem dL_law_736 : decode cL_law 736 = .ok (.iadd, 1) := by decide +kernel
theorem dL_law_737 : decode cL_law 737 = .ok (.iaload, 1) := by decide +kernel
theorem dL_law_738 : decode cL_law 738 = .ok (.aload_n 0, 1) := by decide +kernel
theorem dL_law_739 : decode cL_law 739 = .ok (.iload_n 3, 1) := by decide +kernel
theorem dL_law_740 : decode cL_law 740 = .ok (.iconst 2, 1) := by decide +kernel
theorem dL_law_741 : decode cL_law 741 = .ok (.iadd, 1) := by decide +kernel
theorem dL_law_742 : decode cL_law 742 = .ok (.iaload, 1) := by decide +kernel
theorem dL_law_743 : decode cL_law 743 = .ok (.ifCond .eq 7, 3) := by decide +kernel
theorem dL_law_746 : decode cL_law 746 = .ok (.iconst 1, 1) := by decide +kernel
theorem dL_law_747 : decode cL_law 747 = .ok (.goto 4, 3) := by decide +kernel
theorem dL_law_750 : decode cL_law 750 = .ok (.iconst 0, 1) := by decide +kernel
theorem dL_law_751 : decode cL_law 751 = .ok (.invokevirtual 105, 3) := by decide +kernel
theorem dL_law_754 : decode cL_law 754 = .ok (.if_icmp .eq 273, 3) := by decide +kernel
theorem dL_law_757 : decode cL_law 757 = .ok (.iconst 0, 1) := by decide +kernel
theorem dL_law_758 : decode cL_law 758 = .ok (.ireturn, 1) := by decide +kernel
theorem dL_law_759 : decode cL_law 759 = .ok (.aload_n 1, 1) := by decide +kernel
theorem dL_law_760 : decode cL_law 760 = .ok (.aload_n 0, 1) := by decide +kernel
theorem dL_law_761 : decode cL_law 761 = .ok (.iload_n 3, 1) := by decide +kernel
theorem dL_law_762 : decode cL_law 762 = .ok (.iconst 1, 1) := by decide +kernel
theorem dL_law_763 : decode cL_law 763 = .ok (.iadd, 1) := by decide +kernel
theorem dL_law_764 : decode cL_law 764 = .ok (.iaload, 1) := by decide +kernel
theorem dL_law_765 : decode cL_law 765 = .ok (.aload_n 0, 1) := by decide +kernel
theorem dL_law_766 : decode cL_law 766 = .ok (.iload_n 3, 1) := by decide +kernel
theorem dL_law_767 : decode cL_law 767 = .ok (.iconst 2, 1) := by decide +kernel
theorem dL_law_768 : decode cL_law 768 = .ok (.iadd, 1) := by decide +kernel
theorem dL_law_769 : decode cL_law 769 = .ok (.iaload, 1) := by decide +kernel
theorem dL_law_770 : decode cL_law 770 = .ok (.aload_n 0, 1) := by decide +kernel
theorem dL_law_771 : decode cL_law 771 = .ok (.iload_n 3, 1) := by decide +kernel
theorem dL_law_772 : decode cL_law 772 = .ok (.iconst 3, 1) := by decide +kernel
theorem dL_law_773 : decode cL_law 773 = .ok (.iadd, 1) := by decide +kernel
theorem dL_law_774 : decode cL_law 774 = .ok (.iaload, 1) := by decide +kernel
theorem dL_law_775 : decode cL_law 775 = .ok (.invokevirtual 106, 3) := by decide +kernel
theorem dL_law_778 : decode cL_law 778 = .ok (.aload_n 2, 1) := by decide +kernel
theorem dL_law_779 : decode cL_law 779 = .ok (.aload_n 0, 1) := by decide +kernel
theorem dL_law_780 : decode cL_law 780 = .ok (.iload_n 3, 1) := by decide +kernel
theorem dL_law_781 : decode cL_law 781 = .ok (.iconst 1, 1) := by decide +kernel
theorem dL_law_782 : decode cL_law 782 = .ok (.iadd, 1) := by decide +kernel
theorem dL_law_783 : decode cL_law 783 = .ok (.iaload, 1) := by decide +kernel
theorem dL_law_784 : decode cL_law 784 = .ok (.aload_n 0, 1) := by decide +kernel
theorem dL_law_785 : decode cL_law 785 = .ok (.iload_n 3, 1) := by decide +kernel
theorem dL_law_786 : decode cL_law 786 = .ok (.iconst 2, 1) := by decide +kernel
theorem dL_law_787 : decode cL_law 787 = .ok (.iadd, 1) := by decide +kernel
theorem dL_law_788 : decode cL_law 788 = .ok (.iaload, 1) := by decide +kernel
theorem dL_law_789 : decode cL_law 789 = .ok (.aload_n 0, 1) := by decide +kernel
theorem dL_law_790 : decode cL_law 790 = .ok (.iload_n 3, 1) := by decide +kernel
theorem dL_law_791 : decode cL_law 791 = .ok (.iconst 3, 1) := by decide +kernel
theorem dL_law_792 : decode cL_law 792 = .ok (.iadd, 1) := by decide +kernel
theorem dL_law_793 : decode cL_law 793 = .ok (.iaload, 1) := by decide +kernel
theorem dL_law_794 : decode cL_law 794 = .ok (.invokevirtual 109, 3) := by decide +kernel
theorem dL_law_797 : decode cL_law 797 = .ok (.if_icmp .eq 230, 3) := by decide +kernel
theorem dL_law_800 : decode cL_law 800 = .ok (.iconst 0, 1) := by decide +kernel
theorem dL_law_801 : decode cL_law 801 = .ok (.ireturn, 1) := by decide +kernel
theorem dL_law_802 : decode cL_law 802 = .ok (.aload_n 1, 1) := by decide +kernel
theorem dL_law_803 : decode cL_law 803 = .ok (.aload_n 0, 1) := by decide +kernel
theorem dL_law_804 : decode cL_law 804 = .ok (.iload_n 3, 1) := by decide +kernel
theorem dL_law_805 : decode cL_law 805 = .ok (.iconst 1, 1) := by decide +kernel
theorem dL_law_806 : decode cL_law 806 = .ok (.iadd, 1) := by decide +kernel
theorem dL_law_807 : decode cL_law 807 = .ok (.iaload, 1) := by decide +kernel
theorem dL_law_808 : decode cL_law 808 = .ok (.aload_n 0, 1) := by decide +kernel
theorem dL_law_809 : decode cL_law 809 = .ok (.iload_n 3, 1) := by decide +kernel
theorem dL_law_810 : decode cL_law 810 = .ok (.iconst 2, 1) := by decide +kernel
theorem dL_law_811 : decode cL_law 811 = .ok (.iadd, 1) := by decide +kernel
theorem dL_law_812 : decode cL_law 812 = .ok (.iaload, 1) := by decide +kernel
theorem dL_law_813 : decode cL_law 813 = .ok (.aload_n 0, 1) := by decide +kernel
theorem dL_law_814 : decode cL_law 814 = .ok (.iload_n 3, 1) := by decide +kernel
theorem dL_law_815 : decode cL_law 815 = .ok (.iconst 3, 1) := by decide +kernel
theorem dL_law_816 : decode cL_law 816 = .ok (.iadd, 1) := by decide +kernel
theorem dL_law_817 : decode cL_law 817 = .ok (.iaload, 1) := by decide +kernel
theorem dL_law_818 : decode cL_law 818 = .ok (.aload_n 0, 1) := by decide +kernel
theorem dL_law_819 : decode cL_law 819 = .ok (.iload_n 3, 1) := by decide +kernel
theorem dL_law_820 : decode cL_law 820 = .ok (.iconst 4, 1) := by decide +kernel
theorem dL_law_821 : decode cL_law 821 = .ok (.iadd, 1) := by decide +kernel
theorem dL_law_822 : decode cL_law 822 = .ok (.iaload, 1) := by decide +kernel
theorem dL_law_823 : decode cL_law 823 = .ok (.aload_n 0, 1) := by decide +kernel
theorem dL_law_824 : decode cL_law 824 = .ok (.iload_n 3, 1) := by decide +kernel
theorem dL_law_825 : decode cL_law 825 = .ok (.iconst 5, 1) := by decide +kernel
theorem dL_law_826 : decode cL_law 826 = .ok (.iadd, 1) := by decide +kernel
theorem dL_law_827 : decode cL_law 827 = .ok (.iaload, 1) := by decide +kernel
theorem dL_law_828 : decode cL_law 828 = .ok (.ifCond .eq 7, 3) := by decide +kernel
theorem dL_law_831 : decode cL_law 831 = .ok (.iconst 1, 1) := by decide +kernel
theorem dL_law_832 : decode cL_law 832 = .ok (.goto 4, 3) := by decide +kernel
theorem dL_law_835 : decode cL_law 835 = .ok (.iconst 0, 1) := by decide +kernel
theorem dL_law_836 : decode cL_law 836 = .ok (.invokevirtual 110, 3) := by decide +kernel
theorem dL_law_839 : decode cL_law 839 = .ok (.aload_n 2, 1) := by decide +kernel
theorem dL_law_840 : decode cL_law 840 = .ok (.aload_n 0, 1) := by decide +kernel
theorem dL_law_841 : decode cL_law 841 = .ok (.iload_n 3, 1) := by decide +kernel
theorem dL_law_842 : decode cL_law 842 = .ok (.iconst 1, 1) := by decide +kernel
theorem dL_law_843 : decode cL_law 843 = .ok (.iadd, 1) := by decide +kernel
theorem dL_law_844 : decode cL_law 844 = .ok (.iaload, 1) := by decide +kernel
theorem dL_law_845 : decode cL_law 845 = .ok (.aload_n 0, 1) := by decide +kernel
theorem dL_law_846 : decode cL_law 846 = .ok (.iload_n 3, 1) := by decide +kernel
theorem dL_law_847 : decode cL_law 847 = .ok (.iconst 2, 1) := by decide +kernel
theorem dL_law_848 : decode cL_law 848 = .ok (.iadd, 1) := by decide +kernel
theorem dL_law_849 : decode cL_law 849 = .ok (.iaload, 1) := by decide +kernel
theorem dL_law_850 : decode cL_law 850 = .ok (.aload_n 0, 1) := by decide +kernel
theorem dL_law_851 : decode cL_law 851 = .ok (.iload_n 3, 1) := by decide +kernel
theorem dL_law_852 : decode cL_law 852 = .ok (.iconst 3, 1) := by decide +kernel
theorem dL_law_853 : decode cL_law 853 = .ok (.iadd, 1) := by decide +kernel
theorem dL_law_854 : decode cL_law 854 = .ok (.iaload, 1) := by decide +kernel
theorem dL_law_855 : decode cL_law 855 = .ok (.aload_n 0, 1) := by decide +kernel
theorem dL_law_856 : decode cL_law 856 = .ok (.iload_n 3, 1) := by decide +kernel
theorem dL_law_857 : decode cL_law 857 = .ok (.iconst 4, 1) := by decide +kernel
theorem dL_law_858 : decode cL_law 858 = .ok (.iadd, 1) := by decide +kernel
theorem dL_law_859 : decode cL_law 859 = .ok (.iaload, 1) := by decide +kernel
theorem dL_law_860 : decode cL_law 860 = .ok (.aload_n 0, 1) := by decide +kernel
theorem dL_law_861 : decode cL_law 861 = .ok (.iload_n 3, 1) := by decide +kernel
theorem dL_law_862 : decode cL_law 862 = .ok (.iconst 5, 1) := by decide +kernel
theorem dL_law_863 : decode cL_law 863 = .ok (.iadd, 1) := by decide +kernel
theorem dL_law_864 : decode cL_law 864 = .ok (.iaload, 1) := by decide +kernel
theorem dL_law_865 : decode cL_law 865 = .ok (.ifCond .eq 7, 3) := by decide +kernel
theorem dL_law_868 : decode cL_law 868 = .ok (.iconst 1, 1) := by decide +kernel
theorem dL_law_869 : decode cL_law 869 = .ok (.goto 4, 3) := by decide +kernel
theorem dL_law_872 : decode cL_law 872 = .ok (.iconst 0, 1) := by decide +kernel
theorem dL_law_873 : decode cL_law 873 = .ok (.invokevirtual 114, 3) := by decide +kernel
theorem dL_law_876 : decode cL_law 876 = .ok (.if_icmp .eq 151, 3) := by decide +kernel
theorem dL_law_879 : decode cL_law 879 = .ok (.iconst 0, 1) := by decide +kernel
theorem dL_law_880 : decode cL_law 880 = .ok (.ireturn, 1) := by decide +kernel
theorem dL_law_881 : decode cL_law 881 = .ok (.aload_n 1, 1) := by decide +kernel
theorem dL_law_882 : decode cL_law 882 = .ok (.aload_n 0, 1) := by decide +kernel
theorem dL_law_883 : decode cL_law 883 = .ok (.iload_n 3, 1) := by decide +kernel
theorem dL_law_884 : decode cL_law 884 = .ok (.iconst 1, 1) := by decide +kernel
theorem dL_law_885 : decode cL_law 885 = .ok (.iadd, 1) := by decide +kernel
theorem dL_law_886 : decode cL_law 886 = .ok (.iaload, 1) := by decide +kernel
theorem dL_law_887 : decode cL_law 887 = .ok (.i2l, 1) := by decide +kernel
theorem dL_law_888 : decode cL_law 888 = .ok (.bipush 32, 2) := by decide +kernel
theorem dL_law_890 : decode cL_law 890 = .ok (.lshl, 1) := by decide +kernel
theorem dL_law_891 : decode cL_law 891 = .ok (.aload_n 0, 1) := by decide +kernel
theorem dL_law_892 : decode cL_law 892 = .ok (.iload_n 3, 1) := by decide +kernel
theorem dL_law_893 : decode cL_law 893 = .ok (.iconst 2, 1) := by decide +kernel
theorem dL_law_894 : decode cL_law 894 = .ok (.iadd, 1) := by decide +kernel
theorem dL_law_895 : decode cL_law 895 = .ok (.iaload, 1) := by decide +kernel
theorem dL_law_896 : decode cL_law 896 = .ok (.i2l, 1) := by decide +kernel
theorem dL_law_897 : decode cL_law 897 = .ok (.ldc2_w 81, 3) := by decide +kernel
theorem dL_law_900 : decode cL_law 900 = .ok (.land, 1) := by decide +kernel
theorem dL_law_901 : decode cL_law 901 = .ok (.lor, 1) := by decide +kernel
theorem dL_law_902 : decode cL_law 902 = .ok (.invokevirtual 115, 3) := by decide +kernel
theorem dL_law_905 : decode cL_law 905 = .ok (.aload_n 2, 1) := by decide +kernel
theorem dL_law_906 : decode cL_law 906 = .ok (.aload_n 0, 1) := by decide +kernel
theorem dL_law_907 : decode cL_law 907 = .ok (.iload_n 3, 1) := by decide +kernel
theorem dL_law_908 : decode cL_law 908 = .ok (.iconst 1, 1) := by decide +kernel
theorem dL_law_909 : decode cL_law 909 = .ok (.iadd, 1) := by decide +kernel
theorem dL_law_910 : decode cL_law 910 = .ok (.iaload, 1) := by decide +kernel
theorem dL_law_911 : decode cL_law 911 = .ok (.i2l, 1) := by decide +kernel
theorem dL_law_912 : decode cL_law 912 = .ok (.bipush 32, 2) := by decide +kernel
theorem dL_law_914 : decode cL_law 914 = .ok (.lshl, 1) := by decide +kernel
theorem dL_law_915 : decode cL_law 915 = .ok (.aload_n 0, 1) := by decide +kernel
theorem dL_law_916 : decode cL_law 916 = .ok (.iload_n 3, 1) := by decide +kernel
theorem dL_law_917 : decode cL_law 917 = .ok (.iconst 2, 1) := by decide +kernel
theorem dL_law_918 : decode cL_law 918 = .ok (.iadd, 1) := by decide +kernel
theorem dL_law_919 : decode cL_law 919 = .ok (.iaload, 1) := by decide +kernel
theorem dL_law_920 : decode cL_law 920 = .ok (.i2l, 1) := by decide +kernel
theorem dL_law_921 : decode cL_law 921 = .ok (.ldc2_w 81, 3) := by decide +kernel
theorem dL_law_924 : decode cL_law 924 = .ok (.land, 1) := by decide +kernel
theorem dL_law_925 : decode cL_law 925 = .ok (.lor, 1) := by decide +kernel
theorem dL_law_926 : decode cL_law 926 = .ok (.invokevirtual 119, 3) := by decide +kernel
theorem dL_law_929 : decode cL_law 929 = .ok (.lcmp, 1) := by decide +kernel
theorem dL_law_930 : decode cL_law 930 = .ok (.ifCond .eq 97, 3) := by decide +kernel
theorem dL_law_933 : decode cL_law 933 = .ok (.iconst 0, 1) := by decide +kernel
theorem dL_law_934 : decode cL_law 934 = .ok (.ireturn, 1) := by decide +kernel
theorem dL_law_935 : decode cL_law 935 = .ok (.aload_n 1, 1) := by decide +kernel
theorem dL_law_936 : decode cL_law 936 = .ok (.aload_n 0, 1) := by decide +kernel
theorem dL_law_937 : decode cL_law 937 = .ok (.iload_n 3, 1) := by decide +kernel
theorem dL_law_938 : decode cL_law 938 = .ok (.iconst 1, 1) := by decide +kernel
theorem dL_law_939 : decode cL_law 939 = .ok (.iadd, 1) := by decide +kernel
theorem dL_law_940 : decode cL_law 940 = .ok (.iaload, 1) := by decide +kernel
theorem dL_law_941 : decode cL_law 941 = .ok (.invokevirtual 120, 3) := by decide +kernel
theorem dL_law_944 : decode cL_law 944 = .ok (.aload_n 2, 1) := by decide +kernel
theorem dL_law_945 : decode cL_law 945 = .ok (.aload_n 0, 1) := by decide +kernel
theorem dL_law_946 : decode cL_law 946 = .ok (.iload_n 3, 1) := by decide +kernel
theorem dL_law_947 : decode cL_law 947 = .ok (.iconst 1, 1) := by decide +kernel
theorem dL_law_948 : decode cL_law 948 = .ok (.iadd, 1) := by decide +kernel
theorem dL_law_949 : decode cL_law 949 = .ok (.iaload, 1) := by decide +kernel
theorem dL_law_950 : decode cL_law 950 = .ok (.invokevirtual 123, 3) := by decide +kernel
theorem dL_law_953 : decode cL_law 953 = .ok (.if_icmp .eq 74, 3) := by decide +kernel
theorem dL_law_956 : decode cL_law 956 = .ok (.iconst 0, 1) := by decide +kernel
theorem dL_law_957 : decode cL_law 957 = .ok (.ireturn, 1) := by decide +kernel
theorem dL_law_958 : decode cL_law 958 = .ok (.aload_n 1, 1) := by decide +kernel
theorem dL_law_959 : decode cL_law 959 = .ok (.aload_n 0, 1) := by decide +kernel
theorem dL_law_960 : decode cL_law 960 = .ok (.iload_n 3, 1) := by decide +kernel
theorem dL_law_961 : decode cL_law 961 = .ok (.iconst 1, 1) := by decide +kernel
theorem dL_law_962 : decode cL_law 962 = .ok (.iadd, 1) := by decide +kernel
theorem dL_law_963 : decode cL_law 963 = .ok (.iaload, 1) := by decide +kernel
theorem dL_law_964 : decode cL_law 964 = .ok (.invokevirtual 124, 3) := by decide +kernel
theorem dL_law_967 : decode cL_law 967 = .ok (.aload_n 2, 1) := by decide +kernel
theorem dL_law_968 : decode cL_law 968 = .ok (.aload_n 0, 1) := by decide +kernel
theorem dL_law_969 : decode cL_law 969 = .ok (.iload_n 3, 1) := by decide +kernel
theorem dL_law_970 : decode cL_law 970 = .ok (.iconst 1, 1) := by decide +kernel
theorem dL_law_971 : decode cL_law 971 = .ok (.iadd, 1) := by decide +kernel
theorem dL_law_972 : decode cL_law 972 = .ok (.iaload, 1) := by decide +kernel
theorem dL_law_973 : decode cL_law 973 = .ok (.invokevirtual 127, 3) := by decide +kernel
theorem dL_law_976 : decode cL_law 976 = .ok (.if_icmp .eq 51, 3) := by decide +kernel
theorem dL_law_979 : decode cL_law 979 = .ok (.iconst 0, 1) := by decide +kernel
theorem dL_law_980 : decode cL_law 980 = .ok (.ireturn, 1) := by decide +kernel
theorem dL_law_981 : decode cL_law 981 = .ok (.aload_n 1, 1) := by decide +kernel
theorem dL_law_982 : decode cL_law 982 = .ok (.aload_n 0, 1) := by decide +kernel
theorem dL_law_983 : decode cL_law 983 = .ok (.iload_n 3, 1) := by decide +kernel
theorem dL_law_984 : decode cL_law 984 = .ok (.iconst 1, 1) := by decide +kernel
theorem dL_law_985 : decode cL_law 985 = .ok (.iadd, 1) := by decide +kernel
theorem dL_law_986 : decode cL_law 986 = .ok (.iaload, 1) := by decide +kernel
theorem dL_law_987 : decode cL_law 987 = .ok (.invokevirtual 128, 3) := by decide +kernel
theorem dL_law_990 : decode cL_law 990 = .ok (.aload_n 2, 1) := by decide +kernel
theorem dL_law_991 : decode cL_law 991 = .ok (.aload_n 0, 1) := by decide +kernel
theorem dL_law_992 : decode cL_law 992 = .ok (.iload_n 3, 1) := by decide +kernel
theorem dL_law_993 : decode cL_law 993 = .ok (.iconst 1, 1) := by decide +kernel
theorem dL_law_994 : decode cL_law 994 = .ok (.iadd, 1) := by decide +kernel
theorem dL_law_995 : decode cL_law 995 = .ok (.iaload, 1) := by decide +kernel
theorem dL_law_996 : decode cL_law 996 = .ok (.invokevirtual 131, 3) := by decide +kernel
theorem dL_law_999 : decode cL_law 999 = .ok (.if_icmp .eq 28, 3) := by decide +kernel
theorem dL_law_1002 : decode cL_law 1002 = .ok (.iconst 0, 1) := by decide +kernel
theorem dL_law_1003 : decode cL_law 1003 = .ok (.ireturn, 1) := by decide +kernel
theorem dL_law_1004 : decode cL_law 1004 = .ok (.aload_n 1, 1) := by decide +kernel
theorem dL_law_1005 : decode cL_law 1005 = .ok (.aload_n 0, 1) := by decide +kernel
theorem dL_law_1006 : decode cL_law 1006 = .ok (.iload_n 3, 1) := by decide +kernel
theorem dL_law_1007 : decode cL_law 1007 = .ok (.iconst 1, 1) := by decide +kernel
theorem dL_law_1008 : decode cL_law 1008 = .ok (.iadd, 1) := by decide +kernel
theorem dL_law_1009 : decode cL_law 1009 = .ok (.iaload, 1) := by decide +kernel
theorem dL_law_1010 : decode cL_law 1010 = .ok (.invokevirtual 132, 3) := by decide +kernel
theorem dL_law_1013 : decode cL_law 1013 = .ok (.aload_n 2, 1) := by decide +kernel
theorem dL_law_1014 : decode cL_law 1014 = .ok (.aload_n 0, 1) := by decide +kernel
theorem dL_law_1015 : decode cL_law 1015 = .ok (.iload_n 3, 1) := by decide +kernel
theorem dL_law_1016 : decode cL_law 1016 = .ok (.iconst 1, 1) := by decide +kernel
theorem dL_law_1017 : decode cL_law 1017 = .ok (.iadd, 1) := by decide +kernel
theorem dL_law_1018 : decode cL_law 1018 = .ok (.iaload, 1) := by decide +kernel
theorem dL_law_1019 : decode cL_law 1019 = .ok (.invokevirtual 135, 3) := by decide +kernel
theorem dL_law_1022 : decode cL_law 1022 = .ok (.if_icmp .eq 5, 3) := by decide +kernel
theorem dL_law_1025 : decode cL_law 1025 = .ok (.iconst 0, 1) := by decide +kernel
theorem dL_law_1026 : decode cL_law 1026 = .ok (.ireturn, 1) := by decide +kernel
theorem dL_law_1027 : decode cL_law 1027 = .ok (.iinc 3 6, 3) := by decide +kernel
theorem dL_law_1030 : decode cL_law 1030 = .ok (.goto (-1012), 3) := by decide +kernel
theorem dL_law_1033 : decode cL_law 1033 = .ok (.iconst 1, 1) := by decide +kernel
theorem dL_law_1034 : decode cL_law 1034 = .ok (.ireturn, 1) := by decide +kernel
abbrev vwCl : List vw_C := [(RX0, TX0, 3), (RX1, TX1, 4), (RX2, TX2, 9), (RX3, TX3, 5), (RX4, TX4, 6), (RX5, TX5, 15), (RX6, TX6, 28)]
end
