section
-- ===== PART A: goes FIRST, ahead of the names: the tables' words, and 'selects' of the private methods out of them =====
/-- a private method of a class that the tables say can be made, by its rows of tables_1 -/
def lw_okq (q : MethodName × Nat) : Prop := (q.1.cls ≠ "java/lang/invoke/MethodHandle" ∧ q.1.cls ≠ "java/lang/invoke/VarHandle") ∧ Cond.instantiable q.1.cls q.2 ∈ tables_1 ∧ Cond.privateMethod q.1 ∈ tables_1 ∧ Cond.instanceMethod q.1 ∈ tables_1
theorem lw_p0 : lw_okq (⟨"PowerRests$Factors", "takeOut", "(II)I"⟩, 3) := ⟨⟨by decide +kernel, by decide +kernel⟩, List.mem_of_getElem? (i := 21) (by decide +kernel), List.mem_of_getElem? (i := 169) (by decide +kernel), List.mem_of_getElem? (i := 170) (by decide +kernel)⟩
theorem lw_p1 : lw_okq (⟨"PowerRests$Factors", "unitsAt", "(I)I"⟩, 3) := ⟨⟨by decide +kernel, by decide +kernel⟩, List.mem_of_getElem? (i := 21) (by decide +kernel), List.mem_of_getElem? (i := 177) (by decide +kernel), List.mem_of_getElem? (i := 178) (by decide +kernel)⟩
theorem lw_p2 : lw_okq (⟨"PowerRests$Factors", "powerAt", "(I)I"⟩, 3) := ⟨⟨by decide +kernel, by decide +kernel⟩, List.mem_of_getElem? (i := 21) (by decide +kernel), List.mem_of_getElem? (i := 181) (by decide +kernel), List.mem_of_getElem? (i := 182) (by decide +kernel)⟩
theorem lw_p3 : lw_okq (⟨"PowerRests", "leastExponent", "(II)I"⟩, 10) := ⟨⟨by decide +kernel, by decide +kernel⟩, List.mem_of_getElem? (i := 13) (by decide +kernel), List.mem_of_getElem? (i := 196) (by decide +kernel), List.mem_of_getElem? (i := 197) (by decide +kernel)⟩
theorem lw_p4 : lw_okq (⟨"PowerRests$Factors", "hasTwoCycles", "(I)Z"⟩, 3) := ⟨⟨by decide +kernel, by decide +kernel⟩, List.mem_of_getElem? (i := 21) (by decide +kernel), List.mem_of_getElem? (i := 204) (by decide +kernel), List.mem_of_getElem? (i := 205) (by decide +kernel)⟩
theorem lw_p5 : lw_okq (⟨"PowerRests", "unitsOfOrder", "(I)I"⟩, 10) := ⟨⟨by decide +kernel, by decide +kernel⟩, List.mem_of_getElem? (i := 13) (by decide +kernel), List.mem_of_getElem? (i := 221) (by decide +kernel), List.mem_of_getElem? (i := 222) (by decide +kernel)⟩
theorem lw_p6 : lw_okq (⟨"PowerRests", "markMakers", "(II)V"⟩, 10) := ⟨⟨by decide +kernel, by decide +kernel⟩, List.mem_of_getElem? (i := 13) (by decide +kernel), List.mem_of_getElem? (i := 234) (by decide +kernel), List.mem_of_getElem? (i := 235) (by decide +kernel)⟩
theorem lw_p7 : lw_okq (⟨"PowerRests", "firstMaker", "(II)I"⟩, 10) := ⟨⟨by decide +kernel, by decide +kernel⟩, List.mem_of_getElem? (i := 13) (by decide +kernel), List.mem_of_getElem? (i := 238) (by decide +kernel), List.mem_of_getElem? (i := 239) (by decide +kernel)⟩
theorem lw_p8 : lw_okq (⟨"PowerRests", "hasOrder", "(III)Z"⟩, 10) := ⟨⟨by decide +kernel, by decide +kernel⟩, List.mem_of_getElem? (i := 13) (by decide +kernel), List.mem_of_getElem? (i := 242) (by decide +kernel), List.mem_of_getElem? (i := 243) (by decide +kernel)⟩
theorem lw_p9 : lw_okq (⟨"PowerRests", "markSquares", "(I)V"⟩, 10) := ⟨⟨by decide +kernel, by decide +kernel⟩, List.mem_of_getElem? (i := 13) (by decide +kernel), List.mem_of_getElem? (i := 282) (by decide +kernel), List.mem_of_getElem? (i := 283) (by decide +kernel)⟩
theorem lw_p10 : lw_okq (⟨"PowerRests", "firstNoSquare", "(I)I"⟩, 10) := ⟨⟨by decide +kernel, by decide +kernel⟩, List.mem_of_getElem? (i := 13) (by decide +kernel), List.mem_of_getElem? (i := 287) (by decide +kernel), List.mem_of_getElem? (i := 288) (by decide +kernel)⟩
theorem lw_p11 : lw_okq (⟨"PowerRests", "runsOfSquares", "(II)I"⟩, 10) := ⟨⟨by decide +kernel, by decide +kernel⟩, List.mem_of_getElem? (i := 13) (by decide +kernel), List.mem_of_getElem? (i := 292) (by decide +kernel), List.mem_of_getElem? (i := 293) (by decide +kernel)⟩
theorem lw_p12 : lw_okq (⟨"PowerRests$Item", "number", "(LPowerRests$Text;I)I"⟩, 5) := ⟨⟨by decide +kernel, by decide +kernel⟩, List.mem_of_getElem? (i := 69) (by decide +kernel), List.mem_of_getElem? (i := 333) (by decide +kernel), List.mem_of_getElem? (i := 334) (by decide +kernel)⟩
theorem lw_p13 : lw_okq (⟨"PowerRests$Item", "isInBounds", "()Z"⟩, 5) := ⟨⟨by decide +kernel, by decide +kernel⟩, List.mem_of_getElem? (i := 69) (by decide +kernel), List.mem_of_getElem? (i := 337) (by decide +kernel), List.mem_of_getElem? (i := 338) (by decide +kernel)⟩
theorem lw_p14 : lw_okq (⟨"PowerRests", "periodOfText", "()I"⟩, 10) := ⟨⟨by decide +kernel, by decide +kernel⟩, List.mem_of_getElem? (i := 13) (by decide +kernel), List.mem_of_getElem? (i := 346) (by decide +kernel), List.mem_of_getElem? (i := 347) (by decide +kernel)⟩
theorem lw_p15 : lw_okq (⟨"PowerRests$Laid", "all", "()I"⟩, 6) := ⟨⟨by decide +kernel, by decide +kernel⟩, List.mem_of_getElem? (i := 94) (by decide +kernel), List.mem_of_getElem? (i := 370) (by decide +kernel), List.mem_of_getElem? (i := 371) (by decide +kernel)⟩
def lw_privs_1 : List (MethodName × Nat) := [(⟨"PowerRests$Factors", "takeOut", "(II)I"⟩, 3), (⟨"PowerRests$Factors", "unitsAt", "(I)I"⟩, 3), (⟨"PowerRests$Factors", "powerAt", "(I)I"⟩, 3), (⟨"PowerRests", "leastExponent", "(II)I"⟩, 10), (⟨"PowerRests$Factors", "hasTwoCycles", "(I)Z"⟩, 3), (⟨"PowerRests", "unitsOfOrder", "(I)I"⟩, 10), (⟨"PowerRests", "markMakers", "(II)V"⟩, 10), (⟨"PowerRests", "firstMaker", "(II)I"⟩, 10), (⟨"PowerRests", "hasOrder", "(III)Z"⟩, 10), (⟨"PowerRests", "markSquares", "(I)V"⟩, 10), (⟨"PowerRests", "firstNoSquare", "(I)I"⟩, 10), (⟨"PowerRests", "runsOfSquares", "(II)I"⟩, 10), (⟨"PowerRests$Item", "number", "(LPowerRests$Text;I)I"⟩, 5), (⟨"PowerRests$Item", "isInBounds", "()Z"⟩, 5), (⟨"PowerRests", "periodOfText", "()I"⟩, 10), (⟨"PowerRests$Laid", "all", "()I"⟩, 6)]
theorem lw_r1 : ∀ q ∈ lw_privs_1, lw_okq q := List.forall_mem_cons.mpr ⟨lw_p0, List.forall_mem_cons.mpr ⟨lw_p1, List.forall_mem_cons.mpr ⟨lw_p2, List.forall_mem_cons.mpr ⟨lw_p3, List.forall_mem_cons.mpr ⟨lw_p4, List.forall_mem_cons.mpr ⟨lw_p5, List.forall_mem_cons.mpr ⟨lw_p6, List.forall_mem_cons.mpr ⟨lw_p7, List.forall_mem_cons.mpr ⟨lw_p8, List.forall_mem_cons.mpr ⟨lw_p9, List.forall_mem_cons.mpr ⟨lw_p10, List.forall_mem_cons.mpr ⟨lw_p11, List.forall_mem_cons.mpr ⟨lw_p12, List.forall_mem_cons.mpr ⟨lw_p13, List.forall_mem_cons.mpr ⟨lw_p14, List.forall_mem_cons.mpr ⟨lw_p15, fun _ h => absurd h List.not_mem_nil⟩⟩⟩⟩⟩⟩⟩⟩⟩⟩⟩⟩⟩⟩⟩⟩
theorem lw_p16 : lw_okq (⟨"PowerRests$Laid", "wordOf", "(JI)J"⟩, 6) := ⟨⟨by decide +kernel, by decide +kernel⟩, List.mem_of_getElem? (i := 94) (by decide +kernel), List.mem_of_getElem? (i := 374) (by decide +kernel), List.mem_of_getElem? (i := 375) (by decide +kernel)⟩
theorem lw_p17 : lw_okq (⟨"PowerRests$Laid", "leavesNothing", "(I)Z"⟩, 6) := ⟨⟨by decide +kernel, by decide +kernel⟩, List.mem_of_getElem? (i := 94) (by decide +kernel), List.mem_of_getElem? (i := 437) (by decide +kernel), List.mem_of_getElem? (i := 438) (by decide +kernel)⟩
theorem lw_p18 : lw_okq (⟨"PowerRests$Laid", "periodOf", "(I)I"⟩, 6) := ⟨⟨by decide +kernel, by decide +kernel⟩, List.mem_of_getElem? (i := 94) (by decide +kernel), List.mem_of_getElem? (i := 441) (by decide +kernel), List.mem_of_getElem? (i := 442) (by decide +kernel)⟩
theorem lw_p19 : lw_okq (⟨"PowerRests", "looksPrimeTo", "(I)I"⟩, 10) := ⟨⟨by decide +kernel, by decide +kernel⟩, List.mem_of_getElem? (i := 13) (by decide +kernel), List.mem_of_getElem? (i := 474) (by decide +kernel), List.mem_of_getElem? (i := 475) (by decide +kernel)⟩
theorem lw_p20 : lw_okq (⟨"PowerRests", "looksStronglyTo", "(I)I"⟩, 10) := ⟨⟨by decide +kernel, by decide +kernel⟩, List.mem_of_getElem? (i := 13) (by decide +kernel), List.mem_of_getElem? (i := 479) (by decide +kernel), List.mem_of_getElem? (i := 480) (by decide +kernel)⟩
theorem lw_p21 : lw_okq (⟨"PowerRests", "liesToAll", "(I)Z"⟩, 10) := ⟨⟨by decide +kernel, by decide +kernel⟩, List.mem_of_getElem? (i := 13) (by decide +kernel), List.mem_of_getElem? (i := 492) (by decide +kernel), List.mem_of_getElem? (i := 493) (by decide +kernel)⟩
theorem lw_p22 : lw_okq (⟨"PowerRests", "findLiarsToTwo", "()V"⟩, 10) := ⟨⟨by decide +kernel, by decide +kernel⟩, List.mem_of_getElem? (i := 13) (by decide +kernel), List.mem_of_getElem? (i := 500) (by decide +kernel), List.mem_of_getElem? (i := 501) (by decide +kernel)⟩
theorem lw_p23 : lw_okq (⟨"PowerRests", "roundOf", "(II)I"⟩, 10) := ⟨⟨by decide +kernel, by decide +kernel⟩, List.mem_of_getElem? (i := 13) (by decide +kernel), List.mem_of_getElem? (i := 520) (by decide +kernel), List.mem_of_getElem? (i := 521) (by decide +kernel)⟩
theorem lw_p24 : lw_okq (⟨"PowerRests", "hasRound", "(III)Z"⟩, 10) := ⟨⟨by decide +kernel, by decide +kernel⟩, List.mem_of_getElem? (i := 13) (by decide +kernel), List.mem_of_getElem? (i := 532) (by decide +kernel), List.mem_of_getElem? (i := 533) (by decide +kernel)⟩
theorem lw_p25 : lw_okq (⟨"PowerRests", "towerRest", "(IJI)I"⟩, 10) := ⟨⟨by decide +kernel, by decide +kernel⟩, List.mem_of_getElem? (i := 13) (by decide +kernel), List.mem_of_getElem? (i := 547) (by decide +kernel), List.mem_of_getElem? (i := 548) (by decide +kernel)⟩
theorem lw_p26 : lw_okq (⟨"PowerRests", "findSizes", "(II)V"⟩, 10) := ⟨⟨by decide +kernel, by decide +kernel⟩, List.mem_of_getElem? (i := 13) (by decide +kernel), List.mem_of_getElem? (i := 551) (by decide +kernel), List.mem_of_getElem? (i := 552) (by decide +kernel)⟩
theorem lw_p27 : lw_okq (⟨"PowerRests", "markStaying", "(III)I"⟩, 10) := ⟨⟨by decide +kernel, by decide +kernel⟩, List.mem_of_getElem? (i := 13) (by decide +kernel), List.mem_of_getElem? (i := 580) (by decide +kernel), List.mem_of_getElem? (i := 581) (by decide +kernel)⟩
theorem lw_p28 : lw_okq (⟨"PowerRests", "stayingLetter", "(III)I"⟩, 10) := ⟨⟨by decide +kernel, by decide +kernel⟩, List.mem_of_getElem? (i := 13) (by decide +kernel), List.mem_of_getElem? (i := 584) (by decide +kernel), List.mem_of_getElem? (i := 585) (by decide +kernel)⟩
theorem lw_p29 : lw_okq (⟨"PowerRests", "turnBy", "(II)I"⟩, 10) := ⟨⟨by decide +kernel, by decide +kernel⟩, List.mem_of_getElem? (i := 13) (by decide +kernel), List.mem_of_getElem? (i := 592) (by decide +kernel), List.mem_of_getElem? (i := 593) (by decide +kernel)⟩
theorem lw_p30 : lw_okq (⟨"PowerRestsModel", "walks", "(I)I"⟩, 18) := ⟨⟨by decide +kernel, by decide +kernel⟩, List.mem_of_getElem? (i := 600) (by decide +kernel), List.mem_of_getElem? (i := 695) (by decide +kernel), List.mem_of_getElem? (i := 696) (by decide +kernel)⟩
theorem lw_p31 : lw_okq (⟨"PowerRestsModel", "isItem", "()Z"⟩, 18) := ⟨⟨by decide +kernel, by decide +kernel⟩, List.mem_of_getElem? (i := 600) (by decide +kernel), List.mem_of_getElem? (i := 744) (by decide +kernel), List.mem_of_getElem? (i := 745) (by decide +kernel)⟩
def lw_privs_2 : List (MethodName × Nat) := [(⟨"PowerRests$Laid", "wordOf", "(JI)J"⟩, 6), (⟨"PowerRests$Laid", "leavesNothing", "(I)Z"⟩, 6), (⟨"PowerRests$Laid", "periodOf", "(I)I"⟩, 6), (⟨"PowerRests", "looksPrimeTo", "(I)I"⟩, 10), (⟨"PowerRests", "looksStronglyTo", "(I)I"⟩, 10), (⟨"PowerRests", "liesToAll", "(I)Z"⟩, 10), (⟨"PowerRests", "findLiarsToTwo", "()V"⟩, 10), (⟨"PowerRests", "roundOf", "(II)I"⟩, 10), (⟨"PowerRests", "hasRound", "(III)Z"⟩, 10), (⟨"PowerRests", "towerRest", "(IJI)I"⟩, 10), (⟨"PowerRests", "findSizes", "(II)V"⟩, 10), (⟨"PowerRests", "markStaying", "(III)I"⟩, 10), (⟨"PowerRests", "stayingLetter", "(III)I"⟩, 10), (⟨"PowerRests", "turnBy", "(II)I"⟩, 10), (⟨"PowerRestsModel", "walks", "(I)I"⟩, 18), (⟨"PowerRestsModel", "isItem", "()Z"⟩, 18)]
theorem lw_r2 : ∀ q ∈ lw_privs_2, lw_okq q := List.forall_mem_cons.mpr ⟨lw_p16, List.forall_mem_cons.mpr ⟨lw_p17, List.forall_mem_cons.mpr ⟨lw_p18, List.forall_mem_cons.mpr ⟨lw_p19, List.forall_mem_cons.mpr ⟨lw_p20, List.forall_mem_cons.mpr ⟨lw_p21, List.forall_mem_cons.mpr ⟨lw_p22, List.forall_mem_cons.mpr ⟨lw_p23, List.forall_mem_cons.mpr ⟨lw_p24, List.forall_mem_cons.mpr ⟨lw_p25, List.forall_mem_cons.mpr ⟨lw_p26, List.forall_mem_cons.mpr ⟨lw_p27, List.forall_mem_cons.mpr ⟨lw_p28, List.forall_mem_cons.mpr ⟨lw_p29, List.forall_mem_cons.mpr ⟨lw_p30, List.forall_mem_cons.mpr ⟨lw_p31, fun _ h => absurd h List.not_mem_nil⟩⟩⟩⟩⟩⟩⟩⟩⟩⟩⟩⟩⟩⟩⟩⟩
theorem lw_p32 : lw_okq (⟨"PowerRestsModel", "number", "()I"⟩, 18) := ⟨⟨by decide +kernel, by decide +kernel⟩, List.mem_of_getElem? (i := 600) (by decide +kernel), List.mem_of_getElem? (i := 748) (by decide +kernel), List.mem_of_getElem? (i := 749) (by decide +kernel)⟩
theorem lw_p33 : lw_okq (⟨"PowerRestsModel", "more", "()I"⟩, 18) := ⟨⟨by decide +kernel, by decide +kernel⟩, List.mem_of_getElem? (i := 600) (by decide +kernel), List.mem_of_getElem? (i := 755) (by decide +kernel), List.mem_of_getElem? (i := 756) (by decide +kernel)⟩
theorem lw_p34 : lw_okq (⟨"PowerRestsModel", "leftOf", "()I"⟩, 18) := ⟨⟨by decide +kernel, by decide +kernel⟩, List.mem_of_getElem? (i := 600) (by decide +kernel), List.mem_of_getElem? (i := 771) (by decide +kernel), List.mem_of_getElem? (i := 772) (by decide +kernel)⟩
theorem lw_p35 : lw_okq (⟨"PowerRestsModel", "fails", "(I)I"⟩, 18) := ⟨⟨by decide +kernel, by decide +kernel⟩, List.mem_of_getElem? (i := 600) (by decide +kernel), List.mem_of_getElem? (i := 775) (by decide +kernel), List.mem_of_getElem? (i := 776) (by decide +kernel)⟩
theorem lw_p36 : lw_okq (⟨"PowerRestsModel", "holds", "(II)Z"⟩, 18) := ⟨⟨by decide +kernel, by decide +kernel⟩, List.mem_of_getElem? (i := 600) (by decide +kernel), List.mem_of_getElem? (i := 779) (by decide +kernel), List.mem_of_getElem? (i := 780) (by decide +kernel)⟩
theorem lw_p37 : lw_okq (⟨"PowerRestsModel", "looksAll", "()V"⟩, 18) := ⟨⟨by decide +kernel, by decide +kernel⟩, List.mem_of_getElem? (i := 600) (by decide +kernel), List.mem_of_getElem? (i := 799) (by decide +kernel), List.mem_of_getElem? (i := 800) (by decide +kernel)⟩
def lw_privs_3 : List (MethodName × Nat) := [(⟨"PowerRestsModel", "number", "()I"⟩, 18), (⟨"PowerRestsModel", "more", "()I"⟩, 18), (⟨"PowerRestsModel", "leftOf", "()I"⟩, 18), (⟨"PowerRestsModel", "fails", "(I)I"⟩, 18), (⟨"PowerRestsModel", "holds", "(II)Z"⟩, 18), (⟨"PowerRestsModel", "looksAll", "()V"⟩, 18)]
theorem lw_r3 : ∀ q ∈ lw_privs_3, lw_okq q := List.forall_mem_cons.mpr ⟨lw_p32, List.forall_mem_cons.mpr ⟨lw_p33, List.forall_mem_cons.mpr ⟨lw_p34, List.forall_mem_cons.mpr ⟨lw_p35, List.forall_mem_cons.mpr ⟨lw_p36, List.forall_mem_cons.mpr ⟨lw_p37, fun _ h => absurd h List.not_mem_nil⟩⟩⟩⟩⟩⟩
def lw_privs : List (MethodName × Nat) := lw_privs_1 ++ (lw_privs_2 ++ (lw_privs_3))
def lw_tbl : List Cond := k2_sels lw_privs ++ tables_1
theorem lw_privs_ok : ∀ q ∈ lw_privs, lw_okq q := by
  show ∀ q ∈ lw_privs_1 ++ (lw_privs_2 ++ (lw_privs_3)), lw_okq q
  exact List.forall_mem_append.mpr ⟨lw_r1, List.forall_mem_append.mpr ⟨lw_r2, lw_r3⟩⟩
-- ===== end of PART A; then your names; then what follows =====
end
section
/-! ===== BEGIN words of one list among another's, by their places ===== -/
theorem goodIn_r {big : List Cond} (ws : List Cond) (ps : List Nat) (hp : ws = ps.filterMap (fun i => big[i]?)) (h : ws.all goodWord = true) : GoodIn big ws := by
  intro w hw
  have h1 := List.all_eq_true.mp h w hw
  rw [hp] at hw
  obtain ⟨i, -, hi⟩ := List.mem_filterMap.mp hw
  have hm : w ∈ big := by first | exact List.mem_of_getElem? hi | exact List.getElem?_mem hi
  exact ⟨hm, good_of_word h1⟩
theorem goodIn_app {big a b : List Cond} (ha : GoodIn big a) (hb : GoodIn big b) : GoodIn big (a ++ b) := fun w h => (List.mem_append.mp h).elim (ha w) (hb w)
theorem goodIn_ca {big a b : List Cond} {c : Cond} (ha : GoodIn big (c :: a)) (hb : GoodIn big b) : GoodIn big (c :: (a ++ b)) := fun w h => (List.mem_cons.mp h).elim (fun e => ha w (List.mem_cons.mpr (Or.inl e))) (fun h => (List.mem_append.mp h).elim (fun h => ha w (List.mem_cons.mpr (Or.inr h))) (hb w))
theorem goodIn_sub {big ws : List Cond} (hm : ∀ w ∈ ws, w ∈ big) (h : ws.all goodWord = true) : GoodIn big ws := fun w hw => ⟨hm w hw, good_of_word (List.all_eq_true.mp h w hw)⟩
/-! ===== END ===== -/



/-! ===== BEGIN printed: names, fields, word lists, decode rows ===== -/
def RX0 : String := "PowerRests$Factors"
def TX0 : u_T := fun k => match k with
  | 0 => ("PowerRests$Factors", "primes", "[I", true)
  | 1 => ("PowerRests$Factors", "times", "[I", true)
  | _ => ("PowerRests$Factors", "kinds", "I", false)
def tyX0 : Nat → FieldType := fun k => match k with
  | 0 => .array .int
  | 1 => .array .int
  | _ => .int
abbrev wsX00 : List Cond := u_ws RX0 TX0 3
theorem nmX0 : ∀ a, a < 3 → ∀ b, b < 3 → a ≠ b → (TX0 a).2.1 ≠ (TX0 b).2.1 := by decide +kernel
theorem tyX0_ok : ∀ k, k < 3 → parseFieldDescriptor (TX0 k).2.2.1 = some (tyX0 k) := by decide +kernel
abbrev cX0_init : ByteArray := prog_2_method_1_code
def yX0_init : MethodName := ⟨RX0, "<init>", "()V"⟩
abbrev cX0_split : ByteArray := prog_2_method_2_code
def yX0_split : MethodName := ⟨RX0, "split", "(I)V"⟩
abbrev cX0_takeOut : ByteArray := prog_2_method_3_code
def yX0_takeOut : MethodName := ⟨RX0, "takeOut", "(II)I"⟩
abbrev cX0_sharesWith : ByteArray := prog_2_method_4_code
def yX0_sharesWith : MethodName := ⟨RX0, "sharesWith", "(I)Z"⟩
abbrev cX0_powerAt : ByteArray := prog_2_method_5_code
def yX0_powerAt : MethodName := ⟨RX0, "powerAt", "(I)I"⟩
abbrev cX0_unitsAt : ByteArray := prog_2_method_6_code
def yX0_unitsAt : MethodName := ⟨RX0, "unitsAt", "(I)I"⟩
abbrev cX0_unitCount : ByteArray := prog_2_method_7_code
def yX0_unitCount : MethodName := ⟨RX0, "unitCount", "()I"⟩
abbrev cX0_hasTwoCycles : ByteArray := prog_2_method_8_code
def yX0_hasTwoCycles : MethodName := ⟨RX0, "hasTwoCycles", "(I)Z"⟩
abbrev cX0_greatestOrder : ByteArray := prog_2_method_9_code
def yX0_greatestOrder : MethodName := ⟨RX0, "greatestOrder", "()I"⟩
abbrev cX0_rootsOfOne : ByteArray := prog_2_method_10_code
def yX0_rootsOfOne : MethodName := ⟨RX0, "rootsOfOne", "(I)I"⟩
def RX1 : String := "PowerRests$Item"
def TX1 : u_T := fun k => match k with
  | 0 => ("PowerRests$Item", "letter", "I", false)
  | 1 => ("PowerRests$Item", "first", "I", false)
  | 2 => ("PowerRests$Item", "second", "I", false)
  | 3 => ("PowerRests$Item", "by", "I", false)
  | _ => ("PowerRests$Item", "end", "I", false)
def tyX1 : Nat → FieldType := fun k => match k with
  | 0 => .int
  | 1 => .int
  | 2 => .int
  | 3 => .int
  | _ => .int
abbrev wsX10 : List Cond := u_ws RX1 TX1 5
theorem nmX1 : ∀ a, a < 5 → ∀ b, b < 5 → a ≠ b → (TX1 a).2.1 ≠ (TX1 b).2.1 := by decide +kernel
theorem tyX1_ok : ∀ k, k < 5 → parseFieldDescriptor (TX1 k).2.2.1 = some (tyX1 k) := by decide +kernel
abbrev cX1_init : ByteArray := prog_3_method_1_code
def yX1_init : MethodName := ⟨RX1, "<init>", "()V"⟩
abbrev cX1_read : ByteArray := prog_3_method_2_code
def yX1_read : MethodName := ⟨RX1, "read", "(LPowerRests$Text;I)Z"⟩
abbrev cX1_number : ByteArray := prog_3_method_3_code
def yX1_number : MethodName := ⟨RX1, "number", "(LPowerRests$Text;I)I"⟩
abbrev cX1_isInBounds : ByteArray := prog_3_method_4_code
def yX1_isInBounds : MethodName := ⟨RX1, "isInBounds", "()Z"⟩
abbrev cX1_allows : ByteArray := prog_3_method_5_code
def yX1_allows : MethodName := ⟨RX1, "allows", "(I)Z"⟩
def RX2 : String := "PowerRests$Laid"
def TX2 : u_T := fun k => match k with
  | 0 => ("PowerRests$Laid", "words", "[[J", true)
  | 1 => ("PowerRests$Laid", "divisors", "[I", true)
  | 2 => ("PowerRests$Laid", "allowed", "[Z", true)
  | 3 => ("PowerRests$Laid", "items", "I", false)
  | 4 => ("PowerRests$Laid", "period", "I", false)
  | _ => ("PowerRests$Laid", "leftMany", "I", false)
def tyX2 : Nat → FieldType := fun k => match k with
  | 0 => .array (.array .long)
  | 1 => .array .int
  | 2 => .array .boolean
  | 3 => .int
  | 4 => .int
  | _ => .int
abbrev wsX20 : List Cond := u_ws RX2 TX2 6
theorem nmX2 : ∀ a, a < 6 → ∀ b, b < 6 → a ≠ b → (TX2 a).2.1 ≠ (TX2 b).2.1 := by decide +kernel
theorem tyX2_ok : ∀ k, k < 6 → parseFieldDescriptor (TX2 k).2.2.1 = some (tyX2 k) := by decide +kernel
abbrev cX2_init : ByteArray := prog_4_method_1_code
def yX2_init : MethodName := ⟨RX2, "<init>", "()V"⟩
abbrev cX2_clear : ByteArray := prog_4_method_2_code
def yX2_clear : MethodName := ⟨RX2, "clear", "()V"⟩
abbrev cX2_add : ByteArray := prog_4_method_3_code
def yX2_add : MethodName := ⟨RX2, "add", "(LPowerRests$Item;)V"⟩
abbrev cX2_close : ByteArray := prog_4_method_4_code
def yX2_close : MethodName := ⟨RX2, "close", "(I)V"⟩
abbrev cX2_all : ByteArray := prog_4_method_5_code
def yX2_all : MethodName := ⟨RX2, "all", "()I"⟩
abbrev cX2_wordOf : ByteArray := prog_4_method_6_code
def yX2_wordOf : MethodName := ⟨RX2, "wordOf", "(JI)J"⟩
abbrev cX2_lowestBit : ByteArray := prog_4_method_7_code
def yX2_lowestBit : MethodName := ⟨RX2, "lowestBit", "(J)I"⟩
abbrev cX2_leftAt : ByteArray := prog_4_method_8_code
def yX2_leftAt : MethodName := ⟨RX2, "leftAt", "(J)J"⟩
abbrev cX2_bitAt : ByteArray := prog_4_method_9_code
def yX2_bitAt : MethodName := ⟨RX2, "bitAt", "(JI)I"⟩
abbrev cX2_leastFrom : ByteArray := prog_4_method_10_code
def yX2_leastFrom : MethodName := ⟨RX2, "leastFrom", "(J)J"⟩
abbrev cX2_saysNothingNew : ByteArray := prog_4_method_11_code
def yX2_saysNothingNew : MethodName := ⟨RX2, "saysNothingNew", "(I)Z"⟩
abbrev cX2_leastEmptySet : ByteArray := prog_4_method_12_code
def yX2_leastEmptySet : MethodName := ⟨RX2, "leastEmptySet", "()I"⟩
abbrev cX2_leavesNothing : ByteArray := prog_4_method_13_code
def yX2_leavesNothing : MethodName := ⟨RX2, "leavesNothing", "(I)Z"⟩
abbrev cX2_periodOf : ByteArray := prog_4_method_14_code
def yX2_periodOf : MethodName := ⟨RX2, "periodOf", "(I)I"⟩
def RX3 : String := "PowerRests$Marks"
def TX3 : u_T := fun k => match k with
  | 0 => ("PowerRests$Marks", "marked", "[I", true)
  | _ => ("PowerRests$Marks", "newest", "I", false)
def tyX3 : Nat → FieldType := fun k => match k with
  | 0 => .array .int
  | _ => .int
abbrev wsX30 : List Cond := u_ws RX3 TX3 2
theorem nmX3 : ∀ a, a < 2 → ∀ b, b < 2 → a ≠ b → (TX3 a).2.1 ≠ (TX3 b).2.1 := by decide +kernel
theorem tyX3_ok : ∀ k, k < 2 → parseFieldDescriptor (TX3 k).2.2.1 = some (tyX3 k) := by decide +kernel
abbrev cX3_init : ByteArray := prog_5_method_1_code
def yX3_init : MethodName := ⟨RX3, "<init>", "()V"⟩
abbrev cX3_wipeAll : ByteArray := prog_5_method_2_code
def yX3_wipeAll : MethodName := ⟨RX3, "wipeAll", "()V"⟩
abbrev cX3_put : ByteArray := prog_5_method_3_code
def yX3_put : MethodName := ⟨RX3, "put", "(I)V"⟩
abbrev cX3_has : ByteArray := prog_5_method_4_code
def yX3_has : MethodName := ⟨RX3, "has", "(I)Z"⟩
abbrev cX3_pick : ByteArray := prog_5_method_5_code
def yX3_pick : MethodName := ⟨RX3, "pick", "(II)I"⟩
def RX4 : String := "PowerRests$Numbers"
def TX4 : u_T := fun k => match k with
  | _ => ("", "", "", false)
def tyX4 : Nat → FieldType := fun k => match k with
  | _ => .int
abbrev wsX40 : List Cond := u_ws RX4 TX4 0
theorem nmX4 : ∀ a, a < 0 → ∀ b, b < 0 → a ≠ b → (TX4 a).2.1 ≠ (TX4 b).2.1 := by decide +kernel
theorem tyX4_ok : ∀ k, k < 0 → parseFieldDescriptor (TX4 k).2.2.1 = some (tyX4 k) := by decide +kernel
abbrev cX4_raise : ByteArray := prog_6_method_2_code
def yX4_raise : MethodName := ⟨RX4, "raise", "(JJI)I"⟩
abbrev cX4_commonDivisor : ByteArray := prog_6_method_3_code
def yX4_commonDivisor : MethodName := ⟨RX4, "commonDivisor", "(II)I"⟩
abbrev cX4_commonMultiple : ByteArray := prog_6_method_4_code
def yX4_commonMultiple : MethodName := ⟨RX4, "commonMultiple", "(II)I"⟩
abbrev cX4_isPrime : ByteArray := prog_6_method_5_code
def yX4_isPrime : MethodName := ⟨RX4, "isPrime", "(I)Z"⟩
abbrev cX4_twosOf : ByteArray := prog_6_method_6_code
def yX4_twosOf : MethodName := ⟨RX4, "twosOf", "(I)I"⟩
abbrev cX4_oddPart : ByteArray := prog_6_method_7_code
def yX4_oddPart : MethodName := ⟨RX4, "oddPart", "(I)I"⟩
abbrev cX4_looksStrongly : ByteArray := prog_6_method_8_code
def yX4_looksStrongly : MethodName := ⟨RX4, "looksStrongly", "(II)Z"⟩
def RX5 : String := "PowerRests$Text"
def TX5 : u_T := fun k => match k with
  | 0 => ("PowerRests$Text", "bytes", "[I", true)
  | _ => ("PowerRests$Text", "length", "I", false)
def tyX5 : Nat → FieldType := fun k => match k with
  | 0 => .array .int
  | _ => .int
abbrev wsX50 : List Cond := u_ws RX5 TX5 2
theorem nmX5 : ∀ a, a < 2 → ∀ b, b < 2 → a ≠ b → (TX5 a).2.1 ≠ (TX5 b).2.1 := by decide +kernel
theorem tyX5_ok : ∀ k, k < 2 → parseFieldDescriptor (TX5 k).2.2.1 = some (tyX5 k) := by decide +kernel
abbrev cX5_init : ByteArray := prog_7_method_1_code
def yX5_init : MethodName := ⟨RX5, "<init>", "()V"⟩
abbrev cX5_hasRoom : ByteArray := prog_7_method_2_code
def yX5_hasRoom : MethodName := ⟨RX5, "hasRoom", "(I)Z"⟩
abbrev cX5_append : ByteArray := prog_7_method_3_code
def yX5_append : MethodName := ⟨RX5, "append", "(IJ)V"⟩
abbrev cX5_at : ByteArray := prog_7_method_4_code
def yX5_at : MethodName := ⟨RX5, "at", "(I)I"⟩
def RX6 : String := "PowerRests"
def TX6 : u_T := fun k => match k with
  | 0 => ("PowerRests", "ofN", "LPowerRests$Factors;", true)
  | 1 => ("PowerRests", "ofOrder", "LPowerRests$Factors;", true)
  | 2 => ("PowerRests", "marks", "LPowerRests$Marks;", true)
  | 3 => ("PowerRests", "text", "LPowerRests$Text;", true)
  | 4 => ("PowerRests", "reader", "LPowerRests$Item;", true)
  | 5 => ("PowerRests", "laid", "LPowerRests$Laid;", true)
  | 6 => ("PowerRests", "sizes", "[I", true)
  | 7 => ("PowerRests", "liarsToTwo", "[I", true)
  | 8 => ("PowerRests", "liars", "I", false)
  | _ => ("PowerRests", "liarsKnown", "Z", false)
def tyX6 : Nat → FieldType := fun k => match k with
  | 0 => .object "PowerRests$Factors"
  | 1 => .object "PowerRests$Factors"
  | 2 => .object "PowerRests$Marks"
  | 3 => .object "PowerRests$Text"
  | 4 => .object "PowerRests$Item"
  | 5 => .object "PowerRests$Laid"
  | 6 => .array .int
  | 7 => .array .int
  | 8 => .int
  | _ => .boolean
abbrev wsX60 : List Cond := u_ws RX6 TX6 10
theorem nmX6 : ∀ a, a < 10 → ∀ b, b < 10 → a ≠ b → (TX6 a).2.1 ≠ (TX6 b).2.1 := by decide +kernel
theorem tyX6_ok : ∀ k, k < 10 → parseFieldDescriptor (TX6 k).2.2.1 = some (tyX6 k) := by decide +kernel
abbrev cX6_init : ByteArray := prog_1_method_1_code
def yX6_init : MethodName := ⟨RX6, "<init>", "()V"⟩
abbrev cX6_units : ByteArray := prog_1_method_2_code
def yX6_units : MethodName := ⟨RX6, "units", "(II)I"⟩
abbrev cX6_order : ByteArray := prog_1_method_3_code
def yX6_order : MethodName := ⟨RX6, "order", "(II)I"⟩
abbrev cX6_orders : ByteArray := prog_1_method_4_code
def yX6_orders : MethodName := ⟨RX6, "orders", "(III)I"⟩
abbrev cX6_makers : ByteArray := prog_1_method_5_code
def yX6_makers : MethodName := ⟨RX6, "makers", "(II)I"⟩
abbrev cX6_power : ByteArray := prog_1_method_6_code
def yX6_power : MethodName := ⟨RX6, "power", "(IIJ)I"⟩
abbrev cX6_log : ByteArray := prog_1_method_7_code
def yX6_log : MethodName := ⟨RX6, "log", "(III)I"⟩
abbrev cX6_roots : ByteArray := prog_1_method_8_code
def yX6_roots : MethodName := ⟨RX6, "roots", "(IIII)I"⟩
abbrev cX6_squares : ByteArray := prog_1_method_9_code
def yX6_squares : MethodName := ⟨RX6, "squares", "(II)I"⟩
abbrev cX6_sign : ByteArray := prog_1_method_10_code
def yX6_sign : MethodName := ⟨RX6, "sign", "(II)I"⟩
abbrev cX6_write : ByteArray := prog_1_method_11_code
def yX6_write : MethodName := ⟨RX6, "write", "(IJ)I"⟩
abbrev cX6_wipe : ByteArray := prog_1_method_12_code
def yX6_wipe : MethodName := ⟨RX6, "wipe", "()I"⟩
abbrev cX6_fault : ByteArray := prog_1_method_13_code
def yX6_fault : MethodName := ⟨RX6, "fault", "()I"⟩
abbrev cX6_lay : ByteArray := prog_1_method_14_code
def yX6_lay : MethodName := ⟨RX6, "lay", "()I"⟩
abbrev cX6_left : ByteArray := prog_1_method_15_code
def yX6_left : MethodName := ⟨RX6, "left", "()I"⟩
abbrev cX6_ith : ByteArray := prog_1_method_16_code
def yX6_ith : MethodName := ⟨RX6, "ith", "(J)J"⟩
abbrev cX6_from : ByteArray := prog_1_method_17_code
def yX6_from : MethodName := ⟨RX6, "from", "(J)J"⟩
abbrev cX6_needless : ByteArray := prog_1_method_18_code
def yX6_needless : MethodName := ⟨RX6, "needless", "(I)I"⟩
abbrev cX6_lone : ByteArray := prog_1_method_19_code
def yX6_lone : MethodName := ⟨RX6, "lone", "()I"⟩
abbrev cX6_looks : ByteArray := prog_1_method_20_code
def yX6_looks : MethodName := ⟨RX6, "looks", "(III)I"⟩
abbrev cX6_lied : ByteArray := prog_1_method_21_code
def yX6_lied : MethodName := ⟨RX6, "lied", "(II)I"⟩
abbrev cX6_falseOnes : ByteArray := prog_1_method_22_code
def yX6_falseOnes : MethodName := ⟨RX6, "falseOnes", "(II)I"⟩
abbrev cX6_fooled : ByteArray := prog_1_method_23_code
def yX6_fooled : MethodName := ⟨RX6, "fooled", "(III)I"⟩
abbrev cX6_broken : ByteArray := prog_1_method_24_code
def yX6_broken : MethodName := ⟨RX6, "broken", "(III)I"⟩
abbrev cX6_figure : ByteArray := prog_1_method_25_code
def yX6_figure : MethodName := ⟨RX6, "figure", "(III)I"⟩
abbrev cX6_soLong : ByteArray := prog_1_method_26_code
def yX6_soLong : MethodName := ⟨RX6, "soLong", "(IIII)I"⟩
abbrev cX6_turning : ByteArray := prog_1_method_27_code
def yX6_turning : MethodName := ⟨RX6, "turning", "(III)I"⟩
abbrev cX6_tower : ByteArray := prog_1_method_28_code
def yX6_tower : MethodName := ⟨RX6, "tower", "(IIJ)I"⟩
abbrev cX6_back : ByteArray := prog_1_method_29_code
def yX6_back : MethodName := ⟨RX6, "back", "(III)I"⟩
abbrev cX6_stay : ByteArray := prog_1_method_30_code
def yX6_stay : MethodName := ⟨RX6, "stay", "(IIII)I"⟩
abbrev cX6_rounds : ByteArray := prog_1_method_31_code
def yX6_rounds : MethodName := ⟨RX6, "rounds", "(IIII)I"⟩
abbrev cX6_count : ByteArray := prog_1_method_32_code
def yX6_count : MethodName := ⟨RX6, "count", "(I)I"⟩
abbrev cX6_isDivisor : ByteArray := prog_1_method_33_code
def yX6_isDivisor : MethodName := ⟨RX6, "isDivisor", "(I)Z"⟩
abbrev cX6_isRest : ByteArray := prog_1_method_34_code
def yX6_isRest : MethodName := ⟨RX6, "isRest", "(II)Z"⟩
abbrev cX6_isOddOne : ByteArray := prog_1_method_35_code
def yX6_isOddOne : MethodName := ⟨RX6, "isOddOne", "(I)Z"⟩
abbrev cX6_isBase : ByteArray := prog_1_method_36_code
def yX6_isBase : MethodName := ⟨RX6, "isBase", "(I)Z"⟩
abbrev cX6_areKeys : ByteArray := prog_1_method_37_code
def yX6_areKeys : MethodName := ⟨RX6, "areKeys", "(III)Z"⟩
abbrev cX6_isKeyPrime : ByteArray := prog_1_method_38_code
def yX6_isKeyPrime : MethodName := ⟨RX6, "isKeyPrime", "(I)Z"⟩
abbrev cX6_keySharesDivisor : ByteArray := prog_1_method_39_code
def yX6_keySharesDivisor : MethodName := ⟨RX6, "keySharesDivisor", "(III)Z"⟩
abbrev cX6_leastExponent : ByteArray := prog_1_method_40_code
def yX6_leastExponent : MethodName := ⟨RX6, "leastExponent", "(II)I"⟩
abbrev cX6_unitsOfOrder : ByteArray := prog_1_method_41_code
def yX6_unitsOfOrder : MethodName := ⟨RX6, "unitsOfOrder", "(I)I"⟩
abbrev cX6_hasOrder : ByteArray := prog_1_method_42_code
def yX6_hasOrder : MethodName := ⟨RX6, "hasOrder", "(III)Z"⟩
abbrev cX6_markMakers : ByteArray := prog_1_method_43_code
def yX6_markMakers : MethodName := ⟨RX6, "markMakers", "(II)V"⟩
abbrev cX6_firstMaker : ByteArray := prog_1_method_44_code
def yX6_firstMaker : MethodName := ⟨RX6, "firstMaker", "(II)I"⟩
abbrev cX6_leastLog : ByteArray := prog_1_method_45_code
def yX6_leastLog : MethodName := ⟨RX6, "leastLog", "(III)I"⟩
abbrev cX6_markSquares : ByteArray := prog_1_method_46_code
def yX6_markSquares : MethodName := ⟨RX6, "markSquares", "(I)V"⟩
abbrev cX6_firstNoSquare : ByteArray := prog_1_method_47_code
def yX6_firstNoSquare : MethodName := ⟨RX6, "firstNoSquare", "(I)I"⟩
abbrev cX6_runsOfSquares : ByteArray := prog_1_method_48_code
def yX6_runsOfSquares : MethodName := ⟨RX6, "runsOfSquares", "(II)I"⟩
abbrev cX6_signByPrime : ByteArray := prog_1_method_49_code
def yX6_signByPrime : MethodName := ⟨RX6, "signByPrime", "(II)I"⟩
abbrev cX6_periodOfText : ByteArray := prog_1_method_50_code
def yX6_periodOfText : MethodName := ⟨RX6, "periodOfText", "()I"⟩
abbrev cX6_looksPrimeTo : ByteArray := prog_1_method_51_code
def yX6_looksPrimeTo : MethodName := ⟨RX6, "looksPrimeTo", "(I)I"⟩
abbrev cX6_looksStronglyTo : ByteArray := prog_1_method_52_code
def yX6_looksStronglyTo : MethodName := ⟨RX6, "looksStronglyTo", "(I)I"⟩
abbrev cX6_leastWitness : ByteArray := prog_1_method_53_code
def yX6_leastWitness : MethodName := ⟨RX6, "leastWitness", "(I)I"⟩
abbrev cX6_liesToAll : ByteArray := prog_1_method_54_code
def yX6_liesToAll : MethodName := ⟨RX6, "liesToAll", "(I)Z"⟩
abbrev cX6_findLiarsToTwo : ByteArray := prog_1_method_55_code
def yX6_findLiarsToTwo : MethodName := ⟨RX6, "findLiarsToTwo", "()V"⟩
abbrev cX6_looksStronglyUpTo : ByteArray := prog_1_method_56_code
def yX6_looksStronglyUpTo : MethodName := ⟨RX6, "looksStronglyUpTo", "(II)Z"⟩
abbrev cX6_aheadOf : ByteArray := prog_1_method_57_code
def yX6_aheadOf : MethodName := ⟨RX6, "aheadOf", "(II)I"⟩
abbrev cX6_partBeside : ByteArray := prog_1_method_58_code
def yX6_partBeside : MethodName := ⟨RX6, "partBeside", "(II)I"⟩
abbrev cX6_roundOf : ByteArray := prog_1_method_59_code
def yX6_roundOf : MethodName := ⟨RX6, "roundOf", "(II)I"⟩
abbrev cX6_hasRound : ByteArray := prog_1_method_60_code
def yX6_hasRound : MethodName := ⟨RX6, "hasRound", "(III)Z"⟩
abbrev cX6_towerNumber : ByteArray := prog_1_method_61_code
def yX6_towerNumber : MethodName := ⟨RX6, "towerNumber", "(IIJ)I"⟩
abbrev cX6_towerRest : ByteArray := prog_1_method_62_code
def yX6_towerRest : MethodName := ⟨RX6, "towerRest", "(IJI)I"⟩
abbrev cX6_findSizes : ByteArray := prog_1_method_63_code
def yX6_findSizes : MethodName := ⟨RX6, "findSizes", "(II)V"⟩
abbrev cX6_powerBelowHigh : ByteArray := prog_1_method_64_code
def yX6_powerBelowHigh : MethodName := ⟨RX6, "powerBelowHigh", "(IJ)J"⟩
abbrev cX6_markStaying : ByteArray := prog_1_method_65_code
def yX6_markStaying : MethodName := ⟨RX6, "markStaying", "(III)I"⟩
abbrev cX6_stayingLetter : ByteArray := prog_1_method_66_code
def yX6_stayingLetter : MethodName := ⟨RX6, "stayingLetter", "(III)I"⟩
abbrev cX6_turnBy : ByteArray := prog_1_method_67_code
def yX6_turnBy : MethodName := ⟨RX6, "turnBy", "(II)I"⟩
def RX7 : String := "PowerRestsModel"
def TX7 : u_T := fun k => match k with
  | 0 => ("PowerRestsModel", "length", "I", false)
  | 1 => ("PowerRestsModel", "text", "[B", true)
  | 2 => ("PowerRestsModel", "at", "I", false)
  | 3 => ("PowerRestsModel", "items", "I", false)
  | 4 => ("PowerRestsModel", "period", "I", false)
  | 5 => ("PowerRestsModel", "letter", "[I", true)
  | 6 => ("PowerRestsModel", "first", "[I", true)
  | 7 => ("PowerRestsModel", "second", "[I", true)
  | 8 => ("PowerRestsModel", "by", "[I", true)
  | 9 => ("PowerRestsModel", "readItems", "I", false)
  | 10 => ("PowerRestsModel", "readLetter", "[I", true)
  | 11 => ("PowerRestsModel", "readFirst", "[I", true)
  | 12 => ("PowerRestsModel", "readSecond", "[I", true)
  | 13 => ("PowerRestsModel", "readBy", "[I", true)
  | 14 => ("PowerRestsModel", "ords", "[I", true)
  | 15 => ("PowerRestsModel", "mark", "[Z", true)
  | 16 => ("PowerRestsModel", "seen", "[Z", true)
  | _ => ("PowerRestsModel", "chain", "[I", true)
def tyX7 : Nat → FieldType := fun k => match k with
  | 0 => .int
  | 1 => .array .byte
  | 2 => .int
  | 3 => .int
  | 4 => .int
  | 5 => .array .int
  | 6 => .array .int
  | 7 => .array .int
  | 8 => .array .int
  | 9 => .int
  | 10 => .array .int
  | 11 => .array .int
  | 12 => .array .int
  | 13 => .array .int
  | 14 => .array .int
  | 15 => .array .boolean
  | 16 => .array .boolean
  | _ => .array .int
abbrev wsX70 : List Cond := u_ws RX7 TX7 18
theorem nmX7 : ∀ a, a < 18 → ∀ b, b < 18 → a ≠ b → (TX7 a).2.1 ≠ (TX7 b).2.1 := by decide +kernel
theorem tyX7_ok : ∀ k, k < 18 → parseFieldDescriptor (TX7 k).2.2.1 = some (tyX7 k) := by decide +kernel
abbrev cX7_init : ByteArray := prog_9_method_1_code
def yX7_init : MethodName := ⟨RX7, "<init>", "()V"⟩
abbrev cX7_in : ByteArray := prog_9_method_2_code
def yX7_in : MethodName := ⟨RX7, "in", "(JJJ)Z"⟩
abbrev cX7_isBy : ByteArray := prog_9_method_3_code
def yX7_isBy : MethodName := ⟨RX7, "isBy", "(I)Z"⟩
abbrev cX7_isRest : ByteArray := prog_9_method_4_code
def yX7_isRest : MethodName := ⟨RX7, "isRest", "(II)Z"⟩
abbrev cX7_common : ByteArray := prog_9_method_5_code
def yX7_common : MethodName := ⟨RX7, "common", "(II)I"⟩
abbrev cX7_isUnit : ByteArray := prog_9_method_6_code
def yX7_isUnit : MethodName := ⟨RX7, "isUnit", "(II)Z"⟩
abbrev cX7_powerOf : ByteArray := prog_9_method_7_code
def yX7_powerOf : MethodName := ⟨RX7, "powerOf", "(IIJ)I"⟩
abbrev cX7_units : ByteArray := prog_9_method_8_code
def yX7_units : MethodName := ⟨RX7, "units", "(II)I"⟩
abbrev cX7_orderOf : ByteArray := prog_9_method_9_code
def yX7_orderOf : MethodName := ⟨RX7, "orderOf", "(II)I"⟩
abbrev cX7_order : ByteArray := prog_9_method_10_code
def yX7_order : MethodName := ⟨RX7, "order", "(II)I"⟩
abbrev cX7_walks : ByteArray := prog_9_method_11_code
def yX7_walks : MethodName := ⟨RX7, "walks", "(I)I"⟩
abbrev cX7_orders : ByteArray := prog_9_method_12_code
def yX7_orders : MethodName := ⟨RX7, "orders", "(III)I"⟩
abbrev cX7_makers : ByteArray := prog_9_method_13_code
def yX7_makers : MethodName := ⟨RX7, "makers", "(II)I"⟩
abbrev cX7_power : ByteArray := prog_9_method_14_code
def yX7_power : MethodName := ⟨RX7, "power", "(IIJ)I"⟩
abbrev cX7_log : ByteArray := prog_9_method_15_code
def yX7_log : MethodName := ⟨RX7, "log", "(III)I"⟩
abbrev cX7_roots : ByteArray := prog_9_method_16_code
def yX7_roots : MethodName := ⟨RX7, "roots", "(IIII)I"⟩
abbrev cX7_squares : ByteArray := prog_9_method_17_code
def yX7_squares : MethodName := ⟨RX7, "squares", "(II)I"⟩
abbrev cX7_sign : ByteArray := prog_9_method_18_code
def yX7_sign : MethodName := ⟨RX7, "sign", "(II)I"⟩
abbrev cX7_write : ByteArray := prog_9_method_19_code
def yX7_write : MethodName := ⟨RX7, "write", "(IJ)I"⟩
abbrev cX7_wipe : ByteArray := prog_9_method_20_code
def yX7_wipe : MethodName := ⟨RX7, "wipe", "()I"⟩
abbrev cX7_number : ByteArray := prog_9_method_21_code
def yX7_number : MethodName := ⟨RX7, "number", "()I"⟩
abbrev cX7_more : ByteArray := prog_9_method_22_code
def yX7_more : MethodName := ⟨RX7, "more", "()I"⟩
abbrev cX7_isItem : ByteArray := prog_9_method_23_code
def yX7_isItem : MethodName := ⟨RX7, "isItem", "()Z"⟩
abbrev cX7_fault : ByteArray := prog_9_method_24_code
def yX7_fault : MethodName := ⟨RX7, "fault", "()I"⟩
abbrev cX7_lay : ByteArray := prog_9_method_25_code
def yX7_lay : MethodName := ⟨RX7, "lay", "()I"⟩
abbrev cX7_holds : ByteArray := prog_9_method_26_code
def yX7_holds : MethodName := ⟨RX7, "holds", "(II)Z"⟩
abbrev cX7_fails : ByteArray := prog_9_method_27_code
def yX7_fails : MethodName := ⟨RX7, "fails", "(I)I"⟩
abbrev cX7_leftOf : ByteArray := prog_9_method_28_code
def yX7_leftOf : MethodName := ⟨RX7, "leftOf", "()I"⟩
abbrev cX7_left : ByteArray := prog_9_method_29_code
def yX7_left : MethodName := ⟨RX7, "left", "()I"⟩
abbrev cX7_ith : ByteArray := prog_9_method_30_code
def yX7_ith : MethodName := ⟨RX7, "ith", "(J)J"⟩
abbrev cX7_from : ByteArray := prog_9_method_31_code
def yX7_from : MethodName := ⟨RX7, "from", "(J)J"⟩
abbrev cX7_looksAll : ByteArray := prog_9_method_32_code
def yX7_looksAll : MethodName := ⟨RX7, "looksAll", "()V"⟩
abbrev cX7_needless : ByteArray := prog_9_method_33_code
def yX7_needless : MethodName := ⟨RX7, "needless", "(I)I"⟩
abbrev cX7_many : ByteArray := prog_9_method_34_code
def yX7_many : MethodName := ⟨RX7, "many", "(I)I"⟩
abbrev cX7_lone : ByteArray := prog_9_method_35_code
def yX7_lone : MethodName := ⟨RX7, "lone", "()I"⟩
abbrev cX7_isPrime : ByteArray := prog_9_method_36_code
def yX7_isPrime : MethodName := ⟨RX7, "isPrime", "(I)Z"⟩
abbrev cX7_isOdd : ByteArray := prog_9_method_37_code
def yX7_isOdd : MethodName := ⟨RX7, "isOdd", "(I)Z"⟩
abbrev cX7_looksSo : ByteArray := prog_9_method_38_code
def yX7_looksSo : MethodName := ⟨RX7, "looksSo", "(II)Z"⟩
abbrev cX7_isStrong : ByteArray := prog_9_method_39_code
def yX7_isStrong : MethodName := ⟨RX7, "isStrong", "(II)Z"⟩
abbrev cX7_looks : ByteArray := prog_9_method_40_code
def yX7_looks : MethodName := ⟨RX7, "looks", "(III)I"⟩
abbrev cX7_lied : ByteArray := prog_9_method_41_code
def yX7_lied : MethodName := ⟨RX7, "lied", "(II)I"⟩
abbrev cX7_isFalse : ByteArray := prog_9_method_42_code
def yX7_isFalse : MethodName := ⟨RX7, "isFalse", "(I)Z"⟩
abbrev cX7_falseOnes : ByteArray := prog_9_method_43_code
def yX7_falseOnes : MethodName := ⟨RX7, "falseOnes", "(II)I"⟩
abbrev cX7_fooled : ByteArray := prog_9_method_44_code
def yX7_fooled : MethodName := ⟨RX7, "fooled", "(III)I"⟩
abbrev cX7_isBase : ByteArray := prog_9_method_45_code
def yX7_isBase : MethodName := ⟨RX7, "isBase", "(I)Z"⟩
abbrev cX7_aheadOf : ByteArray := prog_9_method_46_code
def yX7_aheadOf : MethodName := ⟨RX7, "aheadOf", "(II)I"⟩
abbrev cX7_roundOf : ByteArray := prog_9_method_47_code
def yX7_roundOf : MethodName := ⟨RX7, "roundOf", "(II)I"⟩
abbrev cX7_broken : ByteArray := prog_9_method_48_code
def yX7_broken : MethodName := ⟨RX7, "broken", "(III)I"⟩
abbrev cX7_figure : ByteArray := prog_9_method_49_code
def yX7_figure : MethodName := ⟨RX7, "figure", "(III)I"⟩
abbrev cX7_soLong : ByteArray := prog_9_method_50_code
def yX7_soLong : MethodName := ⟨RX7, "soLong", "(IIII)I"⟩
abbrev cX7_turning : ByteArray := prog_9_method_51_code
def yX7_turning : MethodName := ⟨RX7, "turning", "(III)I"⟩
abbrev cX7_share : ByteArray := prog_9_method_52_code
def yX7_share : MethodName := ⟨RX7, "share", "(I)I"⟩
abbrev cX7_lift : ByteArray := prog_9_method_53_code
def yX7_lift : MethodName := ⟨RX7, "lift", "(JJ)J"⟩
abbrev cX7_tower : ByteArray := prog_9_method_54_code
def yX7_tower : MethodName := ⟨RX7, "tower", "(IIJ)I"⟩
abbrev cX7_isPair : ByteArray := prog_9_method_55_code
def yX7_isPair : MethodName := ⟨RX7, "isPair", "(II)Z"⟩
abbrev cX7_isFree : ByteArray := prog_9_method_56_code
def yX7_isFree : MethodName := ⟨RX7, "isFree", "(III)Z"⟩
abbrev cX7_both : ByteArray := prog_9_method_57_code
def yX7_both : MethodName := ⟨RX7, "both", "(II)I"⟩
abbrev cX7_back : ByteArray := prog_9_method_58_code
def yX7_back : MethodName := ⟨RX7, "back", "(III)I"⟩
abbrev cX7_stay : ByteArray := prog_9_method_59_code
def yX7_stay : MethodName := ⟨RX7, "stay", "(IIII)I"⟩
abbrev cX7_rounds : ByteArray := prog_9_method_60_code
def yX7_rounds : MethodName := ⟨RX7, "rounds", "(IIII)I"⟩
abbrev cX7_count : ByteArray := prog_9_method_61_code
def yX7_count : MethodName := ⟨RX7, "count", "(I)I"⟩
def RJ6 : String := "java/lang/Integer"
def TJ6 : u_T := fun k => match k with
  | _ => ("", "", "", false)
def tyJ6 : Nat → FieldType := fun k => match k with
  | _ => .int
abbrev wsJ60 : List Cond := u_ws RJ6 TJ6 0
theorem nmJ6 : ∀ a, a < 0 → ∀ b, b < 0 → a ≠ b → (TJ6 a).2.1 ≠ (TJ6 b).2.1 := by decide +kernel
theorem tyJ6_ok : ∀ k, k < 0 → parseFieldDescriptor (TJ6 k).2.2.1 = some (tyJ6 k) := by decide +kernel
abbrev cJ6_bitCount_0f7a4 : ByteArray := prog_10_method_49_code
def yJ6_bitCount_0f7a4 : MethodName := ⟨RJ6, "bitCount", "(I)I"⟩
def RJ13 : String := "java/lang/Long"
def TJ13 : u_T := fun k => match k with
  | _ => ("", "", "", false)
def tyJ13 : Nat → FieldType := fun k => match k with
  | _ => .int
abbrev wsJ130 : List Cond := u_ws RJ13 TJ13 0
theorem nmJ13 : ∀ a, a < 0 → ∀ b, b < 0 → a ≠ b → (TJ13 a).2.1 ≠ (TJ13 b).2.1 := by decide +kernel
theorem tyJ13_ok : ∀ k, k < 0 → parseFieldDescriptor (TJ13 k).2.2.1 = some (tyJ13 k) := by decide +kernel
abbrev cJ13_bitCount_95d88 : ByteArray := prog_11_method_50_code
def yJ13_bitCount_95d88 : MethodName := ⟨RJ13, "bitCount", "(J)I"⟩
def RJ9 : String := "java/lang/Math"
def TJ9 : u_T := fun k => match k with
  | _ => ("", "", "", false)
def tyJ9 : Nat → FieldType := fun k => match k with
  | _ => .int
abbrev wsJ90 : List Cond := u_ws RJ9 TJ9 0
theorem nmJ9 : ∀ a, a < 0 → ∀ b, b < 0 → a ≠ b → (TJ9 a).2.1 ≠ (TJ9 b).2.1 := by decide +kernel
theorem tyJ9_ok : ∀ k, k < 0 → parseFieldDescriptor (TJ9 k).2.2.1 = some (tyJ9 k) := by decide +kernel
abbrev cJ9_min_7cf53 : ByteArray := prog_12_method_69_code
def yJ9_min_7cf53 : MethodName := ⟨RJ9, "min", "(II)I"⟩
abbrev cJ9_min_f86c9 : ByteArray := prog_12_method_70_code
def yJ9_min_f86c9 : MethodName := ⟨RJ9, "min", "(JJ)J"⟩
def RL : String := "PowerRestsLaw"
abbrev cL_law : ByteArray := code
def yL_law : MethodName := ⟨RL, "law", "([I)Z"⟩
def wsX0_init : List Cond := .code yX0_init cX0_init 1 none :: ([.methodLink RX0 1 objectInit, .instanceMethod objectInit, .code objectInit ⟨#[0xb1]⟩ 1 none, .arrayClass .int, .fieldLink RX0 9 "PowerRests$Factors" "primes" "[I", .fieldLink RX0 13 "PowerRests$Factors" "times" "[I"] ++ wsX00)
def wsX0_takeOut : List Cond := .code yX0_takeOut cX0_takeOut 6 (some .int) :: ([.fieldLink RX0 16 "PowerRests$Factors" "kinds" "I", .fieldLink RX0 9 "PowerRests$Factors" "primes" "[I", .fieldLink RX0 13 "PowerRests$Factors" "times" "[I"] ++ wsX00)
def wsX0_split : List Cond := .code yX0_split cX0_split 4 none :: ([.fieldLink RX0 16 "PowerRests$Factors" "kinds" "I", .methodLink RX0 20 yX0_takeOut, .instanceMethod yX0_takeOut, .selects RX0 yX0_takeOut yX0_takeOut, .initialized RX0, .code yX0_takeOut cX0_takeOut 6 (some .int), .fieldLink RX0 9 "PowerRests$Factors" "primes" "[I", .fieldLink RX0 13 "PowerRests$Factors" "times" "[I"] ++ wsX00)
def wsX0_sharesWith : List Cond := .code yX0_sharesWith cX0_sharesWith 3 (some .boolean) :: ([.fieldLink RX0 16 "PowerRests$Factors" "kinds" "I", .fieldLink RX0 9 "PowerRests$Factors" "primes" "[I"] ++ wsX00)
def wsX0_powerAt : List Cond := .code yX0_powerAt cX0_powerAt 4 (some .int) :: ([.fieldLink RX0 13 "PowerRests$Factors" "times" "[I", .fieldLink RX0 9 "PowerRests$Factors" "primes" "[I"] ++ wsX00)
def wsX0_unitsAt : List Cond := .code yX0_unitsAt cX0_unitsAt 3 (some .int) :: ([.fieldLink RX0 9 "PowerRests$Factors" "primes" "[I", .methodLink RX0 24 yX0_powerAt, .instanceMethod yX0_powerAt, .selects RX0 yX0_powerAt yX0_powerAt, .initialized RX0, .code yX0_powerAt cX0_powerAt 4 (some .int), .fieldLink RX0 13 "PowerRests$Factors" "times" "[I"] ++ wsX00)
def wsX0_unitCount : List Cond := .code yX0_unitCount cX0_unitCount 3 (some .int) :: ([.fieldLink RX0 16 "PowerRests$Factors" "kinds" "I", .methodLink RX0 28 yX0_unitsAt, .instanceMethod yX0_unitsAt, .selects RX0 yX0_unitsAt yX0_unitsAt, .initialized RX0, .code yX0_unitsAt cX0_unitsAt 3 (some .int), .fieldLink RX0 9 "PowerRests$Factors" "primes" "[I", .methodLink RX0 24 yX0_powerAt, .instanceMethod yX0_powerAt, .selects RX0 yX0_powerAt yX0_powerAt, .code yX0_powerAt cX0_powerAt 4 (some .int), .fieldLink RX0 13 "PowerRests$Factors" "times" "[I"] ++ wsX00)
def wsX0_hasTwoCycles : List Cond := .code yX0_hasTwoCycles cX0_hasTwoCycles 2 (some .boolean) :: ([.fieldLink RX0 9 "PowerRests$Factors" "primes" "[I", .fieldLink RX0 13 "PowerRests$Factors" "times" "[I"] ++ wsX00)
def wsX4_commonDivisor : List Cond := .code yX4_commonDivisor cX4_commonDivisor 6 (some .int) :: ([])
def wsX4_commonMultiple : List Cond := .code yX4_commonMultiple cX4_commonMultiple 3 (some .int) :: ([.methodLink RX4 7 yX4_commonDivisor, .static yX4_commonDivisor, .initialized RX4, .code yX4_commonDivisor cX4_commonDivisor 6 (some .int)])
def wsX0_greatestOrder : List Cond := .code yX0_greatestOrder cX0_greatestOrder 4 (some .int) :: ([.fieldLink RX0 16 "PowerRests$Factors" "kinds" "I", .methodLink RX0 31 yX0_hasTwoCycles, .instanceMethod yX0_hasTwoCycles, .selects RX0 yX0_hasTwoCycles yX0_hasTwoCycles, .initialized RX0, .code yX0_hasTwoCycles cX0_hasTwoCycles 2 (some .boolean), .fieldLink RX0 9 "PowerRests$Factors" "primes" "[I", .fieldLink RX0 13 "PowerRests$Factors" "times" "[I", .methodLink RX0 28 yX0_unitsAt, .instanceMethod yX0_unitsAt, .selects RX0 yX0_unitsAt yX0_unitsAt, .code yX0_unitsAt cX0_unitsAt 3 (some .int), .methodLink RX0 24 yX0_powerAt, .instanceMethod yX0_powerAt, .selects RX0 yX0_powerAt yX0_powerAt, .code yX0_powerAt cX0_powerAt 4 (some .int), .methodLink RX0 35 yX4_commonMultiple, .static yX4_commonMultiple, .initialized RX4, .code yX4_commonMultiple cX4_commonMultiple 3 (some .int), .methodLink RX4 7 yX4_commonDivisor, .static yX4_commonDivisor, .code yX4_commonDivisor cX4_commonDivisor 6 (some .int)] ++ wsX00)
def wsX0_rootsOfOne : List Cond := .code yX0_rootsOfOne cX0_rootsOfOne 4 (some .int) :: ([.fieldLink RX0 16 "PowerRests$Factors" "kinds" "I", .methodLink RX0 31 yX0_hasTwoCycles, .instanceMethod yX0_hasTwoCycles, .selects RX0 yX0_hasTwoCycles yX0_hasTwoCycles, .initialized RX0, .code yX0_hasTwoCycles cX0_hasTwoCycles 2 (some .boolean), .fieldLink RX0 9 "PowerRests$Factors" "primes" "[I", .fieldLink RX0 13 "PowerRests$Factors" "times" "[I", .methodLink RX0 40 yX4_commonDivisor, .static yX4_commonDivisor, .initialized RX4, .code yX4_commonDivisor cX4_commonDivisor 6 (some .int), .methodLink RX0 28 yX0_unitsAt, .instanceMethod yX0_unitsAt, .selects RX0 yX0_unitsAt yX0_unitsAt, .code yX0_unitsAt cX0_unitsAt 3 (some .int), .methodLink RX0 24 yX0_powerAt, .instanceMethod yX0_powerAt, .selects RX0 yX0_powerAt yX0_powerAt, .code yX0_powerAt cX0_powerAt 4 (some .int)] ++ wsX00)
def wsX1_init : List Cond := .code yX1_init cX1_init 1 none :: ([.methodLink RX1 1 objectInit, .instanceMethod objectInit, .code objectInit ⟨#[0xb1]⟩ 1 none])
def wsX5_at : List Cond := .code yX5_at cX5_at 2 (some .int) :: ([.fieldLink RX5 13 "PowerRests$Text" "length" "I", .fieldLink RX5 7 "PowerRests$Text" "bytes" "[I"] ++ wsX50)
def wsX1_number : List Cond := .code yX1_number cX1_number 6 (some .int) :: ([.fieldLink RX1 19 "PowerRests$Item" "end" "I", .methodLink RX1 7 yX5_at, .instanceMethod yX5_at, .selects RX5 yX5_at yX5_at, .initialized RX5, .code yX5_at cX5_at 2 (some .int), .fieldLink RX5 13 "PowerRests$Text" "length" "I", .fieldLink RX5 7 "PowerRests$Text" "bytes" "[I"] ++ wsX10 ++ wsX50)
def wsX1_isInBounds : List Cond := .code yX1_isInBounds cX1_isInBounds 1 (some .boolean) :: ([.fieldLink RX1 13 "PowerRests$Item" "letter" "I", .fieldLink RX1 22 "PowerRests$Item" "first" "I", .fieldLink RX1 32 "PowerRests$Item" "by" "I", .fieldLink RX1 29 "PowerRests$Item" "second" "I"] ++ wsX10)
def wsX1_read : List Cond := .code yX1_read cX1_read 3 (some .boolean) :: ([.fieldLink RX1 13 "PowerRests$Item" "letter" "I", .fieldLink RX1 19 "PowerRests$Item" "end" "I", .fieldLink RX1 22 "PowerRests$Item" "first" "I", .fieldLink RX1 29 "PowerRests$Item" "second" "I", .fieldLink RX1 32 "PowerRests$Item" "by" "I", .methodLink RX1 7 yX5_at, .instanceMethod yX5_at, .selects RX5 yX5_at yX5_at, .initialized RX5, .code yX5_at cX5_at 2 (some .int), .fieldLink RX5 13 "PowerRests$Text" "length" "I", .fieldLink RX5 7 "PowerRests$Text" "bytes" "[I", .methodLink RX1 25 yX1_number, .instanceMethod yX1_number, .selects RX1 yX1_number yX1_number, .initialized RX1, .code yX1_number cX1_number 6 (some .int), .methodLink RX1 35 yX1_isInBounds, .instanceMethod yX1_isInBounds, .selects RX1 yX1_isInBounds yX1_isInBounds, .code yX1_isInBounds cX1_isInBounds 1 (some .boolean)] ++ wsX10 ++ wsX50)
def wsX4_raise : List Cond := .code yX4_raise cX4_raise 12 (some .int) :: ([])
def wsX1_allows : List Cond := .code yX1_allows cX1_allows 2 (some .boolean) :: ([.fieldLink RX1 13 "PowerRests$Item" "letter" "I", .fieldLink RX1 32 "PowerRests$Item" "by" "I", .fieldLink RX1 22 "PowerRests$Item" "first" "I", .fieldLink RX1 29 "PowerRests$Item" "second" "I", .methodLink RX1 39 yX4_raise, .static yX4_raise, .initialized RX4, .code yX4_raise cX4_raise 12 (some .int)] ++ wsX10)
def wsX2_init : List Cond := .code yX2_init cX2_init 1 none :: ([.methodLink RX2 3 objectInit, .instanceMethod objectInit, .code objectInit ⟨#[0xb1]⟩ 1 none, .classLink RX2 11 "[[J", .arrayClass .long, .fieldLink RX2 13 "PowerRests$Laid" "words" "[[J", .arrayClass .int, .fieldLink RX2 16 "PowerRests$Laid" "divisors" "[I", .arrayClass .boolean, .fieldLink RX2 20 "PowerRests$Laid" "allowed" "[Z", .fieldLink RX2 24 "PowerRests$Laid" "period" "I", .fieldLink RX2 28 "PowerRests$Laid" "leftMany" "I"] ++ wsX20)
def wsX2_clear : List Cond := .code yX2_clear cX2_clear 1 none :: ([.fieldLink RX2 31 "PowerRests$Laid" "items" "I"] ++ wsX20)
def wsX2_add : List Cond := .code yX2_add cX2_add 7 none :: ([.fieldLink RX2 31 "PowerRests$Laid" "items" "I", .fieldLink RX2 20 "PowerRests$Laid" "allowed" "[Z", .fieldLink RX2 13 "PowerRests$Laid" "words" "[[J", .fieldLink RX2 16 "PowerRests$Laid" "divisors" "[I", .methodLink RX2 39 yX1_allows, .instanceMethod yX1_allows, .selects RX1 yX1_allows yX1_allows, .initialized RX1, .code yX1_allows cX1_allows 2 (some .boolean), .fieldLink RX1 13 "PowerRests$Item" "letter" "I", .fieldLink RX1 32 "PowerRests$Item" "by" "I", .fieldLink RX1 22 "PowerRests$Item" "first" "I", .fieldLink RX1 29 "PowerRests$Item" "second" "I", .methodLink RX1 39 yX4_raise, .static yX4_raise, .initialized RX4, .code yX4_raise cX4_raise 12 (some .int)] ++ wsX20 ++ wsX10)
def wsX2_all : List Cond := .code yX2_all cX2_all 1 (some .int) :: ([.fieldLink RX2 31 "PowerRests$Laid" "items" "I"] ++ wsX20)
def wsX2_wordOf : List Cond := .code yX2_wordOf cX2_wordOf 7 (some .long) :: ([.constantLong RX2 43 (-1), .fieldLink RX2 31 "PowerRests$Laid" "items" "I", .fieldLink RX2 13 "PowerRests$Laid" "words" "[[J", .fieldLink RX2 16 "PowerRests$Laid" "divisors" "[I"] ++ wsX20)
def wsJ13_bitCount_95d88 : List Cond := .code yJ13_bitCount_95d88 cJ13_bitCount_95d88 2 (some .int) :: ([.constantLong RJ13 314 (6148914691236517205), .constantLong RJ13 316 (3689348814741910323), .constantLong RJ13 318 (1085102592571150095)])
def wsX2_close : List Cond := .code yX2_close cX2_close 6 none :: ([.fieldLink RX2 24 "PowerRests$Laid" "period" "I", .fieldLink RX2 28 "PowerRests$Laid" "leftMany" "I", .constantLong RX2 43 (-1), .methodLink RX2 45 yX2_all, .instanceMethod yX2_all, .selects RX2 yX2_all yX2_all, .initialized RX2, .code yX2_all cX2_all 1 (some .int), .fieldLink RX2 31 "PowerRests$Laid" "items" "I", .methodLink RX2 49 yX2_wordOf, .instanceMethod yX2_wordOf, .selects RX2 yX2_wordOf yX2_wordOf, .code yX2_wordOf cX2_wordOf 7 (some .long), .fieldLink RX2 13 "PowerRests$Laid" "words" "[[J", .fieldLink RX2 16 "PowerRests$Laid" "divisors" "[I", .methodLink RX2 53 yJ13_bitCount_95d88, .static yJ13_bitCount_95d88, .initialized RJ13, .code yJ13_bitCount_95d88 cJ13_bitCount_95d88 2 (some .int), .constantLong RJ13 314 (6148914691236517205), .constantLong RJ13 316 (3689348814741910323), .constantLong RJ13 318 (1085102592571150095)] ++ wsX20)
def wsX2_lowestBit : List Cond := .code yX2_lowestBit cX2_lowestBit 2 (some .int) :: ([.methodLink RX2 53 yJ13_bitCount_95d88, .static yJ13_bitCount_95d88, .initialized RJ13, .code yJ13_bitCount_95d88 cJ13_bitCount_95d88 2 (some .int), .constantLong RJ13 314 (6148914691236517205), .constantLong RJ13 316 (3689348814741910323), .constantLong RJ13 318 (1085102592571150095)])
def wsX2_bitAt : List Cond := .code yX2_bitAt cX2_bitAt 6 (some .int) :: ([.methodLink RX2 67 yX2_lowestBit, .static yX2_lowestBit, .initialized RX2, .code yX2_lowestBit cX2_lowestBit 2 (some .int), .methodLink RX2 53 yJ13_bitCount_95d88, .static yJ13_bitCount_95d88, .initialized RJ13, .code yJ13_bitCount_95d88 cJ13_bitCount_95d88 2 (some .int), .constantLong RJ13 314 (6148914691236517205), .constantLong RJ13 316 (3689348814741910323), .constantLong RJ13 318 (1085102592571150095)])
def wsX2_leftAt_r1 : List Cond := [Cond.fieldLink RX2 28 "PowerRests$Laid" "leftMany" "I", Cond.constantLong RX2 59 (-4), Cond.fieldLink RX2 24 "PowerRests$Laid" "period" "I", Cond.constantLong RX2 61 (64), Cond.methodLink RX2 45 yX2_all, Cond.instanceMethod yX2_all, Cond.selects RX2 yX2_all yX2_all, Cond.initialized RX2, Cond.code yX2_all cX2_all 1 (some .int), Cond.fieldLink RX2 31 "PowerRests$Laid" "items" "I", Cond.methodLink RX2 49 yX2_wordOf, Cond.instanceMethod yX2_wordOf, Cond.selects RX2 yX2_wordOf yX2_wordOf, Cond.code yX2_wordOf cX2_wordOf 7 (some .long), Cond.constantLong RX2 43 (-1), Cond.fieldLink RX2 13 "PowerRests$Laid" "words" "[[J", Cond.fieldLink RX2 16 "PowerRests$Laid" "divisors" "[I", Cond.methodLink RX2 53 yJ13_bitCount_95d88, Cond.static yJ13_bitCount_95d88, Cond.initialized RJ13, Cond.code yJ13_bitCount_95d88 cJ13_bitCount_95d88 2 (some .int), Cond.constantLong RJ13 314 (6148914691236517205), Cond.constantLong RJ13 316 (3689348814741910323), Cond.constantLong RJ13 318 (1085102592571150095)]
def wsX2_leftAt_r2 : List Cond := [Cond.methodLink RX2 63 yX2_bitAt, Cond.static yX2_bitAt, Cond.code yX2_bitAt cX2_bitAt 6 (some .int), Cond.methodLink RX2 67 yX2_lowestBit, Cond.static yX2_lowestBit, Cond.code yX2_lowestBit cX2_lowestBit 2 (some .int)]
def wsX2_leftAt : List Cond := .code yX2_leftAt cX2_leftAt 10 (some .long) :: ((wsX2_leftAt_r1 ++ wsX2_leftAt_r2) ++ wsX20)
def wsX2_leastFrom_r1 : List Cond := [Cond.fieldLink RX2 28 "PowerRests$Laid" "leftMany" "I", Cond.constantLong RX2 59 (-4), Cond.constantLong RX2 61 (64), Cond.constantLong RX2 43 (-1), Cond.fieldLink RX2 24 "PowerRests$Laid" "period" "I", Cond.methodLink RX2 45 yX2_all, Cond.instanceMethod yX2_all, Cond.selects RX2 yX2_all yX2_all, Cond.initialized RX2, Cond.code yX2_all cX2_all 1 (some .int), Cond.fieldLink RX2 31 "PowerRests$Laid" "items" "I", Cond.methodLink RX2 49 yX2_wordOf, Cond.instanceMethod yX2_wordOf, Cond.selects RX2 yX2_wordOf yX2_wordOf, Cond.code yX2_wordOf cX2_wordOf 7 (some .long), Cond.fieldLink RX2 13 "PowerRests$Laid" "words" "[[J", Cond.fieldLink RX2 16 "PowerRests$Laid" "divisors" "[I", Cond.methodLink RX2 67 yX2_lowestBit, Cond.static yX2_lowestBit, Cond.code yX2_lowestBit cX2_lowestBit 2 (some .int), Cond.methodLink RX2 53 yJ13_bitCount_95d88, Cond.static yJ13_bitCount_95d88, Cond.initialized RJ13, Cond.code yJ13_bitCount_95d88 cJ13_bitCount_95d88 2 (some .int)]
def wsX2_leastFrom_r2 : List Cond := [Cond.constantLong RJ13 314 (6148914691236517205), Cond.constantLong RJ13 316 (3689348814741910323), Cond.constantLong RJ13 318 (1085102592571150095)]
def wsX2_leastFrom : List Cond := .code yX2_leastFrom cX2_leastFrom 8 (some .long) :: ((wsX2_leastFrom_r1 ++ wsX2_leastFrom_r2) ++ wsX20)
def wsX2_saysNothingNew : List Cond := .code yX2_saysNothingNew cX2_saysNothingNew 4 (some .boolean) :: ([.fieldLink RX2 24 "PowerRests$Laid" "period" "I", .methodLink RX2 45 yX2_all, .instanceMethod yX2_all, .selects RX2 yX2_all yX2_all, .initialized RX2, .code yX2_all cX2_all 1 (some .int), .fieldLink RX2 31 "PowerRests$Laid" "items" "I", .methodLink RX2 49 yX2_wordOf, .instanceMethod yX2_wordOf, .selects RX2 yX2_wordOf yX2_wordOf, .code yX2_wordOf cX2_wordOf 7 (some .long), .constantLong RX2 43 (-1), .fieldLink RX2 13 "PowerRests$Laid" "words" "[[J", .fieldLink RX2 16 "PowerRests$Laid" "divisors" "[I"] ++ wsX20)
def wsJ6_bitCount_0f7a4 : List Cond := .code yJ6_bitCount_0f7a4 cJ6_bitCount_0f7a4 1 (some .int) :: ([.constant RJ6 265 (1431655765), .constant RJ6 266 (858993459), .constant RJ6 267 (252645135)])
def wsX2_periodOf : List Cond := .code yX2_periodOf cX2_periodOf 4 (some .int) :: ([.fieldLink RX2 31 "PowerRests$Laid" "items" "I", .fieldLink RX2 16 "PowerRests$Laid" "divisors" "[I", .methodLink RX2 81 yX4_commonMultiple, .static yX4_commonMultiple, .initialized RX4, .code yX4_commonMultiple cX4_commonMultiple 3 (some .int), .methodLink RX4 7 yX4_commonDivisor, .static yX4_commonDivisor, .code yX4_commonDivisor cX4_commonDivisor 6 (some .int)] ++ wsX20)
def wsX2_leavesNothing : List Cond := .code yX2_leavesNothing cX2_leavesNothing 4 (some .boolean) :: ([.methodLink RX2 78 yX2_periodOf, .instanceMethod yX2_periodOf, .selects RX2 yX2_periodOf yX2_periodOf, .initialized RX2, .code yX2_periodOf cX2_periodOf 4 (some .int), .fieldLink RX2 31 "PowerRests$Laid" "items" "I", .fieldLink RX2 16 "PowerRests$Laid" "divisors" "[I", .methodLink RX2 81 yX4_commonMultiple, .static yX4_commonMultiple, .initialized RX4, .code yX4_commonMultiple cX4_commonMultiple 3 (some .int), .methodLink RX4 7 yX4_commonDivisor, .static yX4_commonDivisor, .code yX4_commonDivisor cX4_commonDivisor 6 (some .int), .methodLink RX2 49 yX2_wordOf, .instanceMethod yX2_wordOf, .selects RX2 yX2_wordOf yX2_wordOf, .code yX2_wordOf cX2_wordOf 7 (some .long), .constantLong RX2 43 (-1), .fieldLink RX2 13 "PowerRests$Laid" "words" "[[J"] ++ wsX20)
def wsX2_leastEmptySet_r1 : List Cond := [Cond.fieldLink RX2 28 "PowerRests$Laid" "leftMany" "I", Cond.fieldLink RX2 31 "PowerRests$Laid" "items" "I", Cond.methodLink RX2 45 yX2_all, Cond.instanceMethod yX2_all, Cond.selects RX2 yX2_all yX2_all, Cond.initialized RX2, Cond.code yX2_all cX2_all 1 (some .int), Cond.methodLink RX2 70 yJ6_bitCount_0f7a4, Cond.static yJ6_bitCount_0f7a4, Cond.initialized RJ6, Cond.code yJ6_bitCount_0f7a4 cJ6_bitCount_0f7a4 1 (some .int), Cond.constant RJ6 265 (1431655765), Cond.constant RJ6 266 (858993459), Cond.constant RJ6 267 (252645135), Cond.methodLink RX2 75 yX2_leavesNothing, Cond.instanceMethod yX2_leavesNothing, Cond.selects RX2 yX2_leavesNothing yX2_leavesNothing, Cond.code yX2_leavesNothing cX2_leavesNothing 4 (some .boolean), Cond.methodLink RX2 78 yX2_periodOf, Cond.instanceMethod yX2_periodOf, Cond.selects RX2 yX2_periodOf yX2_periodOf, Cond.code yX2_periodOf cX2_periodOf 4 (some .int), Cond.fieldLink RX2 16 "PowerRests$Laid" "divisors" "[I", Cond.methodLink RX2 81 yX4_commonMultiple]
def wsX2_leastEmptySet_r2 : List Cond := [Cond.static yX4_commonMultiple, Cond.initialized RX4, Cond.code yX4_commonMultiple cX4_commonMultiple 3 (some .int), Cond.methodLink RX4 7 yX4_commonDivisor, Cond.static yX4_commonDivisor, Cond.code yX4_commonDivisor cX4_commonDivisor 6 (some .int), Cond.methodLink RX2 49 yX2_wordOf, Cond.instanceMethod yX2_wordOf, Cond.selects RX2 yX2_wordOf yX2_wordOf, Cond.code yX2_wordOf cX2_wordOf 7 (some .long), Cond.constantLong RX2 43 (-1), Cond.fieldLink RX2 13 "PowerRests$Laid" "words" "[[J"]
def wsX2_leastEmptySet : List Cond := .code yX2_leastEmptySet cX2_leastEmptySet 3 (some .int) :: ((wsX2_leastEmptySet_r1 ++ wsX2_leastEmptySet_r2) ++ wsX20)
def wsX3_init : List Cond := .code yX3_init cX3_init 1 none :: ([.methodLink RX3 3 objectInit, .instanceMethod objectInit, .code objectInit ⟨#[0xb1]⟩ 1 none, .constant RX3 9 (50000), .arrayClass .int, .fieldLink RX3 10 "PowerRests$Marks" "marked" "[I"] ++ wsX30)
def wsX3_wipeAll : List Cond := .code yX3_wipeAll cX3_wipeAll 1 none :: ([.fieldLink RX3 16 "PowerRests$Marks" "newest" "I"] ++ wsX30)
def wsX3_put : List Cond := .code yX3_put cX3_put 2 none :: ([.fieldLink RX3 10 "PowerRests$Marks" "marked" "[I", .fieldLink RX3 16 "PowerRests$Marks" "newest" "I"] ++ wsX30)
def wsX3_has : List Cond := .code yX3_has cX3_has 2 (some .boolean) :: ([.fieldLink RX3 10 "PowerRests$Marks" "marked" "[I", .fieldLink RX3 16 "PowerRests$Marks" "newest" "I"] ++ wsX30)
def wsX3_pick : List Cond := .code yX3_pick cX3_pick 5 (some .int) :: ([.methodLink RX3 20 yX3_has, .instanceMethod yX3_has, .selects RX3 yX3_has yX3_has, .initialized RX3, .code yX3_has cX3_has 2 (some .boolean), .fieldLink RX3 10 "PowerRests$Marks" "marked" "[I", .fieldLink RX3 16 "PowerRests$Marks" "newest" "I"] ++ wsX30)
def wsX4_isPrime : List Cond := .code yX4_isPrime cX4_isPrime 2 (some .boolean) :: ([])
def wsX4_twosOf : List Cond := .code yX4_twosOf cX4_twosOf 3 (some .int) :: ([])
def wsX4_oddPart : List Cond := .code yX4_oddPart cX4_oddPart 1 (some .int) :: ([.methodLink RX4 13 yX4_twosOf, .static yX4_twosOf, .initialized RX4, .code yX4_twosOf cX4_twosOf 3 (some .int)])
def wsX4_looksStrongly : List Cond := .code yX4_looksStrongly cX4_looksStrongly 6 (some .boolean) :: ([.methodLink RX4 13 yX4_twosOf, .static yX4_twosOf, .initialized RX4, .code yX4_twosOf cX4_twosOf 3 (some .int), .methodLink RX4 17 yX4_oddPart, .static yX4_oddPart, .code yX4_oddPart cX4_oddPart 1 (some .int), .methodLink RX4 20 yX4_raise, .static yX4_raise, .code yX4_raise cX4_raise 12 (some .int)])
def wsX5_init : List Cond := .code yX5_init cX5_init 1 none :: ([.methodLink RX5 1 objectInit, .instanceMethod objectInit, .code objectInit ⟨#[0xb1]⟩ 1 none, .arrayClass .int, .fieldLink RX5 7 "PowerRests$Text" "bytes" "[I"] ++ wsX50)
def wsX5_hasRoom : List Cond := .code yX5_hasRoom cX5_hasRoom 2 (some .boolean) :: ([.fieldLink RX5 13 "PowerRests$Text" "length" "I", .fieldLink RX5 7 "PowerRests$Text" "bytes" "[I"] ++ wsX50)
def wsX5_append : List Cond := .code yX5_append cX5_append 5 none :: ([.fieldLink RX5 13 "PowerRests$Text" "length" "I", .fieldLink RX5 7 "PowerRests$Text" "bytes" "[I"] ++ wsX50)
def wsX6_init_r1 : List Cond := [Cond.methodLink RX6 1 objectInit, Cond.instanceMethod objectInit, Cond.code objectInit ⟨#[0xb1]⟩ 1 none, Cond.classLink RX6 7 RX0, Cond.instantiable RX0 3, Cond.initialized RX0, Cond.fieldLink RX6 10 "PowerRests" "ofN" "LPowerRests$Factors;", Cond.fieldLink RX6 16 "PowerRests" "ofOrder" "LPowerRests$Factors;", Cond.classLink RX6 19 RX3, Cond.instantiable RX3 2, Cond.initialized RX3, Cond.fieldLink RX6 22 "PowerRests" "marks" "LPowerRests$Marks;", Cond.classLink RX6 26 RX5, Cond.instantiable RX5 2, Cond.initialized RX5, Cond.fieldLink RX6 29 "PowerRests" "text" "LPowerRests$Text;", Cond.classLink RX6 33 RX1, Cond.instantiable RX1 5, Cond.initialized RX1, Cond.fieldLink RX6 36 "PowerRests" "reader" "LPowerRests$Item;", Cond.classLink RX6 40 RX2, Cond.instantiable RX2 6, Cond.initialized RX2, Cond.fieldLink RX6 43 "PowerRests" "laid" "LPowerRests$Laid;"]
def wsX6_init_r2 : List Cond := [Cond.arrayClass .int, Cond.fieldLink RX6 47 "PowerRests" "sizes" "[I", Cond.fieldLink RX6 51 "PowerRests" "liarsToTwo" "[I", Cond.instanceMethod yX0_init, Cond.code yX0_init cX0_init 1 none, Cond.methodLink RX0 1 objectInit, Cond.fieldLink RX0 9 "PowerRests$Factors" "primes" "[I", Cond.fieldLink RX0 13 "PowerRests$Factors" "times" "[I", Cond.instanceMethod yX3_init, Cond.code yX3_init cX3_init 1 none, Cond.methodLink RX3 3 objectInit, Cond.constant RX3 9 (50000), Cond.fieldLink RX3 10 "PowerRests$Marks" "marked" "[I", Cond.instanceMethod yX5_init, Cond.code yX5_init cX5_init 1 none, Cond.methodLink RX5 1 objectInit, Cond.fieldLink RX5 7 "PowerRests$Text" "bytes" "[I", Cond.instanceMethod yX1_init, Cond.code yX1_init cX1_init 1 none, Cond.methodLink RX1 1 objectInit, Cond.instanceMethod yX2_init, Cond.code yX2_init cX2_init 1 none, Cond.methodLink RX2 3 objectInit, Cond.classLink RX2 11 "[[J"]
def wsX6_init_r3 : List Cond := [Cond.arrayClass .long, Cond.fieldLink RX2 13 "PowerRests$Laid" "words" "[[J", Cond.fieldLink RX2 16 "PowerRests$Laid" "divisors" "[I", Cond.arrayClass .boolean, Cond.fieldLink RX2 20 "PowerRests$Laid" "allowed" "[Z", Cond.fieldLink RX2 24 "PowerRests$Laid" "period" "I", Cond.fieldLink RX2 28 "PowerRests$Laid" "leftMany" "I"]
def wsX6_init : List Cond := .code yX6_init cX6_init 1 none :: ((wsX6_init_r1 ++ (wsX6_init_r2 ++ wsX6_init_r3)) ++ wsX00 ++ wsX60 ++ wsX30 ++ wsX50 ++ wsX10 ++ wsX20)
def wsX6_isDivisor : List Cond := .code yX6_isDivisor cX6_isDivisor 1 (some .boolean) :: ([.constant RX6 77 (50000)])
def wsX6_units_r1 : List Cond := [Cond.fieldLink RX6 10 "PowerRests" "ofN" "LPowerRests$Factors;", Cond.methodLink RX6 54 yX6_isDivisor, Cond.static yX6_isDivisor, Cond.initialized RX6, Cond.code yX6_isDivisor cX6_isDivisor 1 (some .boolean), Cond.constant RX6 77 (50000), Cond.methodLink RX6 58 yX0_split, Cond.instanceMethod yX0_split, Cond.selects RX0 yX0_split yX0_split, Cond.initialized RX0, Cond.code yX0_split cX0_split 4 none, Cond.fieldLink RX0 16 "PowerRests$Factors" "kinds" "I", Cond.methodLink RX0 20 yX0_takeOut, Cond.instanceMethod yX0_takeOut, Cond.selects RX0 yX0_takeOut yX0_takeOut, Cond.code yX0_takeOut cX0_takeOut 6 (some .int), Cond.fieldLink RX0 9 "PowerRests$Factors" "primes" "[I", Cond.fieldLink RX0 13 "PowerRests$Factors" "times" "[I", Cond.methodLink RX6 62 yX0_unitCount, Cond.instanceMethod yX0_unitCount, Cond.selects RX0 yX0_unitCount yX0_unitCount, Cond.code yX0_unitCount cX0_unitCount 3 (some .int), Cond.methodLink RX0 28 yX0_unitsAt, Cond.instanceMethod yX0_unitsAt]
def wsX6_units_r2 : List Cond := [Cond.selects RX0 yX0_unitsAt yX0_unitsAt, Cond.code yX0_unitsAt cX0_unitsAt 3 (some .int), Cond.methodLink RX0 24 yX0_powerAt, Cond.instanceMethod yX0_powerAt, Cond.selects RX0 yX0_powerAt yX0_powerAt, Cond.code yX0_powerAt cX0_powerAt 4 (some .int), Cond.methodLink RX6 66 yX0_sharesWith, Cond.instanceMethod yX0_sharesWith, Cond.selects RX0 yX0_sharesWith yX0_sharesWith, Cond.code yX0_sharesWith cX0_sharesWith 3 (some .boolean)]
def wsX6_units : List Cond := .code yX6_units cX6_units 5 (some .int) :: ((wsX6_units_r1 ++ wsX6_units_r2) ++ wsX60 ++ wsX00)
def wsX6_isRest : List Cond := .code yX6_isRest cX6_isRest 2 (some .boolean) :: ([])
def wsX6_leastExponent_r1 : List Cond := [Cond.fieldLink RX6 10 "PowerRests" "ofN" "LPowerRests$Factors;", Cond.fieldLink RX6 16 "PowerRests" "ofOrder" "LPowerRests$Factors;", Cond.methodLink RX6 58 yX0_split, Cond.instanceMethod yX0_split, Cond.selects RX0 yX0_split yX0_split, Cond.initialized RX0, Cond.code yX0_split cX0_split 4 none, Cond.fieldLink RX0 16 "PowerRests$Factors" "kinds" "I", Cond.methodLink RX0 20 yX0_takeOut, Cond.instanceMethod yX0_takeOut, Cond.selects RX0 yX0_takeOut yX0_takeOut, Cond.code yX0_takeOut cX0_takeOut 6 (some .int), Cond.fieldLink RX0 9 "PowerRests$Factors" "primes" "[I", Cond.fieldLink RX0 13 "PowerRests$Factors" "times" "[I", Cond.methodLink RX6 78 yX0_greatestOrder, Cond.instanceMethod yX0_greatestOrder, Cond.selects RX0 yX0_greatestOrder yX0_greatestOrder, Cond.code yX0_greatestOrder cX0_greatestOrder 4 (some .int), Cond.methodLink RX0 31 yX0_hasTwoCycles, Cond.instanceMethod yX0_hasTwoCycles, Cond.selects RX0 yX0_hasTwoCycles yX0_hasTwoCycles, Cond.code yX0_hasTwoCycles cX0_hasTwoCycles 2 (some .boolean), Cond.methodLink RX0 28 yX0_unitsAt, Cond.instanceMethod yX0_unitsAt]
def wsX6_leastExponent_r2 : List Cond := [Cond.selects RX0 yX0_unitsAt yX0_unitsAt, Cond.code yX0_unitsAt cX0_unitsAt 3 (some .int), Cond.methodLink RX0 24 yX0_powerAt, Cond.instanceMethod yX0_powerAt, Cond.selects RX0 yX0_powerAt yX0_powerAt, Cond.code yX0_powerAt cX0_powerAt 4 (some .int), Cond.methodLink RX0 35 yX4_commonMultiple, Cond.static yX4_commonMultiple, Cond.initialized RX4, Cond.code yX4_commonMultiple cX4_commonMultiple 3 (some .int), Cond.methodLink RX4 7 yX4_commonDivisor, Cond.static yX4_commonDivisor, Cond.code yX4_commonDivisor cX4_commonDivisor 6 (some .int), Cond.methodLink RX6 94 yX4_raise, Cond.static yX4_raise, Cond.code yX4_raise cX4_raise 12 (some .int)]
def wsX6_leastExponent : List Cond := .code yX6_leastExponent cX6_leastExponent 7 (some .int) :: ((wsX6_leastExponent_r1 ++ wsX6_leastExponent_r2) ++ wsX60 ++ wsX00)
def wsX6_order_r1 : List Cond := [Cond.fieldLink RX6 10 "PowerRests" "ofN" "LPowerRests$Factors;", Cond.methodLink RX6 54 yX6_isDivisor, Cond.static yX6_isDivisor, Cond.initialized RX6, Cond.code yX6_isDivisor cX6_isDivisor 1 (some .boolean), Cond.constant RX6 77 (50000), Cond.methodLink RX6 69 yX6_isRest, Cond.static yX6_isRest, Cond.code yX6_isRest cX6_isRest 2 (some .boolean), Cond.methodLink RX6 58 yX0_split, Cond.instanceMethod yX0_split, Cond.selects RX0 yX0_split yX0_split, Cond.initialized RX0, Cond.code yX0_split cX0_split 4 none, Cond.fieldLink RX0 16 "PowerRests$Factors" "kinds" "I", Cond.methodLink RX0 20 yX0_takeOut, Cond.instanceMethod yX0_takeOut, Cond.selects RX0 yX0_takeOut yX0_takeOut, Cond.code yX0_takeOut cX0_takeOut 6 (some .int), Cond.fieldLink RX0 9 "PowerRests$Factors" "primes" "[I", Cond.fieldLink RX0 13 "PowerRests$Factors" "times" "[I", Cond.methodLink RX6 66 yX0_sharesWith, Cond.instanceMethod yX0_sharesWith, Cond.selects RX0 yX0_sharesWith yX0_sharesWith]
def wsX6_order_r2 : List Cond := [Cond.code yX0_sharesWith cX0_sharesWith 3 (some .boolean), Cond.methodLink RX6 73 yX6_leastExponent, Cond.instanceMethod yX6_leastExponent, Cond.selects RX6 yX6_leastExponent yX6_leastExponent, Cond.code yX6_leastExponent cX6_leastExponent 7 (some .int), Cond.fieldLink RX6 16 "PowerRests" "ofOrder" "LPowerRests$Factors;", Cond.methodLink RX6 78 yX0_greatestOrder, Cond.instanceMethod yX0_greatestOrder, Cond.selects RX0 yX0_greatestOrder yX0_greatestOrder, Cond.code yX0_greatestOrder cX0_greatestOrder 4 (some .int), Cond.methodLink RX0 31 yX0_hasTwoCycles, Cond.instanceMethod yX0_hasTwoCycles, Cond.selects RX0 yX0_hasTwoCycles yX0_hasTwoCycles, Cond.code yX0_hasTwoCycles cX0_hasTwoCycles 2 (some .boolean), Cond.methodLink RX0 28 yX0_unitsAt, Cond.instanceMethod yX0_unitsAt, Cond.selects RX0 yX0_unitsAt yX0_unitsAt, Cond.code yX0_unitsAt cX0_unitsAt 3 (some .int), Cond.methodLink RX0 24 yX0_powerAt, Cond.instanceMethod yX0_powerAt, Cond.selects RX0 yX0_powerAt yX0_powerAt, Cond.code yX0_powerAt cX0_powerAt 4 (some .int), Cond.methodLink RX0 35 yX4_commonMultiple, Cond.static yX4_commonMultiple]
def wsX6_order_r3 : List Cond := [Cond.initialized RX4, Cond.code yX4_commonMultiple cX4_commonMultiple 3 (some .int), Cond.methodLink RX4 7 yX4_commonDivisor, Cond.static yX4_commonDivisor, Cond.code yX4_commonDivisor cX4_commonDivisor 6 (some .int), Cond.methodLink RX6 94 yX4_raise, Cond.static yX4_raise, Cond.code yX4_raise cX4_raise 12 (some .int)]
def wsX6_order : List Cond := .code yX6_order cX6_order 3 (some .int) :: ((wsX6_order_r1 ++ (wsX6_order_r2 ++ wsX6_order_r3)) ++ wsX60 ++ wsX00)
def wsX6_unitsOfOrder_r1 : List Cond := [Cond.fieldLink RX6 16 "PowerRests" "ofOrder" "LPowerRests$Factors;", Cond.fieldLink RX6 10 "PowerRests" "ofN" "LPowerRests$Factors;", Cond.methodLink RX6 58 yX0_split, Cond.instanceMethod yX0_split, Cond.selects RX0 yX0_split yX0_split, Cond.initialized RX0, Cond.code yX0_split cX0_split 4 none, Cond.fieldLink RX0 16 "PowerRests$Factors" "kinds" "I", Cond.methodLink RX0 20 yX0_takeOut, Cond.instanceMethod yX0_takeOut, Cond.selects RX0 yX0_takeOut yX0_takeOut, Cond.code yX0_takeOut cX0_takeOut 6 (some .int), Cond.fieldLink RX0 9 "PowerRests$Factors" "primes" "[I", Cond.fieldLink RX0 13 "PowerRests$Factors" "times" "[I", Cond.methodLink RX6 270 yX0_rootsOfOne, Cond.instanceMethod yX0_rootsOfOne, Cond.selects RX0 yX0_rootsOfOne yX0_rootsOfOne, Cond.code yX0_rootsOfOne cX0_rootsOfOne 4 (some .int), Cond.methodLink RX0 31 yX0_hasTwoCycles, Cond.instanceMethod yX0_hasTwoCycles, Cond.selects RX0 yX0_hasTwoCycles yX0_hasTwoCycles, Cond.code yX0_hasTwoCycles cX0_hasTwoCycles 2 (some .boolean), Cond.methodLink RX0 40 yX4_commonDivisor, Cond.static yX4_commonDivisor]
def wsX6_unitsOfOrder_r2 : List Cond := [Cond.initialized RX4, Cond.code yX4_commonDivisor cX4_commonDivisor 6 (some .int), Cond.methodLink RX0 28 yX0_unitsAt, Cond.instanceMethod yX0_unitsAt, Cond.selects RX0 yX0_unitsAt yX0_unitsAt, Cond.code yX0_unitsAt cX0_unitsAt 3 (some .int), Cond.methodLink RX0 24 yX0_powerAt, Cond.instanceMethod yX0_powerAt, Cond.selects RX0 yX0_powerAt yX0_powerAt, Cond.code yX0_powerAt cX0_powerAt 4 (some .int)]
def wsX6_unitsOfOrder : List Cond := .code yX6_unitsOfOrder cX6_unitsOfOrder 6 (some .int) :: ((wsX6_unitsOfOrder_r1 ++ wsX6_unitsOfOrder_r2) ++ wsX60 ++ wsX00)
def wsX6_orders_r1 : List Cond := [Cond.constant RX6 77 (50000), Cond.fieldLink RX6 10 "PowerRests" "ofN" "LPowerRests$Factors;", Cond.methodLink RX6 54 yX6_isDivisor, Cond.static yX6_isDivisor, Cond.initialized RX6, Cond.code yX6_isDivisor cX6_isDivisor 1 (some .boolean), Cond.methodLink RX6 58 yX0_split, Cond.instanceMethod yX0_split, Cond.selects RX0 yX0_split yX0_split, Cond.initialized RX0, Cond.code yX0_split cX0_split 4 none, Cond.fieldLink RX0 16 "PowerRests$Factors" "kinds" "I", Cond.methodLink RX0 20 yX0_takeOut, Cond.instanceMethod yX0_takeOut, Cond.selects RX0 yX0_takeOut yX0_takeOut, Cond.code yX0_takeOut cX0_takeOut 6 (some .int), Cond.fieldLink RX0 9 "PowerRests$Factors" "primes" "[I", Cond.fieldLink RX0 13 "PowerRests$Factors" "times" "[I", Cond.methodLink RX6 78 yX0_greatestOrder, Cond.instanceMethod yX0_greatestOrder, Cond.selects RX0 yX0_greatestOrder yX0_greatestOrder, Cond.code yX0_greatestOrder cX0_greatestOrder 4 (some .int), Cond.methodLink RX0 31 yX0_hasTwoCycles, Cond.instanceMethod yX0_hasTwoCycles]
def wsX6_orders_r2 : List Cond := [Cond.selects RX0 yX0_hasTwoCycles yX0_hasTwoCycles, Cond.code yX0_hasTwoCycles cX0_hasTwoCycles 2 (some .boolean), Cond.methodLink RX0 28 yX0_unitsAt, Cond.instanceMethod yX0_unitsAt, Cond.selects RX0 yX0_unitsAt yX0_unitsAt, Cond.code yX0_unitsAt cX0_unitsAt 3 (some .int), Cond.methodLink RX0 24 yX0_powerAt, Cond.instanceMethod yX0_powerAt, Cond.selects RX0 yX0_powerAt yX0_powerAt, Cond.code yX0_powerAt cX0_powerAt 4 (some .int), Cond.methodLink RX0 35 yX4_commonMultiple, Cond.static yX4_commonMultiple, Cond.initialized RX4, Cond.code yX4_commonMultiple cX4_commonMultiple 3 (some .int), Cond.methodLink RX4 7 yX4_commonDivisor, Cond.static yX4_commonDivisor, Cond.code yX4_commonDivisor cX4_commonDivisor 6 (some .int), Cond.methodLink RX6 81 yX6_unitsOfOrder, Cond.instanceMethod yX6_unitsOfOrder, Cond.selects RX6 yX6_unitsOfOrder yX6_unitsOfOrder, Cond.code yX6_unitsOfOrder cX6_unitsOfOrder 6 (some .int), Cond.fieldLink RX6 16 "PowerRests" "ofOrder" "LPowerRests$Factors;", Cond.methodLink RX6 270 yX0_rootsOfOne, Cond.instanceMethod yX0_rootsOfOne]
def wsX6_orders_r3 : List Cond := [Cond.selects RX0 yX0_rootsOfOne yX0_rootsOfOne, Cond.code yX0_rootsOfOne cX0_rootsOfOne 4 (some .int), Cond.methodLink RX0 40 yX4_commonDivisor]
def wsX6_orders : List Cond := .code yX6_orders cX6_orders 4 (some .int) :: ((wsX6_orders_r1 ++ (wsX6_orders_r2 ++ wsX6_orders_r3)) ++ wsX60 ++ wsX00)
def wsX6_hasOrder : List Cond := .code yX6_hasOrder cX6_hasOrder 5 (some .boolean) :: ([.fieldLink RX6 16 "PowerRests" "ofOrder" "LPowerRests$Factors;", .methodLink RX6 94 yX4_raise, .static yX4_raise, .initialized RX4, .code yX4_raise cX4_raise 12 (some .int)] ++ wsX60 ++ wsX00)
def wsX6_firstMaker : List Cond := .code yX6_firstMaker cX6_firstMaker 4 (some .int) :: ([.methodLink RX6 279 yX6_hasOrder, .instanceMethod yX6_hasOrder, .selects RX6 yX6_hasOrder yX6_hasOrder, .initialized RX6, .code yX6_hasOrder cX6_hasOrder 5 (some .boolean), .fieldLink RX6 16 "PowerRests" "ofOrder" "LPowerRests$Factors;", .methodLink RX6 94 yX4_raise, .static yX4_raise, .initialized RX4, .code yX4_raise cX4_raise 12 (some .int)] ++ wsX60 ++ wsX00)
def wsX6_markMakers_r1 : List Cond := [Cond.fieldLink RX6 22 "PowerRests" "marks" "LPowerRests$Marks;", Cond.fieldLink RX6 16 "PowerRests" "ofOrder" "LPowerRests$Factors;", Cond.methodLink RX6 273 yX6_firstMaker, Cond.instanceMethod yX6_firstMaker, Cond.selects RX6 yX6_firstMaker yX6_firstMaker, Cond.initialized RX6, Cond.code yX6_firstMaker cX6_firstMaker 4 (some .int), Cond.methodLink RX6 279 yX6_hasOrder, Cond.instanceMethod yX6_hasOrder, Cond.selects RX6 yX6_hasOrder yX6_hasOrder, Cond.code yX6_hasOrder cX6_hasOrder 5 (some .boolean), Cond.methodLink RX6 94 yX4_raise, Cond.static yX4_raise, Cond.initialized RX4, Cond.code yX4_raise cX4_raise 12 (some .int), Cond.methodLink RX6 248 yX3_wipeAll, Cond.instanceMethod yX3_wipeAll, Cond.selects RX3 yX3_wipeAll yX3_wipeAll, Cond.initialized RX3, Cond.code yX3_wipeAll cX3_wipeAll 1 none, Cond.fieldLink RX3 16 "PowerRests$Marks" "newest" "I", Cond.methodLink RX6 66 yX0_sharesWith, Cond.instanceMethod yX0_sharesWith, Cond.selects RX0 yX0_sharesWith yX0_sharesWith]
def wsX6_markMakers_r2 : List Cond := [Cond.initialized RX0, Cond.code yX0_sharesWith cX0_sharesWith 3 (some .boolean), Cond.fieldLink RX0 16 "PowerRests$Factors" "kinds" "I", Cond.fieldLink RX0 9 "PowerRests$Factors" "primes" "[I", Cond.methodLink RX6 276 yX3_put, Cond.instanceMethod yX3_put, Cond.selects RX3 yX3_put yX3_put, Cond.code yX3_put cX3_put 2 none, Cond.fieldLink RX3 10 "PowerRests$Marks" "marked" "[I"]
def wsX6_markMakers : List Cond := .code yX6_markMakers cX6_markMakers 8 none :: ((wsX6_markMakers_r1 ++ wsX6_markMakers_r2) ++ wsX60 ++ wsX00 ++ wsX30)
def wsX6_makers_r1 : List Cond := [Cond.fieldLink RX6 10 "PowerRests" "ofN" "LPowerRests$Factors;", Cond.fieldLink RX6 16 "PowerRests" "ofOrder" "LPowerRests$Factors;", Cond.fieldLink RX6 22 "PowerRests" "marks" "LPowerRests$Marks;", Cond.methodLink RX6 54 yX6_isDivisor, Cond.static yX6_isDivisor, Cond.initialized RX6, Cond.code yX6_isDivisor cX6_isDivisor 1 (some .boolean), Cond.constant RX6 77 (50000), Cond.methodLink RX6 58 yX0_split, Cond.instanceMethod yX0_split, Cond.selects RX0 yX0_split yX0_split, Cond.initialized RX0, Cond.code yX0_split cX0_split 4 none, Cond.fieldLink RX0 16 "PowerRests$Factors" "kinds" "I", Cond.methodLink RX0 20 yX0_takeOut, Cond.instanceMethod yX0_takeOut, Cond.selects RX0 yX0_takeOut yX0_takeOut, Cond.code yX0_takeOut cX0_takeOut 6 (some .int), Cond.fieldLink RX0 9 "PowerRests$Factors" "primes" "[I", Cond.fieldLink RX0 13 "PowerRests$Factors" "times" "[I", Cond.methodLink RX6 62 yX0_unitCount, Cond.instanceMethod yX0_unitCount, Cond.selects RX0 yX0_unitCount yX0_unitCount, Cond.code yX0_unitCount cX0_unitCount 3 (some .int)]
def wsX6_makers_r2 : List Cond := [Cond.methodLink RX0 28 yX0_unitsAt, Cond.instanceMethod yX0_unitsAt, Cond.selects RX0 yX0_unitsAt yX0_unitsAt, Cond.code yX0_unitsAt cX0_unitsAt 3 (some .int), Cond.methodLink RX0 24 yX0_powerAt, Cond.instanceMethod yX0_powerAt, Cond.selects RX0 yX0_powerAt yX0_powerAt, Cond.code yX0_powerAt cX0_powerAt 4 (some .int), Cond.methodLink RX6 78 yX0_greatestOrder, Cond.instanceMethod yX0_greatestOrder, Cond.selects RX0 yX0_greatestOrder yX0_greatestOrder, Cond.code yX0_greatestOrder cX0_greatestOrder 4 (some .int), Cond.methodLink RX0 31 yX0_hasTwoCycles, Cond.instanceMethod yX0_hasTwoCycles, Cond.selects RX0 yX0_hasTwoCycles yX0_hasTwoCycles, Cond.code yX0_hasTwoCycles cX0_hasTwoCycles 2 (some .boolean), Cond.methodLink RX0 35 yX4_commonMultiple, Cond.static yX4_commonMultiple, Cond.initialized RX4, Cond.code yX4_commonMultiple cX4_commonMultiple 3 (some .int), Cond.methodLink RX4 7 yX4_commonDivisor, Cond.static yX4_commonDivisor, Cond.code yX4_commonDivisor cX4_commonDivisor 6 (some .int), Cond.methodLink RX6 85 yX6_markMakers]
def wsX6_makers_r3 : List Cond := [Cond.instanceMethod yX6_markMakers, Cond.selects RX6 yX6_markMakers yX6_markMakers, Cond.code yX6_markMakers cX6_markMakers 8 none, Cond.methodLink RX6 273 yX6_firstMaker, Cond.instanceMethod yX6_firstMaker, Cond.selects RX6 yX6_firstMaker yX6_firstMaker, Cond.code yX6_firstMaker cX6_firstMaker 4 (some .int), Cond.methodLink RX6 279 yX6_hasOrder, Cond.instanceMethod yX6_hasOrder, Cond.selects RX6 yX6_hasOrder yX6_hasOrder, Cond.code yX6_hasOrder cX6_hasOrder 5 (some .boolean), Cond.methodLink RX6 94 yX4_raise, Cond.static yX4_raise, Cond.code yX4_raise cX4_raise 12 (some .int), Cond.methodLink RX6 248 yX3_wipeAll, Cond.instanceMethod yX3_wipeAll, Cond.selects RX3 yX3_wipeAll yX3_wipeAll, Cond.initialized RX3, Cond.code yX3_wipeAll cX3_wipeAll 1 none, Cond.fieldLink RX3 16 "PowerRests$Marks" "newest" "I", Cond.methodLink RX6 66 yX0_sharesWith, Cond.instanceMethod yX0_sharesWith, Cond.selects RX0 yX0_sharesWith yX0_sharesWith, Cond.code yX0_sharesWith cX0_sharesWith 3 (some .boolean)]
def wsX6_makers_r4 : List Cond := [Cond.methodLink RX6 276 yX3_put, Cond.instanceMethod yX3_put, Cond.selects RX3 yX3_put yX3_put, Cond.code yX3_put cX3_put 2 none, Cond.fieldLink RX3 10 "PowerRests$Marks" "marked" "[I", Cond.methodLink RX6 89 yX3_pick, Cond.instanceMethod yX3_pick, Cond.selects RX3 yX3_pick yX3_pick, Cond.code yX3_pick cX3_pick 5 (some .int), Cond.methodLink RX3 20 yX3_has, Cond.instanceMethod yX3_has, Cond.selects RX3 yX3_has yX3_has, Cond.code yX3_has cX3_has 2 (some .boolean)]
def wsX6_makers : List Cond := .code yX6_makers cX6_makers 5 (some .int) :: ((wsX6_makers_r1 ++ (wsX6_makers_r2 ++ (wsX6_makers_r3 ++ wsX6_makers_r4))) ++ wsX60 ++ wsX00 ++ wsX30)
def wsX6_power : List Cond := .code yX6_power cX6_power 5 (some .int) :: ([.constantLong RX6 92 (1000000000000), .methodLink RX6 54 yX6_isDivisor, .static yX6_isDivisor, .initialized RX6, .code yX6_isDivisor cX6_isDivisor 1 (some .boolean), .constant RX6 77 (50000), .methodLink RX6 69 yX6_isRest, .static yX6_isRest, .code yX6_isRest cX6_isRest 2 (some .boolean), .methodLink RX6 94 yX4_raise, .static yX4_raise, .initialized RX4, .code yX4_raise cX4_raise 12 (some .int)])
def wsX6_leastLog : List Cond := .code yX6_leastLog cX6_leastLog 6 (some .int) :: ([])
def wsX6_log : List Cond := .code yX6_log cX6_log 4 (some .int) :: ([.methodLink RX6 54 yX6_isDivisor, .static yX6_isDivisor, .initialized RX6, .code yX6_isDivisor cX6_isDivisor 1 (some .boolean), .constant RX6 77 (50000), .methodLink RX6 69 yX6_isRest, .static yX6_isRest, .code yX6_isRest cX6_isRest 2 (some .boolean), .methodLink RX6 100 yX6_leastLog, .static yX6_leastLog, .code yX6_leastLog cX6_leastLog 6 (some .int)])
def wsX6_roots : List Cond := .code yX6_roots cX6_roots 7 (some .int) :: ([.methodLink RX6 54 yX6_isDivisor, .static yX6_isDivisor, .initialized RX6, .code yX6_isDivisor cX6_isDivisor 1 (some .boolean), .constant RX6 77 (50000), .methodLink RX6 69 yX6_isRest, .static yX6_isRest, .code yX6_isRest cX6_isRest 2 (some .boolean), .methodLink RX6 94 yX4_raise, .static yX4_raise, .initialized RX4, .code yX4_raise cX4_raise 12 (some .int)])
def wsX6_markSquares : List Cond := .code yX6_markSquares cX6_markSquares 4 none :: ([.fieldLink RX6 22 "PowerRests" "marks" "LPowerRests$Marks;", .constantLong RX6 282 (2), .methodLink RX6 248 yX3_wipeAll, .instanceMethod yX3_wipeAll, .selects RX3 yX3_wipeAll yX3_wipeAll, .initialized RX3, .code yX3_wipeAll cX3_wipeAll 1 none, .fieldLink RX3 16 "PowerRests$Marks" "newest" "I", .methodLink RX6 276 yX3_put, .instanceMethod yX3_put, .selects RX3 yX3_put yX3_put, .code yX3_put cX3_put 2 none, .fieldLink RX3 10 "PowerRests$Marks" "marked" "[I"] ++ wsX60 ++ wsX30)
def wsX6_firstNoSquare : List Cond := .code yX6_firstNoSquare cX6_firstNoSquare 3 (some .int) :: ([.fieldLink RX6 22 "PowerRests" "marks" "LPowerRests$Marks;", .fieldLink RX6 10 "PowerRests" "ofN" "LPowerRests$Factors;", .methodLink RX6 284 yX3_has, .instanceMethod yX3_has, .selects RX3 yX3_has yX3_has, .initialized RX3, .code yX3_has cX3_has 2 (some .boolean), .fieldLink RX3 10 "PowerRests$Marks" "marked" "[I", .fieldLink RX3 16 "PowerRests$Marks" "newest" "I", .methodLink RX6 66 yX0_sharesWith, .instanceMethod yX0_sharesWith, .selects RX0 yX0_sharesWith yX0_sharesWith, .initialized RX0, .code yX0_sharesWith cX0_sharesWith 3 (some .boolean), .fieldLink RX0 16 "PowerRests$Factors" "kinds" "I", .fieldLink RX0 9 "PowerRests$Factors" "primes" "[I"] ++ wsX60 ++ wsX30 ++ wsX00)
def wsX6_runsOfSquares : List Cond := .code yX6_runsOfSquares cX6_runsOfSquares 8 (some .int) :: ([.fieldLink RX6 22 "PowerRests" "marks" "LPowerRests$Marks;", .fieldLink RX6 10 "PowerRests" "ofN" "LPowerRests$Factors;", .methodLink RX6 284 yX3_has, .instanceMethod yX3_has, .selects RX3 yX3_has yX3_has, .initialized RX3, .code yX3_has cX3_has 2 (some .boolean), .fieldLink RX3 10 "PowerRests$Marks" "marked" "[I", .fieldLink RX3 16 "PowerRests$Marks" "newest" "I", .methodLink RX6 66 yX0_sharesWith, .instanceMethod yX0_sharesWith, .selects RX0 yX0_sharesWith yX0_sharesWith, .initialized RX0, .code yX0_sharesWith cX0_sharesWith 3 (some .boolean), .fieldLink RX0 16 "PowerRests$Factors" "kinds" "I", .fieldLink RX0 9 "PowerRests$Factors" "primes" "[I"] ++ wsX60 ++ wsX30 ++ wsX00)
def wsX6_squares_r1 : List Cond := [Cond.fieldLink RX6 10 "PowerRests" "ofN" "LPowerRests$Factors;", Cond.methodLink RX6 54 yX6_isDivisor, Cond.static yX6_isDivisor, Cond.initialized RX6, Cond.code yX6_isDivisor cX6_isDivisor 1 (some .boolean), Cond.constant RX6 77 (50000), Cond.methodLink RX6 58 yX0_split, Cond.instanceMethod yX0_split, Cond.selects RX0 yX0_split yX0_split, Cond.initialized RX0, Cond.code yX0_split cX0_split 4 none, Cond.fieldLink RX0 16 "PowerRests$Factors" "kinds" "I", Cond.methodLink RX0 20 yX0_takeOut, Cond.instanceMethod yX0_takeOut, Cond.selects RX0 yX0_takeOut yX0_takeOut, Cond.code yX0_takeOut cX0_takeOut 6 (some .int), Cond.fieldLink RX0 9 "PowerRests$Factors" "primes" "[I", Cond.fieldLink RX0 13 "PowerRests$Factors" "times" "[I", Cond.methodLink RX6 104 yX6_markSquares, Cond.instanceMethod yX6_markSquares, Cond.selects RX6 yX6_markSquares yX6_markSquares, Cond.code yX6_markSquares cX6_markSquares 4 none, Cond.fieldLink RX6 22 "PowerRests" "marks" "LPowerRests$Marks;", Cond.constantLong RX6 282 (2)]
def wsX6_squares_r2 : List Cond := [Cond.methodLink RX6 248 yX3_wipeAll, Cond.instanceMethod yX3_wipeAll, Cond.selects RX3 yX3_wipeAll yX3_wipeAll, Cond.initialized RX3, Cond.code yX3_wipeAll cX3_wipeAll 1 none, Cond.fieldLink RX3 16 "PowerRests$Marks" "newest" "I", Cond.methodLink RX6 276 yX3_put, Cond.instanceMethod yX3_put, Cond.selects RX3 yX3_put yX3_put, Cond.code yX3_put cX3_put 2 none, Cond.fieldLink RX3 10 "PowerRests$Marks" "marked" "[I", Cond.methodLink RX6 107 yX6_firstNoSquare, Cond.instanceMethod yX6_firstNoSquare, Cond.selects RX6 yX6_firstNoSquare yX6_firstNoSquare, Cond.code yX6_firstNoSquare cX6_firstNoSquare 3 (some .int), Cond.methodLink RX6 284 yX3_has, Cond.instanceMethod yX3_has, Cond.selects RX3 yX3_has yX3_has, Cond.code yX3_has cX3_has 2 (some .boolean), Cond.methodLink RX6 66 yX0_sharesWith, Cond.instanceMethod yX0_sharesWith, Cond.selects RX0 yX0_sharesWith yX0_sharesWith, Cond.code yX0_sharesWith cX0_sharesWith 3 (some .boolean), Cond.methodLink RX6 110 yX6_runsOfSquares]
def wsX6_squares_r3 : List Cond := [Cond.instanceMethod yX6_runsOfSquares, Cond.selects RX6 yX6_runsOfSquares yX6_runsOfSquares, Cond.code yX6_runsOfSquares cX6_runsOfSquares 8 (some .int)]
def wsX6_squares : List Cond := .code yX6_squares cX6_squares 3 (some .int) :: ((wsX6_squares_r1 ++ (wsX6_squares_r2 ++ wsX6_squares_r3)) ++ wsX60 ++ wsX00 ++ wsX30)
def wsX6_signByPrime : List Cond := .code yX6_signByPrime cX6_signByPrime 2 (some .int) :: ([.methodLink RX6 94 yX4_raise, .static yX4_raise, .initialized RX4, .code yX4_raise cX4_raise 12 (some .int)])
def wsX6_sign : List Cond := .code yX6_sign cX6_sign 7 (some .int) :: ([.constant RX6 113 (1000000), .constant RX6 114 (99999), .fieldLink RX6 10 "PowerRests" "ofN" "LPowerRests$Factors;", .methodLink RX6 58 yX0_split, .instanceMethod yX0_split, .selects RX0 yX0_split yX0_split, .initialized RX0, .code yX0_split cX0_split 4 none, .fieldLink RX0 16 "PowerRests$Factors" "kinds" "I", .methodLink RX0 20 yX0_takeOut, .instanceMethod yX0_takeOut, .selects RX0 yX0_takeOut yX0_takeOut, .code yX0_takeOut cX0_takeOut 6 (some .int), .fieldLink RX0 9 "PowerRests$Factors" "primes" "[I", .fieldLink RX0 13 "PowerRests$Factors" "times" "[I", .methodLink RX6 122 yX6_signByPrime, .static yX6_signByPrime, .initialized RX6, .code yX6_signByPrime cX6_signByPrime 2 (some .int), .methodLink RX6 94 yX4_raise, .static yX4_raise, .initialized RX4, .code yX4_raise cX4_raise 12 (some .int)] ++ wsX60 ++ wsX00)
def wsX6_write : List Cond := .code yX6_write cX6_write 4 (some .int) :: ([.fieldLink RX6 29 "PowerRests" "text" "LPowerRests$Text;", .methodLink RX6 128 yX5_hasRoom, .instanceMethod yX5_hasRoom, .selects RX5 yX5_hasRoom yX5_hasRoom, .initialized RX5, .code yX5_hasRoom cX5_hasRoom 2 (some .boolean), .fieldLink RX5 13 "PowerRests$Text" "length" "I", .fieldLink RX5 7 "PowerRests$Text" "bytes" "[I", .methodLink RX6 131 yX5_append, .instanceMethod yX5_append, .selects RX5 yX5_append yX5_append, .code yX5_append cX5_append 5 none] ++ wsX60 ++ wsX50)
def wsX6_wipe : List Cond := .code yX6_wipe cX6_wipe 2 (some .int) :: ([.fieldLink RX6 29 "PowerRests" "text" "LPowerRests$Text;"] ++ wsX60 ++ wsX50)
def wsX6_fault_r1 : List Cond := [Cond.fieldLink RX6 29 "PowerRests" "text" "LPowerRests$Text;", Cond.fieldLink RX6 36 "PowerRests" "reader" "LPowerRests$Item;", Cond.methodLink RX6 138 yX1_read, Cond.instanceMethod yX1_read, Cond.selects RX1 yX1_read yX1_read, Cond.initialized RX1, Cond.code yX1_read cX1_read 3 (some .boolean), Cond.fieldLink RX1 13 "PowerRests$Item" "letter" "I", Cond.fieldLink RX1 19 "PowerRests$Item" "end" "I", Cond.fieldLink RX1 22 "PowerRests$Item" "first" "I", Cond.fieldLink RX1 29 "PowerRests$Item" "second" "I", Cond.fieldLink RX1 32 "PowerRests$Item" "by" "I", Cond.methodLink RX1 7 yX5_at, Cond.instanceMethod yX5_at, Cond.selects RX5 yX5_at yX5_at, Cond.initialized RX5, Cond.code yX5_at cX5_at 2 (some .int), Cond.fieldLink RX5 13 "PowerRests$Text" "length" "I", Cond.fieldLink RX5 7 "PowerRests$Text" "bytes" "[I", Cond.methodLink RX1 25 yX1_number, Cond.instanceMethod yX1_number, Cond.selects RX1 yX1_number yX1_number, Cond.code yX1_number cX1_number 6 (some .int), Cond.methodLink RX1 35 yX1_isInBounds]
def wsX6_fault_r2 : List Cond := [Cond.instanceMethod yX1_isInBounds, Cond.selects RX1 yX1_isInBounds yX1_isInBounds, Cond.code yX1_isInBounds cX1_isInBounds 1 (some .boolean)]
def wsX6_fault : List Cond := .code yX6_fault cX6_fault 3 (some .int) :: ((wsX6_fault_r1 ++ wsX6_fault_r2) ++ wsX60 ++ wsX50 ++ wsX10)
def wsX6_periodOfText_r1 : List Cond := [Cond.constant RX6 151 (2000000), Cond.fieldLink RX6 36 "PowerRests" "reader" "LPowerRests$Item;", Cond.fieldLink RX6 29 "PowerRests" "text" "LPowerRests$Text;", Cond.methodLink RX6 138 yX1_read, Cond.instanceMethod yX1_read, Cond.selects RX1 yX1_read yX1_read, Cond.initialized RX1, Cond.code yX1_read cX1_read 3 (some .boolean), Cond.fieldLink RX1 13 "PowerRests$Item" "letter" "I", Cond.fieldLink RX1 19 "PowerRests$Item" "end" "I", Cond.fieldLink RX1 22 "PowerRests$Item" "first" "I", Cond.fieldLink RX1 29 "PowerRests$Item" "second" "I", Cond.fieldLink RX1 32 "PowerRests$Item" "by" "I", Cond.methodLink RX1 7 yX5_at, Cond.instanceMethod yX5_at, Cond.selects RX5 yX5_at yX5_at, Cond.initialized RX5, Cond.code yX5_at cX5_at 2 (some .int), Cond.fieldLink RX5 13 "PowerRests$Text" "length" "I", Cond.fieldLink RX5 7 "PowerRests$Text" "bytes" "[I", Cond.methodLink RX1 25 yX1_number, Cond.instanceMethod yX1_number, Cond.selects RX1 yX1_number yX1_number, Cond.code yX1_number cX1_number 6 (some .int)]
def wsX6_periodOfText_r2 : List Cond := [Cond.methodLink RX1 35 yX1_isInBounds, Cond.instanceMethod yX1_isInBounds, Cond.selects RX1 yX1_isInBounds yX1_isInBounds, Cond.code yX1_isInBounds cX1_isInBounds 1 (some .boolean), Cond.methodLink RX6 245 yX4_commonMultiple, Cond.static yX4_commonMultiple, Cond.initialized RX4, Cond.code yX4_commonMultiple cX4_commonMultiple 3 (some .int), Cond.methodLink RX4 7 yX4_commonDivisor, Cond.static yX4_commonDivisor, Cond.code yX4_commonDivisor cX4_commonDivisor 6 (some .int)]
def wsX6_periodOfText : List Cond := .code yX6_periodOfText cX6_periodOfText 4 (some .int) :: ((wsX6_periodOfText_r1 ++ wsX6_periodOfText_r2) ++ wsX60 ++ wsX10 ++ wsX50)
def wsX6_lay_r1 : List Cond := [Cond.constant RX6 151 (2000000), Cond.fieldLink RX6 43 "PowerRests" "laid" "LPowerRests$Laid;", Cond.fieldLink RX6 36 "PowerRests" "reader" "LPowerRests$Item;", Cond.fieldLink RX6 29 "PowerRests" "text" "LPowerRests$Text;", Cond.methodLink RX6 145 yX6_fault, Cond.instanceMethod yX6_fault, Cond.selects RX6 yX6_fault yX6_fault, Cond.initialized RX6, Cond.code yX6_fault cX6_fault 3 (some .int), Cond.methodLink RX6 138 yX1_read, Cond.instanceMethod yX1_read, Cond.selects RX1 yX1_read yX1_read, Cond.initialized RX1, Cond.code yX1_read cX1_read 3 (some .boolean), Cond.fieldLink RX1 13 "PowerRests$Item" "letter" "I", Cond.fieldLink RX1 19 "PowerRests$Item" "end" "I", Cond.fieldLink RX1 22 "PowerRests$Item" "first" "I", Cond.fieldLink RX1 29 "PowerRests$Item" "second" "I", Cond.fieldLink RX1 32 "PowerRests$Item" "by" "I", Cond.methodLink RX1 7 yX5_at, Cond.instanceMethod yX5_at, Cond.selects RX5 yX5_at yX5_at, Cond.initialized RX5, Cond.code yX5_at cX5_at 2 (some .int)]
def wsX6_lay_r2 : List Cond := [Cond.fieldLink RX5 13 "PowerRests$Text" "length" "I", Cond.fieldLink RX5 7 "PowerRests$Text" "bytes" "[I", Cond.methodLink RX1 25 yX1_number, Cond.instanceMethod yX1_number, Cond.selects RX1 yX1_number yX1_number, Cond.code yX1_number cX1_number 6 (some .int), Cond.methodLink RX1 35 yX1_isInBounds, Cond.instanceMethod yX1_isInBounds, Cond.selects RX1 yX1_isInBounds yX1_isInBounds, Cond.code yX1_isInBounds cX1_isInBounds 1 (some .boolean), Cond.methodLink RX6 148 yX6_periodOfText, Cond.instanceMethod yX6_periodOfText, Cond.selects RX6 yX6_periodOfText yX6_periodOfText, Cond.code yX6_periodOfText cX6_periodOfText 4 (some .int), Cond.methodLink RX6 245 yX4_commonMultiple, Cond.static yX4_commonMultiple, Cond.initialized RX4, Cond.code yX4_commonMultiple cX4_commonMultiple 3 (some .int), Cond.methodLink RX4 7 yX4_commonDivisor, Cond.static yX4_commonDivisor, Cond.code yX4_commonDivisor cX4_commonDivisor 6 (some .int), Cond.methodLink RX6 152 yX2_clear, Cond.instanceMethod yX2_clear, Cond.selects RX2 yX2_clear yX2_clear]
def wsX6_lay_r3 : List Cond := [Cond.initialized RX2, Cond.code yX2_clear cX2_clear 1 none, Cond.fieldLink RX2 31 "PowerRests$Laid" "items" "I", Cond.methodLink RX6 155 yX2_add, Cond.instanceMethod yX2_add, Cond.selects RX2 yX2_add yX2_add, Cond.code yX2_add cX2_add 7 none, Cond.fieldLink RX2 20 "PowerRests$Laid" "allowed" "[Z", Cond.fieldLink RX2 13 "PowerRests$Laid" "words" "[[J", Cond.fieldLink RX2 16 "PowerRests$Laid" "divisors" "[I", Cond.methodLink RX2 39 yX1_allows, Cond.instanceMethod yX1_allows, Cond.selects RX1 yX1_allows yX1_allows, Cond.code yX1_allows cX1_allows 2 (some .boolean), Cond.methodLink RX1 39 yX4_raise, Cond.static yX4_raise, Cond.code yX4_raise cX4_raise 12 (some .int), Cond.methodLink RX6 159 yX2_close, Cond.instanceMethod yX2_close, Cond.selects RX2 yX2_close yX2_close, Cond.code yX2_close cX2_close 6 none, Cond.fieldLink RX2 24 "PowerRests$Laid" "period" "I", Cond.fieldLink RX2 28 "PowerRests$Laid" "leftMany" "I", Cond.constantLong RX2 43 (-1)]
def wsX6_lay_r4 : List Cond := [Cond.methodLink RX2 45 yX2_all, Cond.instanceMethod yX2_all, Cond.selects RX2 yX2_all yX2_all, Cond.code yX2_all cX2_all 1 (some .int), Cond.methodLink RX2 49 yX2_wordOf, Cond.instanceMethod yX2_wordOf, Cond.selects RX2 yX2_wordOf yX2_wordOf, Cond.code yX2_wordOf cX2_wordOf 7 (some .long), Cond.methodLink RX2 53 yJ13_bitCount_95d88, Cond.static yJ13_bitCount_95d88, Cond.initialized RJ13, Cond.code yJ13_bitCount_95d88 cJ13_bitCount_95d88 2 (some .int), Cond.constantLong RJ13 314 (6148914691236517205), Cond.constantLong RJ13 316 (3689348814741910323), Cond.constantLong RJ13 318 (1085102592571150095)]
def wsX6_lay : List Cond := .code yX6_lay cX6_lay 4 (some .int) :: ((wsX6_lay_r1 ++ (wsX6_lay_r2 ++ (wsX6_lay_r3 ++ wsX6_lay_r4))) ++ wsX60 ++ wsX10 ++ wsX50 ++ wsX20)
def wsX6_left : List Cond := .code yX6_left cX6_left 1 (some .int) :: ([.fieldLink RX6 43 "PowerRests" "laid" "LPowerRests$Laid;"] ++ wsX60 ++ wsX20)
def wsX6_ith_r1 : List Cond := [Cond.constantLong RX6 165 (1000000000), Cond.constantLong RX6 167 (-1), Cond.fieldLink RX6 43 "PowerRests" "laid" "LPowerRests$Laid;", Cond.methodLink RX6 169 yX2_leftAt, Cond.instanceMethod yX2_leftAt, Cond.selects RX2 yX2_leftAt yX2_leftAt, Cond.initialized RX2, Cond.code yX2_leftAt cX2_leftAt 10 (some .long), Cond.fieldLink RX2 28 "PowerRests$Laid" "leftMany" "I", Cond.constantLong RX2 59 (-4), Cond.fieldLink RX2 24 "PowerRests$Laid" "period" "I", Cond.constantLong RX2 61 (64), Cond.methodLink RX2 45 yX2_all, Cond.instanceMethod yX2_all, Cond.selects RX2 yX2_all yX2_all, Cond.code yX2_all cX2_all 1 (some .int), Cond.fieldLink RX2 31 "PowerRests$Laid" "items" "I", Cond.methodLink RX2 49 yX2_wordOf, Cond.instanceMethod yX2_wordOf, Cond.selects RX2 yX2_wordOf yX2_wordOf, Cond.code yX2_wordOf cX2_wordOf 7 (some .long), Cond.constantLong RX2 43 (-1), Cond.fieldLink RX2 13 "PowerRests$Laid" "words" "[[J", Cond.fieldLink RX2 16 "PowerRests$Laid" "divisors" "[I"]
def wsX6_ith_r2 : List Cond := [Cond.methodLink RX2 53 yJ13_bitCount_95d88, Cond.static yJ13_bitCount_95d88, Cond.initialized RJ13, Cond.code yJ13_bitCount_95d88 cJ13_bitCount_95d88 2 (some .int), Cond.constantLong RJ13 314 (6148914691236517205), Cond.constantLong RJ13 316 (3689348814741910323), Cond.constantLong RJ13 318 (1085102592571150095), Cond.methodLink RX2 63 yX2_bitAt, Cond.static yX2_bitAt, Cond.code yX2_bitAt cX2_bitAt 6 (some .int), Cond.methodLink RX2 67 yX2_lowestBit, Cond.static yX2_lowestBit, Cond.code yX2_lowestBit cX2_lowestBit 2 (some .int)]
def wsX6_ith : List Cond := .code yX6_ith cX6_ith 3 (some .long) :: ((wsX6_ith_r1 ++ wsX6_ith_r2) ++ wsX60 ++ wsX20)
def wsX6_from_r1 : List Cond := [Cond.constantLong RX6 173 (1000000000000000), Cond.constantLong RX6 167 (-1), Cond.fieldLink RX6 43 "PowerRests" "laid" "LPowerRests$Laid;", Cond.methodLink RX6 175 yX2_leastFrom, Cond.instanceMethod yX2_leastFrom, Cond.selects RX2 yX2_leastFrom yX2_leastFrom, Cond.initialized RX2, Cond.code yX2_leastFrom cX2_leastFrom 8 (some .long), Cond.fieldLink RX2 28 "PowerRests$Laid" "leftMany" "I", Cond.constantLong RX2 59 (-4), Cond.constantLong RX2 61 (64), Cond.constantLong RX2 43 (-1), Cond.fieldLink RX2 24 "PowerRests$Laid" "period" "I", Cond.methodLink RX2 45 yX2_all, Cond.instanceMethod yX2_all, Cond.selects RX2 yX2_all yX2_all, Cond.code yX2_all cX2_all 1 (some .int), Cond.fieldLink RX2 31 "PowerRests$Laid" "items" "I", Cond.methodLink RX2 49 yX2_wordOf, Cond.instanceMethod yX2_wordOf, Cond.selects RX2 yX2_wordOf yX2_wordOf, Cond.code yX2_wordOf cX2_wordOf 7 (some .long), Cond.fieldLink RX2 13 "PowerRests$Laid" "words" "[[J", Cond.fieldLink RX2 16 "PowerRests$Laid" "divisors" "[I"]
def wsX6_from_r2 : List Cond := [Cond.methodLink RX2 67 yX2_lowestBit, Cond.static yX2_lowestBit, Cond.code yX2_lowestBit cX2_lowestBit 2 (some .int), Cond.methodLink RX2 53 yJ13_bitCount_95d88, Cond.static yJ13_bitCount_95d88, Cond.initialized RJ13, Cond.code yJ13_bitCount_95d88 cJ13_bitCount_95d88 2 (some .int), Cond.constantLong RJ13 314 (6148914691236517205), Cond.constantLong RJ13 316 (3689348814741910323), Cond.constantLong RJ13 318 (1085102592571150095)]
def wsX6_from : List Cond := .code yX6_from cX6_from 3 (some .long) :: ((wsX6_from_r1 ++ wsX6_from_r2) ++ wsX60 ++ wsX20)
def wsX6_needless : List Cond := .code yX6_needless cX6_needless 2 (some .int) :: ([.fieldLink RX6 43 "PowerRests" "laid" "LPowerRests$Laid;", .methodLink RX6 181 yX2_saysNothingNew, .instanceMethod yX2_saysNothingNew, .selects RX2 yX2_saysNothingNew yX2_saysNothingNew, .initialized RX2, .code yX2_saysNothingNew cX2_saysNothingNew 4 (some .boolean), .fieldLink RX2 24 "PowerRests$Laid" "period" "I", .methodLink RX2 45 yX2_all, .instanceMethod yX2_all, .selects RX2 yX2_all yX2_all, .code yX2_all cX2_all 1 (some .int), .fieldLink RX2 31 "PowerRests$Laid" "items" "I", .methodLink RX2 49 yX2_wordOf, .instanceMethod yX2_wordOf, .selects RX2 yX2_wordOf yX2_wordOf, .code yX2_wordOf cX2_wordOf 7 (some .long), .constantLong RX2 43 (-1), .fieldLink RX2 13 "PowerRests$Laid" "words" "[[J", .fieldLink RX2 16 "PowerRests$Laid" "divisors" "[I"] ++ wsX60 ++ wsX20)
def wsX6_lone_r1 : List Cond := [Cond.fieldLink RX6 43 "PowerRests" "laid" "LPowerRests$Laid;", Cond.methodLink RX6 184 yX2_leastEmptySet, Cond.instanceMethod yX2_leastEmptySet, Cond.selects RX2 yX2_leastEmptySet yX2_leastEmptySet, Cond.initialized RX2, Cond.code yX2_leastEmptySet cX2_leastEmptySet 3 (some .int), Cond.fieldLink RX2 28 "PowerRests$Laid" "leftMany" "I", Cond.fieldLink RX2 31 "PowerRests$Laid" "items" "I", Cond.methodLink RX2 45 yX2_all, Cond.instanceMethod yX2_all, Cond.selects RX2 yX2_all yX2_all, Cond.code yX2_all cX2_all 1 (some .int), Cond.methodLink RX2 70 yJ6_bitCount_0f7a4, Cond.static yJ6_bitCount_0f7a4, Cond.initialized RJ6, Cond.code yJ6_bitCount_0f7a4 cJ6_bitCount_0f7a4 1 (some .int), Cond.constant RJ6 265 (1431655765), Cond.constant RJ6 266 (858993459), Cond.constant RJ6 267 (252645135), Cond.methodLink RX2 75 yX2_leavesNothing, Cond.instanceMethod yX2_leavesNothing, Cond.selects RX2 yX2_leavesNothing yX2_leavesNothing, Cond.code yX2_leavesNothing cX2_leavesNothing 4 (some .boolean), Cond.methodLink RX2 78 yX2_periodOf]
def wsX6_lone_r2 : List Cond := [Cond.instanceMethod yX2_periodOf, Cond.selects RX2 yX2_periodOf yX2_periodOf, Cond.code yX2_periodOf cX2_periodOf 4 (some .int), Cond.fieldLink RX2 16 "PowerRests$Laid" "divisors" "[I", Cond.methodLink RX2 81 yX4_commonMultiple, Cond.static yX4_commonMultiple, Cond.initialized RX4, Cond.code yX4_commonMultiple cX4_commonMultiple 3 (some .int), Cond.methodLink RX4 7 yX4_commonDivisor, Cond.static yX4_commonDivisor, Cond.code yX4_commonDivisor cX4_commonDivisor 6 (some .int), Cond.methodLink RX2 49 yX2_wordOf, Cond.instanceMethod yX2_wordOf, Cond.selects RX2 yX2_wordOf yX2_wordOf, Cond.code yX2_wordOf cX2_wordOf 7 (some .long), Cond.constantLong RX2 43 (-1), Cond.fieldLink RX2 13 "PowerRests$Laid" "words" "[[J"]
def wsX6_lone : List Cond := .code yX6_lone cX6_lone 1 (some .int) :: ((wsX6_lone_r1 ++ wsX6_lone_r2) ++ wsX60 ++ wsX20)
def wsX6_isOddOne : List Cond := .code yX6_isOddOne cX6_isOddOne 1 (some .boolean) :: ([.constant RX6 208 (50001)])
def wsX6_looks : List Cond := .code yX6_looks cX6_looks 5 (some .int) :: ([.methodLink RX6 187 yX6_isOddOne, .static yX6_isOddOne, .initialized RX6, .code yX6_isOddOne cX6_isOddOne 1 (some .boolean), .constant RX6 208 (50001), .methodLink RX6 190 yX4_looksStrongly, .static yX4_looksStrongly, .initialized RX4, .code yX4_looksStrongly cX4_looksStrongly 6 (some .boolean), .methodLink RX4 13 yX4_twosOf, .static yX4_twosOf, .code yX4_twosOf cX4_twosOf 3 (some .int), .methodLink RX4 17 yX4_oddPart, .static yX4_oddPart, .code yX4_oddPart cX4_oddPart 1 (some .int), .methodLink RX4 20 yX4_raise, .static yX4_raise, .code yX4_raise cX4_raise 12 (some .int), .methodLink RX6 94 yX4_raise, .methodLink RX6 193 yX4_isPrime, .static yX4_isPrime, .code yX4_isPrime cX4_isPrime 2 (some .boolean)])
def wsX6_leastWitness : List Cond := .code yX6_leastWitness cX6_leastWitness 2 (some .int) :: ([.methodLink RX6 193 yX4_isPrime, .static yX4_isPrime, .initialized RX4, .code yX4_isPrime cX4_isPrime 2 (some .boolean), .methodLink RX6 190 yX4_looksStrongly, .static yX4_looksStrongly, .code yX4_looksStrongly cX4_looksStrongly 6 (some .boolean), .methodLink RX4 13 yX4_twosOf, .static yX4_twosOf, .code yX4_twosOf cX4_twosOf 3 (some .int), .methodLink RX4 17 yX4_oddPart, .static yX4_oddPart, .code yX4_oddPart cX4_oddPart 1 (some .int), .methodLink RX4 20 yX4_raise, .static yX4_raise, .code yX4_raise cX4_raise 12 (some .int)])
def wsX6_looksPrimeTo : List Cond := .code yX6_looksPrimeTo cX6_looksPrimeTo 4 (some .int) :: ([.fieldLink RX6 10 "PowerRests" "ofN" "LPowerRests$Factors;", .methodLink RX6 267 yX4_commonDivisor, .static yX4_commonDivisor, .initialized RX4, .code yX4_commonDivisor cX4_commonDivisor 6 (some .int)] ++ wsX60 ++ wsX00)
def wsX6_looksStronglyTo : List Cond := .code yX6_looksStronglyTo cX6_looksStronglyTo 7 (some .int) :: ([.fieldLink RX6 10 "PowerRests" "ofN" "LPowerRests$Factors;", .methodLink RX6 296 Lib.Math.min.name, .static Lib.Math.min.name, .initialized "java/lang/Math", .code Lib.Math.min.name Lib.Math.min.code 2 (some .int), .methodLink RX6 290 yX4_oddPart, .static yX4_oddPart, .initialized RX4, .code yX4_oddPart cX4_oddPart 1 (some .int), .methodLink RX4 13 yX4_twosOf, .static yX4_twosOf, .code yX4_twosOf cX4_twosOf 3 (some .int), .methodLink RX6 267 yX4_commonDivisor, .static yX4_commonDivisor, .code yX4_commonDivisor cX4_commonDivisor 6 (some .int), .methodLink RX6 293 yX4_twosOf] ++ wsX60 ++ wsX00)
def wsX6_lied_r1 : List Cond := [Cond.fieldLink RX6 10 "PowerRests" "ofN" "LPowerRests$Factors;", Cond.methodLink RX6 187 yX6_isOddOne, Cond.static yX6_isOddOne, Cond.initialized RX6, Cond.code yX6_isOddOne cX6_isOddOne 1 (some .boolean), Cond.constant RX6 208 (50001), Cond.methodLink RX6 196 yX6_leastWitness, Cond.static yX6_leastWitness, Cond.code yX6_leastWitness cX6_leastWitness 2 (some .int), Cond.methodLink RX6 193 yX4_isPrime, Cond.static yX4_isPrime, Cond.initialized RX4, Cond.code yX4_isPrime cX4_isPrime 2 (some .boolean), Cond.methodLink RX6 190 yX4_looksStrongly, Cond.static yX4_looksStrongly, Cond.code yX4_looksStrongly cX4_looksStrongly 6 (some .boolean), Cond.methodLink RX4 13 yX4_twosOf, Cond.static yX4_twosOf, Cond.code yX4_twosOf cX4_twosOf 3 (some .int), Cond.methodLink RX4 17 yX4_oddPart, Cond.static yX4_oddPart, Cond.code yX4_oddPart cX4_oddPart 1 (some .int), Cond.methodLink RX4 20 yX4_raise, Cond.static yX4_raise]
def wsX6_lied_r2 : List Cond := [Cond.code yX4_raise cX4_raise 12 (some .int), Cond.methodLink RX6 58 yX0_split, Cond.instanceMethod yX0_split, Cond.selects RX0 yX0_split yX0_split, Cond.initialized RX0, Cond.code yX0_split cX0_split 4 none, Cond.fieldLink RX0 16 "PowerRests$Factors" "kinds" "I", Cond.methodLink RX0 20 yX0_takeOut, Cond.instanceMethod yX0_takeOut, Cond.selects RX0 yX0_takeOut yX0_takeOut, Cond.code yX0_takeOut cX0_takeOut 6 (some .int), Cond.fieldLink RX0 9 "PowerRests$Factors" "primes" "[I", Cond.fieldLink RX0 13 "PowerRests$Factors" "times" "[I", Cond.methodLink RX6 199 yX6_looksPrimeTo, Cond.instanceMethod yX6_looksPrimeTo, Cond.selects RX6 yX6_looksPrimeTo yX6_looksPrimeTo, Cond.code yX6_looksPrimeTo cX6_looksPrimeTo 4 (some .int), Cond.methodLink RX6 267 yX4_commonDivisor, Cond.static yX4_commonDivisor, Cond.code yX4_commonDivisor cX4_commonDivisor 6 (some .int), Cond.methodLink RX6 202 yX6_looksStronglyTo, Cond.instanceMethod yX6_looksStronglyTo, Cond.selects RX6 yX6_looksStronglyTo yX6_looksStronglyTo, Cond.code yX6_looksStronglyTo cX6_looksStronglyTo 7 (some .int)]
def wsX6_lied_r3 : List Cond := [Cond.methodLink RX6 296 Lib.Math.min.name, Cond.static Lib.Math.min.name, Cond.initialized "java/lang/Math", Cond.code Lib.Math.min.name Lib.Math.min.code 2 (some .int), Cond.methodLink RX6 290 yX4_oddPart, Cond.methodLink RX6 293 yX4_twosOf]
def wsX6_lied : List Cond := .code yX6_lied cX6_lied 3 (some .int) :: ((wsX6_lied_r1 ++ (wsX6_lied_r2 ++ wsX6_lied_r3)) ++ wsX60 ++ wsX00)
def wsX6_liesToAll : List Cond := .code yX6_liesToAll cX6_liesToAll 4 (some .boolean) :: ([.fieldLink RX6 10 "PowerRests" "ofN" "LPowerRests$Factors;", .methodLink RX6 58 yX0_split, .instanceMethod yX0_split, .selects RX0 yX0_split yX0_split, .initialized RX0, .code yX0_split cX0_split 4 none, .fieldLink RX0 16 "PowerRests$Factors" "kinds" "I", .methodLink RX0 20 yX0_takeOut, .instanceMethod yX0_takeOut, .selects RX0 yX0_takeOut yX0_takeOut, .code yX0_takeOut cX0_takeOut 6 (some .int), .fieldLink RX0 9 "PowerRests$Factors" "primes" "[I", .fieldLink RX0 13 "PowerRests$Factors" "times" "[I"] ++ wsX60 ++ wsX00)
def wsX6_falseOnes : List Cond := .code yX6_falseOnes cX6_falseOnes 5 (some .int) :: ([.methodLink RX6 205 yX6_liesToAll, .instanceMethod yX6_liesToAll, .selects RX6 yX6_liesToAll yX6_liesToAll, .initialized RX6, .code yX6_liesToAll cX6_liesToAll 4 (some .boolean), .fieldLink RX6 10 "PowerRests" "ofN" "LPowerRests$Factors;", .methodLink RX6 58 yX0_split, .instanceMethod yX0_split, .selects RX0 yX0_split yX0_split, .initialized RX0, .code yX0_split cX0_split 4 none, .fieldLink RX0 16 "PowerRests$Factors" "kinds" "I", .methodLink RX0 20 yX0_takeOut, .instanceMethod yX0_takeOut, .selects RX0 yX0_takeOut yX0_takeOut, .code yX0_takeOut cX0_takeOut 6 (some .int), .fieldLink RX0 9 "PowerRests$Factors" "primes" "[I", .fieldLink RX0 13 "PowerRests$Factors" "times" "[I"] ++ wsX60 ++ wsX00)
def wsX6_findLiarsToTwo : List Cond := .code yX6_findLiarsToTwo cX6_findLiarsToTwo 2 none :: ([.fieldLink RX6 301 "PowerRests" "liarsKnown" "Z", .constant RX6 208 (50001), .fieldLink RX6 212 "PowerRests" "liars" "I", .fieldLink RX6 51 "PowerRests" "liarsToTwo" "[I", .methodLink RX6 190 yX4_looksStrongly, .static yX4_looksStrongly, .initialized RX4, .code yX4_looksStrongly cX4_looksStrongly 6 (some .boolean), .methodLink RX4 13 yX4_twosOf, .static yX4_twosOf, .code yX4_twosOf cX4_twosOf 3 (some .int), .methodLink RX4 17 yX4_oddPart, .static yX4_oddPart, .code yX4_oddPart cX4_oddPart 1 (some .int), .methodLink RX4 20 yX4_raise, .static yX4_raise, .code yX4_raise cX4_raise 12 (some .int), .methodLink RX6 193 yX4_isPrime, .static yX4_isPrime, .code yX4_isPrime cX4_isPrime 2 (some .boolean)] ++ wsX60)
def wsX6_looksStronglyUpTo : List Cond := .code yX6_looksStronglyUpTo cX6_looksStronglyUpTo 3 (some .boolean) :: ([.methodLink RX6 190 yX4_looksStrongly, .static yX4_looksStrongly, .initialized RX4, .code yX4_looksStrongly cX4_looksStrongly 6 (some .boolean), .methodLink RX4 13 yX4_twosOf, .static yX4_twosOf, .code yX4_twosOf cX4_twosOf 3 (some .int), .methodLink RX4 17 yX4_oddPart, .static yX4_oddPart, .code yX4_oddPart cX4_oddPart 1 (some .int), .methodLink RX4 20 yX4_raise, .static yX4_raise, .code yX4_raise cX4_raise 12 (some .int)])
def wsX6_fooled_r1 : List Cond := [Cond.constant RX6 208 (50001), Cond.fieldLink RX6 212 "PowerRests" "liars" "I", Cond.fieldLink RX6 51 "PowerRests" "liarsToTwo" "[I", Cond.methodLink RX6 209 yX6_findLiarsToTwo, Cond.instanceMethod yX6_findLiarsToTwo, Cond.selects RX6 yX6_findLiarsToTwo yX6_findLiarsToTwo, Cond.initialized RX6, Cond.code yX6_findLiarsToTwo cX6_findLiarsToTwo 2 none, Cond.fieldLink RX6 301 "PowerRests" "liarsKnown" "Z", Cond.methodLink RX6 190 yX4_looksStrongly, Cond.static yX4_looksStrongly, Cond.initialized RX4, Cond.code yX4_looksStrongly cX4_looksStrongly 6 (some .boolean), Cond.methodLink RX4 13 yX4_twosOf, Cond.static yX4_twosOf, Cond.code yX4_twosOf cX4_twosOf 3 (some .int), Cond.methodLink RX4 17 yX4_oddPart, Cond.static yX4_oddPart, Cond.code yX4_oddPart cX4_oddPart 1 (some .int), Cond.methodLink RX4 20 yX4_raise, Cond.static yX4_raise, Cond.code yX4_raise cX4_raise 12 (some .int), Cond.methodLink RX6 193 yX4_isPrime, Cond.static yX4_isPrime]
def wsX6_fooled_r2 : List Cond := [Cond.code yX4_isPrime cX4_isPrime 2 (some .boolean), Cond.methodLink RX6 215 yX6_looksStronglyUpTo, Cond.static yX6_looksStronglyUpTo, Cond.code yX6_looksStronglyUpTo cX6_looksStronglyUpTo 3 (some .boolean)]
def wsX6_fooled : List Cond := .code yX6_fooled cX6_fooled 6 (some .int) :: ((wsX6_fooled_r1 ++ wsX6_fooled_r2) ++ wsX60)
def wsX6_isBase : List Cond := .code yX6_isBase cX6_isBase 1 (some .boolean) :: ([])
def wsX6_partBeside : List Cond := .code yX6_partBeside cX6_partBeside 5 (some .int) :: ([.methodLink RX6 267 yX4_commonDivisor, .static yX4_commonDivisor, .initialized RX4, .code yX4_commonDivisor cX4_commonDivisor 6 (some .int)])
def wsX6_aheadOf : List Cond := .code yX6_aheadOf cX6_aheadOf 5 (some .int) :: ([.methodLink RX6 305 yX6_partBeside, .static yX6_partBeside, .initialized RX6, .code yX6_partBeside cX6_partBeside 5 (some .int), .methodLink RX6 267 yX4_commonDivisor, .static yX4_commonDivisor, .initialized RX4, .code yX4_commonDivisor cX4_commonDivisor 6 (some .int), .methodLink RX6 94 yX4_raise, .static yX4_raise, .code yX4_raise cX4_raise 12 (some .int)])
def wsX6_roundOf_r1 : List Cond := [Cond.methodLink RX6 305 yX6_partBeside, Cond.static yX6_partBeside, Cond.initialized RX6, Cond.code yX6_partBeside cX6_partBeside 5 (some .int), Cond.methodLink RX6 267 yX4_commonDivisor, Cond.static yX4_commonDivisor, Cond.initialized RX4, Cond.code yX4_commonDivisor cX4_commonDivisor 6 (some .int), Cond.methodLink RX6 73 yX6_leastExponent, Cond.instanceMethod yX6_leastExponent, Cond.selects RX6 yX6_leastExponent yX6_leastExponent, Cond.code yX6_leastExponent cX6_leastExponent 7 (some .int), Cond.fieldLink RX6 10 "PowerRests" "ofN" "LPowerRests$Factors;", Cond.fieldLink RX6 16 "PowerRests" "ofOrder" "LPowerRests$Factors;", Cond.methodLink RX6 58 yX0_split, Cond.instanceMethod yX0_split, Cond.selects RX0 yX0_split yX0_split, Cond.initialized RX0, Cond.code yX0_split cX0_split 4 none, Cond.fieldLink RX0 16 "PowerRests$Factors" "kinds" "I", Cond.methodLink RX0 20 yX0_takeOut, Cond.instanceMethod yX0_takeOut, Cond.selects RX0 yX0_takeOut yX0_takeOut, Cond.code yX0_takeOut cX0_takeOut 6 (some .int)]
def wsX6_roundOf_r2 : List Cond := [Cond.fieldLink RX0 9 "PowerRests$Factors" "primes" "[I", Cond.fieldLink RX0 13 "PowerRests$Factors" "times" "[I", Cond.methodLink RX6 78 yX0_greatestOrder, Cond.instanceMethod yX0_greatestOrder, Cond.selects RX0 yX0_greatestOrder yX0_greatestOrder, Cond.code yX0_greatestOrder cX0_greatestOrder 4 (some .int), Cond.methodLink RX0 31 yX0_hasTwoCycles, Cond.instanceMethod yX0_hasTwoCycles, Cond.selects RX0 yX0_hasTwoCycles yX0_hasTwoCycles, Cond.code yX0_hasTwoCycles cX0_hasTwoCycles 2 (some .boolean), Cond.methodLink RX0 28 yX0_unitsAt, Cond.instanceMethod yX0_unitsAt, Cond.selects RX0 yX0_unitsAt yX0_unitsAt, Cond.code yX0_unitsAt cX0_unitsAt 3 (some .int), Cond.methodLink RX0 24 yX0_powerAt, Cond.instanceMethod yX0_powerAt, Cond.selects RX0 yX0_powerAt yX0_powerAt, Cond.code yX0_powerAt cX0_powerAt 4 (some .int), Cond.methodLink RX0 35 yX4_commonMultiple, Cond.static yX4_commonMultiple, Cond.code yX4_commonMultiple cX4_commonMultiple 3 (some .int), Cond.methodLink RX4 7 yX4_commonDivisor, Cond.methodLink RX6 94 yX4_raise, Cond.static yX4_raise]
def wsX6_roundOf_r3 : List Cond := [Cond.code yX4_raise cX4_raise 12 (some .int)]
def wsX6_roundOf : List Cond := .code yX6_roundOf cX6_roundOf 4 (some .int) :: ((wsX6_roundOf_r1 ++ (wsX6_roundOf_r2 ++ wsX6_roundOf_r3)) ++ wsX60 ++ wsX00)
def wsX6_broken_r1 : List Cond := [Cond.methodLink RX6 218 yX6_isBase, Cond.static yX6_isBase, Cond.initialized RX6, Cond.code yX6_isBase cX6_isBase 1 (some .boolean), Cond.methodLink RX6 54 yX6_isDivisor, Cond.static yX6_isDivisor, Cond.code yX6_isDivisor cX6_isDivisor 1 (some .boolean), Cond.constant RX6 77 (50000), Cond.methodLink RX6 221 yX6_aheadOf, Cond.static yX6_aheadOf, Cond.code yX6_aheadOf cX6_aheadOf 5 (some .int), Cond.methodLink RX6 305 yX6_partBeside, Cond.static yX6_partBeside, Cond.code yX6_partBeside cX6_partBeside 5 (some .int), Cond.methodLink RX6 267 yX4_commonDivisor, Cond.static yX4_commonDivisor, Cond.initialized RX4, Cond.code yX4_commonDivisor cX4_commonDivisor 6 (some .int), Cond.methodLink RX6 94 yX4_raise, Cond.static yX4_raise, Cond.code yX4_raise cX4_raise 12 (some .int), Cond.methodLink RX6 224 yX6_roundOf, Cond.instanceMethod yX6_roundOf, Cond.selects RX6 yX6_roundOf yX6_roundOf]
def wsX6_broken_r2 : List Cond := [Cond.code yX6_roundOf cX6_roundOf 4 (some .int), Cond.methodLink RX6 73 yX6_leastExponent, Cond.instanceMethod yX6_leastExponent, Cond.selects RX6 yX6_leastExponent yX6_leastExponent, Cond.code yX6_leastExponent cX6_leastExponent 7 (some .int), Cond.fieldLink RX6 10 "PowerRests" "ofN" "LPowerRests$Factors;", Cond.fieldLink RX6 16 "PowerRests" "ofOrder" "LPowerRests$Factors;", Cond.methodLink RX6 58 yX0_split, Cond.instanceMethod yX0_split, Cond.selects RX0 yX0_split yX0_split, Cond.initialized RX0, Cond.code yX0_split cX0_split 4 none, Cond.fieldLink RX0 16 "PowerRests$Factors" "kinds" "I", Cond.methodLink RX0 20 yX0_takeOut, Cond.instanceMethod yX0_takeOut, Cond.selects RX0 yX0_takeOut yX0_takeOut, Cond.code yX0_takeOut cX0_takeOut 6 (some .int), Cond.fieldLink RX0 9 "PowerRests$Factors" "primes" "[I", Cond.fieldLink RX0 13 "PowerRests$Factors" "times" "[I", Cond.methodLink RX6 78 yX0_greatestOrder, Cond.instanceMethod yX0_greatestOrder, Cond.selects RX0 yX0_greatestOrder yX0_greatestOrder, Cond.code yX0_greatestOrder cX0_greatestOrder 4 (some .int), Cond.methodLink RX0 31 yX0_hasTwoCycles]
def wsX6_broken_r3 : List Cond := [Cond.instanceMethod yX0_hasTwoCycles, Cond.selects RX0 yX0_hasTwoCycles yX0_hasTwoCycles, Cond.code yX0_hasTwoCycles cX0_hasTwoCycles 2 (some .boolean), Cond.methodLink RX0 28 yX0_unitsAt, Cond.instanceMethod yX0_unitsAt, Cond.selects RX0 yX0_unitsAt yX0_unitsAt, Cond.code yX0_unitsAt cX0_unitsAt 3 (some .int), Cond.methodLink RX0 24 yX0_powerAt, Cond.instanceMethod yX0_powerAt, Cond.selects RX0 yX0_powerAt yX0_powerAt, Cond.code yX0_powerAt cX0_powerAt 4 (some .int), Cond.methodLink RX0 35 yX4_commonMultiple, Cond.static yX4_commonMultiple, Cond.code yX4_commonMultiple cX4_commonMultiple 3 (some .int), Cond.methodLink RX4 7 yX4_commonDivisor]
def wsX6_broken : List Cond := .code yX6_broken cX6_broken 4 (some .int) :: ((wsX6_broken_r1 ++ (wsX6_broken_r2 ++ wsX6_broken_r3)) ++ wsX60 ++ wsX00)
def wsX6_figure : List Cond := .code yX6_figure cX6_figure 4 (some .int) :: ([.constant RX6 113 (1000000), .methodLink RX6 218 yX6_isBase, .static yX6_isBase, .initialized RX6, .code yX6_isBase cX6_isBase 1 (some .boolean), .methodLink RX6 54 yX6_isDivisor, .static yX6_isDivisor, .code yX6_isDivisor cX6_isDivisor 1 (some .boolean), .constant RX6 77 (50000), .methodLink RX6 94 yX4_raise, .static yX4_raise, .initialized RX4, .code yX4_raise cX4_raise 12 (some .int)])
def wsX6_hasRound : List Cond := .code yX6_hasRound cX6_hasRound 5 (some .boolean) :: ([.methodLink RX6 305 yX6_partBeside, .static yX6_partBeside, .initialized RX6, .code yX6_partBeside cX6_partBeside 5 (some .int), .methodLink RX6 267 yX4_commonDivisor, .static yX4_commonDivisor, .initialized RX4, .code yX4_commonDivisor cX4_commonDivisor 6 (some .int), .methodLink RX6 279 yX6_hasOrder, .instanceMethod yX6_hasOrder, .selects RX6 yX6_hasOrder yX6_hasOrder, .code yX6_hasOrder cX6_hasOrder 5 (some .boolean), .fieldLink RX6 16 "PowerRests" "ofOrder" "LPowerRests$Factors;", .methodLink RX6 94 yX4_raise, .static yX4_raise, .code yX4_raise cX4_raise 12 (some .int)] ++ wsX60 ++ wsX00)
def wsX6_soLong_r1 : List Cond := [Cond.fieldLink RX6 16 "PowerRests" "ofOrder" "LPowerRests$Factors;", Cond.methodLink RX6 218 yX6_isBase, Cond.static yX6_isBase, Cond.initialized RX6, Cond.code yX6_isBase cX6_isBase 1 (some .boolean), Cond.methodLink RX6 58 yX0_split, Cond.instanceMethod yX0_split, Cond.selects RX0 yX0_split yX0_split, Cond.initialized RX0, Cond.code yX0_split cX0_split 4 none, Cond.fieldLink RX0 16 "PowerRests$Factors" "kinds" "I", Cond.methodLink RX0 20 yX0_takeOut, Cond.instanceMethod yX0_takeOut, Cond.selects RX0 yX0_takeOut yX0_takeOut, Cond.code yX0_takeOut cX0_takeOut 6 (some .int), Cond.fieldLink RX0 9 "PowerRests$Factors" "primes" "[I", Cond.fieldLink RX0 13 "PowerRests$Factors" "times" "[I", Cond.methodLink RX6 227 yX6_hasRound, Cond.instanceMethod yX6_hasRound, Cond.selects RX6 yX6_hasRound yX6_hasRound, Cond.code yX6_hasRound cX6_hasRound 5 (some .boolean), Cond.methodLink RX6 305 yX6_partBeside, Cond.static yX6_partBeside, Cond.code yX6_partBeside cX6_partBeside 5 (some .int)]
def wsX6_soLong_r2 : List Cond := [Cond.methodLink RX6 267 yX4_commonDivisor, Cond.static yX4_commonDivisor, Cond.initialized RX4, Cond.code yX4_commonDivisor cX4_commonDivisor 6 (some .int), Cond.methodLink RX6 279 yX6_hasOrder, Cond.instanceMethod yX6_hasOrder, Cond.selects RX6 yX6_hasOrder yX6_hasOrder, Cond.code yX6_hasOrder cX6_hasOrder 5 (some .boolean), Cond.methodLink RX6 94 yX4_raise, Cond.static yX4_raise, Cond.code yX4_raise cX4_raise 12 (some .int)]
def wsX6_soLong : List Cond := .code yX6_soLong cX6_soLong 7 (some .int) :: ((wsX6_soLong_r1 ++ wsX6_soLong_r2) ++ wsX60 ++ wsX00)
def wsX6_turning_r1 : List Cond := [Cond.methodLink RX6 218 yX6_isBase, Cond.static yX6_isBase, Cond.initialized RX6, Cond.code yX6_isBase cX6_isBase 1 (some .boolean), Cond.methodLink RX6 54 yX6_isDivisor, Cond.static yX6_isDivisor, Cond.code yX6_isDivisor cX6_isDivisor 1 (some .boolean), Cond.constant RX6 77 (50000), Cond.methodLink RX6 193 yX4_isPrime, Cond.static yX4_isPrime, Cond.initialized RX4, Cond.code yX4_isPrime cX4_isPrime 2 (some .boolean), Cond.methodLink RX6 224 yX6_roundOf, Cond.instanceMethod yX6_roundOf, Cond.selects RX6 yX6_roundOf yX6_roundOf, Cond.code yX6_roundOf cX6_roundOf 4 (some .int), Cond.methodLink RX6 305 yX6_partBeside, Cond.static yX6_partBeside, Cond.code yX6_partBeside cX6_partBeside 5 (some .int), Cond.methodLink RX6 267 yX4_commonDivisor, Cond.static yX4_commonDivisor, Cond.code yX4_commonDivisor cX4_commonDivisor 6 (some .int), Cond.methodLink RX6 73 yX6_leastExponent, Cond.instanceMethod yX6_leastExponent]
def wsX6_turning_r2 : List Cond := [Cond.selects RX6 yX6_leastExponent yX6_leastExponent, Cond.code yX6_leastExponent cX6_leastExponent 7 (some .int), Cond.fieldLink RX6 10 "PowerRests" "ofN" "LPowerRests$Factors;", Cond.fieldLink RX6 16 "PowerRests" "ofOrder" "LPowerRests$Factors;", Cond.methodLink RX6 58 yX0_split, Cond.instanceMethod yX0_split, Cond.selects RX0 yX0_split yX0_split, Cond.initialized RX0, Cond.code yX0_split cX0_split 4 none, Cond.fieldLink RX0 16 "PowerRests$Factors" "kinds" "I", Cond.methodLink RX0 20 yX0_takeOut, Cond.instanceMethod yX0_takeOut, Cond.selects RX0 yX0_takeOut yX0_takeOut, Cond.code yX0_takeOut cX0_takeOut 6 (some .int), Cond.fieldLink RX0 9 "PowerRests$Factors" "primes" "[I", Cond.fieldLink RX0 13 "PowerRests$Factors" "times" "[I", Cond.methodLink RX6 78 yX0_greatestOrder, Cond.instanceMethod yX0_greatestOrder, Cond.selects RX0 yX0_greatestOrder yX0_greatestOrder, Cond.code yX0_greatestOrder cX0_greatestOrder 4 (some .int), Cond.methodLink RX0 31 yX0_hasTwoCycles, Cond.instanceMethod yX0_hasTwoCycles, Cond.selects RX0 yX0_hasTwoCycles yX0_hasTwoCycles, Cond.code yX0_hasTwoCycles cX0_hasTwoCycles 2 (some .boolean)]
def wsX6_turning_r3 : List Cond := [Cond.methodLink RX0 28 yX0_unitsAt, Cond.instanceMethod yX0_unitsAt, Cond.selects RX0 yX0_unitsAt yX0_unitsAt, Cond.code yX0_unitsAt cX0_unitsAt 3 (some .int), Cond.methodLink RX0 24 yX0_powerAt, Cond.instanceMethod yX0_powerAt, Cond.selects RX0 yX0_powerAt yX0_powerAt, Cond.code yX0_powerAt cX0_powerAt 4 (some .int), Cond.methodLink RX0 35 yX4_commonMultiple, Cond.static yX4_commonMultiple, Cond.code yX4_commonMultiple cX4_commonMultiple 3 (some .int), Cond.methodLink RX4 7 yX4_commonDivisor, Cond.methodLink RX6 94 yX4_raise, Cond.static yX4_raise, Cond.code yX4_raise cX4_raise 12 (some .int), Cond.methodLink RX6 100 yX6_leastLog, Cond.static yX6_leastLog, Cond.code yX6_leastLog cX6_leastLog 6 (some .int)]
def wsX6_turning : List Cond := .code yX6_turning cX6_turning 4 (some .int) :: ((wsX6_turning_r1 ++ (wsX6_turning_r2 ++ wsX6_turning_r3)) ++ wsX60 ++ wsX00)
def wsX6_towerNumber : List Cond := .code yX6_towerNumber cX6_towerNumber 4 (some .int) :: ([])
def wsX6_findSizes_r1 : List Cond := [Cond.fieldLink RX6 47 "PowerRests" "sizes" "[I", Cond.fieldLink RX6 10 "PowerRests" "ofN" "LPowerRests$Factors;", Cond.methodLink RX6 58 yX0_split, Cond.instanceMethod yX0_split, Cond.selects RX0 yX0_split yX0_split, Cond.initialized RX0, Cond.code yX0_split cX0_split 4 none, Cond.fieldLink RX0 16 "PowerRests$Factors" "kinds" "I", Cond.methodLink RX0 20 yX0_takeOut, Cond.instanceMethod yX0_takeOut, Cond.selects RX0 yX0_takeOut yX0_takeOut, Cond.code yX0_takeOut cX0_takeOut 6 (some .int), Cond.fieldLink RX0 9 "PowerRests$Factors" "primes" "[I", Cond.fieldLink RX0 13 "PowerRests$Factors" "times" "[I", Cond.methodLink RX6 62 yX0_unitCount, Cond.instanceMethod yX0_unitCount, Cond.selects RX0 yX0_unitCount yX0_unitCount, Cond.code yX0_unitCount cX0_unitCount 3 (some .int), Cond.methodLink RX0 28 yX0_unitsAt, Cond.instanceMethod yX0_unitsAt, Cond.selects RX0 yX0_unitsAt yX0_unitsAt, Cond.code yX0_unitsAt cX0_unitsAt 3 (some .int), Cond.methodLink RX0 24 yX0_powerAt, Cond.instanceMethod yX0_powerAt]
def wsX6_findSizes_r2 : List Cond := [Cond.selects RX0 yX0_powerAt yX0_powerAt, Cond.code yX0_powerAt cX0_powerAt 4 (some .int)]
def wsX6_findSizes : List Cond := .code yX6_findSizes cX6_findSizes 5 none :: ((wsX6_findSizes_r1 ++ wsX6_findSizes_r2) ++ wsX60 ++ wsX00)
def wsX6_powerBelowHigh : List Cond := .code yX6_powerBelowHigh cX6_powerBelowHigh 7 (some .long) :: ([.constantLong RX6 311 (1000000), .methodLink RX6 317 Lib.MathLoose.min_long.x, .static Lib.MathLoose.min_long.x, .initialized "java/lang/Math", .code Lib.MathLoose.min_long.x Lib.MathLoose.min_long.code 4 (some .long)])
def wsX6_towerRest_r1 : List Cond := [Cond.fieldLink RX6 47 "PowerRests" "sizes" "[I", Cond.constantLong RX6 311 (1000000), Cond.methodLink RX6 308 yX6_findSizes, Cond.instanceMethod yX6_findSizes, Cond.selects RX6 yX6_findSizes yX6_findSizes, Cond.initialized RX6, Cond.code yX6_findSizes cX6_findSizes 5 none, Cond.fieldLink RX6 10 "PowerRests" "ofN" "LPowerRests$Factors;", Cond.methodLink RX6 58 yX0_split, Cond.instanceMethod yX0_split, Cond.selects RX0 yX0_split yX0_split, Cond.initialized RX0, Cond.code yX0_split cX0_split 4 none, Cond.fieldLink RX0 16 "PowerRests$Factors" "kinds" "I", Cond.methodLink RX0 20 yX0_takeOut, Cond.instanceMethod yX0_takeOut, Cond.selects RX0 yX0_takeOut yX0_takeOut, Cond.code yX0_takeOut cX0_takeOut 6 (some .int), Cond.fieldLink RX0 9 "PowerRests$Factors" "primes" "[I", Cond.fieldLink RX0 13 "PowerRests$Factors" "times" "[I", Cond.methodLink RX6 62 yX0_unitCount, Cond.instanceMethod yX0_unitCount, Cond.selects RX0 yX0_unitCount yX0_unitCount, Cond.code yX0_unitCount cX0_unitCount 3 (some .int)]
def wsX6_towerRest_r2 : List Cond := [Cond.methodLink RX0 28 yX0_unitsAt, Cond.instanceMethod yX0_unitsAt, Cond.selects RX0 yX0_unitsAt yX0_unitsAt, Cond.code yX0_unitsAt cX0_unitsAt 3 (some .int), Cond.methodLink RX0 24 yX0_powerAt, Cond.instanceMethod yX0_powerAt, Cond.selects RX0 yX0_powerAt yX0_powerAt, Cond.code yX0_powerAt cX0_powerAt 4 (some .int), Cond.methodLink RX6 231 yX6_towerNumber, Cond.static yX6_towerNumber, Cond.code yX6_towerNumber cX6_towerNumber 4 (some .int), Cond.methodLink RX6 94 yX4_raise, Cond.static yX4_raise, Cond.initialized RX4, Cond.code yX4_raise cX4_raise 12 (some .int), Cond.methodLink RX6 313 yX6_powerBelowHigh, Cond.static yX6_powerBelowHigh, Cond.code yX6_powerBelowHigh cX6_powerBelowHigh 7 (some .long), Cond.methodLink RX6 317 Lib.MathLoose.min_long.x, Cond.static Lib.MathLoose.min_long.x, Cond.initialized "java/lang/Math", Cond.code Lib.MathLoose.min_long.x Lib.MathLoose.min_long.code 4 (some .long)]
def wsX6_towerRest : List Cond := .code yX6_towerRest cX6_towerRest 12 (some .int) :: ((wsX6_towerRest_r1 ++ wsX6_towerRest_r2) ++ wsX60 ++ wsX00)
def wsX6_tower_r1 : List Cond := [Cond.methodLink RX6 54 yX6_isDivisor, Cond.static yX6_isDivisor, Cond.initialized RX6, Cond.code yX6_isDivisor cX6_isDivisor 1 (some .boolean), Cond.constant RX6 77 (50000), Cond.methodLink RX6 231 yX6_towerNumber, Cond.static yX6_towerNumber, Cond.code yX6_towerNumber cX6_towerNumber 4 (some .int), Cond.methodLink RX6 235 yX6_towerRest, Cond.instanceMethod yX6_towerRest, Cond.selects RX6 yX6_towerRest yX6_towerRest, Cond.code yX6_towerRest cX6_towerRest 12 (some .int), Cond.fieldLink RX6 47 "PowerRests" "sizes" "[I", Cond.constantLong RX6 311 (1000000), Cond.methodLink RX6 308 yX6_findSizes, Cond.instanceMethod yX6_findSizes, Cond.selects RX6 yX6_findSizes yX6_findSizes, Cond.code yX6_findSizes cX6_findSizes 5 none, Cond.fieldLink RX6 10 "PowerRests" "ofN" "LPowerRests$Factors;", Cond.methodLink RX6 58 yX0_split, Cond.instanceMethod yX0_split, Cond.selects RX0 yX0_split yX0_split, Cond.initialized RX0, Cond.code yX0_split cX0_split 4 none]
def wsX6_tower_r2 : List Cond := [Cond.fieldLink RX0 16 "PowerRests$Factors" "kinds" "I", Cond.methodLink RX0 20 yX0_takeOut, Cond.instanceMethod yX0_takeOut, Cond.selects RX0 yX0_takeOut yX0_takeOut, Cond.code yX0_takeOut cX0_takeOut 6 (some .int), Cond.fieldLink RX0 9 "PowerRests$Factors" "primes" "[I", Cond.fieldLink RX0 13 "PowerRests$Factors" "times" "[I", Cond.methodLink RX6 62 yX0_unitCount, Cond.instanceMethod yX0_unitCount, Cond.selects RX0 yX0_unitCount yX0_unitCount, Cond.code yX0_unitCount cX0_unitCount 3 (some .int), Cond.methodLink RX0 28 yX0_unitsAt, Cond.instanceMethod yX0_unitsAt, Cond.selects RX0 yX0_unitsAt yX0_unitsAt, Cond.code yX0_unitsAt cX0_unitsAt 3 (some .int), Cond.methodLink RX0 24 yX0_powerAt, Cond.instanceMethod yX0_powerAt, Cond.selects RX0 yX0_powerAt yX0_powerAt, Cond.code yX0_powerAt cX0_powerAt 4 (some .int), Cond.methodLink RX6 94 yX4_raise, Cond.static yX4_raise, Cond.initialized RX4, Cond.code yX4_raise cX4_raise 12 (some .int), Cond.methodLink RX6 313 yX6_powerBelowHigh]
def wsX6_tower_r3 : List Cond := [Cond.static yX6_powerBelowHigh, Cond.code yX6_powerBelowHigh cX6_powerBelowHigh 7 (some .long), Cond.methodLink RX6 317 Lib.MathLoose.min_long.x, Cond.static Lib.MathLoose.min_long.x, Cond.initialized "java/lang/Math", Cond.code Lib.MathLoose.min_long.x Lib.MathLoose.min_long.code 4 (some .long)]
def wsX6_tower : List Cond := .code yX6_tower cX6_tower 7 (some .int) :: ((wsX6_tower_r1 ++ (wsX6_tower_r2 ++ wsX6_tower_r3)) ++ wsX60 ++ wsX00)
def wsX6_isKeyPrime : List Cond := .code yX6_isKeyPrime cX6_isKeyPrime 1 (some .boolean) :: ([.methodLink RX6 193 yX4_isPrime, .static yX4_isPrime, .initialized RX4, .code yX4_isPrime cX4_isPrime 2 (some .boolean)])
def wsX6_areKeys : List Cond := .code yX6_areKeys cX6_areKeys 3 (some .boolean) :: ([.constant RX6 266 (100000), .methodLink RX6 263 yX6_isKeyPrime, .static yX6_isKeyPrime, .initialized RX6, .code yX6_isKeyPrime cX6_isKeyPrime 1 (some .boolean), .methodLink RX6 193 yX4_isPrime, .static yX4_isPrime, .initialized RX4, .code yX4_isPrime cX4_isPrime 2 (some .boolean)])
def wsX6_keySharesDivisor : List Cond := .code yX6_keySharesDivisor cX6_keySharesDivisor 3 (some .boolean) :: ([.methodLink RX6 267 yX4_commonDivisor, .static yX4_commonDivisor, .initialized RX4, .code yX4_commonDivisor cX4_commonDivisor 6 (some .int)])
def wsX6_back_r1 : List Cond := [Cond.fieldLink RX6 10 "PowerRests" "ofN" "LPowerRests$Factors;", Cond.methodLink RX6 239 yX6_areKeys, Cond.static yX6_areKeys, Cond.initialized RX6, Cond.code yX6_areKeys cX6_areKeys 3 (some .boolean), Cond.constant RX6 266 (100000), Cond.methodLink RX6 263 yX6_isKeyPrime, Cond.static yX6_isKeyPrime, Cond.code yX6_isKeyPrime cX6_isKeyPrime 1 (some .boolean), Cond.methodLink RX6 193 yX4_isPrime, Cond.static yX4_isPrime, Cond.initialized RX4, Cond.code yX4_isPrime cX4_isPrime 2 (some .boolean), Cond.methodLink RX6 242 yX6_keySharesDivisor, Cond.static yX6_keySharesDivisor, Cond.code yX6_keySharesDivisor cX6_keySharesDivisor 3 (some .boolean), Cond.methodLink RX6 267 yX4_commonDivisor, Cond.static yX4_commonDivisor, Cond.code yX4_commonDivisor cX4_commonDivisor 6 (some .int), Cond.methodLink RX6 245 yX4_commonMultiple, Cond.static yX4_commonMultiple, Cond.code yX4_commonMultiple cX4_commonMultiple 3 (some .int), Cond.methodLink RX4 7 yX4_commonDivisor, Cond.methodLink RX6 58 yX0_split]
def wsX6_back_r2 : List Cond := [Cond.instanceMethod yX0_split, Cond.selects RX0 yX0_split yX0_split, Cond.initialized RX0, Cond.code yX0_split cX0_split 4 none, Cond.fieldLink RX0 16 "PowerRests$Factors" "kinds" "I", Cond.methodLink RX0 20 yX0_takeOut, Cond.instanceMethod yX0_takeOut, Cond.selects RX0 yX0_takeOut yX0_takeOut, Cond.code yX0_takeOut cX0_takeOut 6 (some .int), Cond.fieldLink RX0 9 "PowerRests$Factors" "primes" "[I", Cond.fieldLink RX0 13 "PowerRests$Factors" "times" "[I", Cond.methodLink RX6 78 yX0_greatestOrder, Cond.instanceMethod yX0_greatestOrder, Cond.selects RX0 yX0_greatestOrder yX0_greatestOrder, Cond.code yX0_greatestOrder cX0_greatestOrder 4 (some .int), Cond.methodLink RX0 31 yX0_hasTwoCycles, Cond.instanceMethod yX0_hasTwoCycles, Cond.selects RX0 yX0_hasTwoCycles yX0_hasTwoCycles, Cond.code yX0_hasTwoCycles cX0_hasTwoCycles 2 (some .boolean), Cond.methodLink RX0 28 yX0_unitsAt, Cond.instanceMethod yX0_unitsAt, Cond.selects RX0 yX0_unitsAt yX0_unitsAt, Cond.code yX0_unitsAt cX0_unitsAt 3 (some .int), Cond.methodLink RX0 24 yX0_powerAt]
def wsX6_back_r3 : List Cond := [Cond.instanceMethod yX0_powerAt, Cond.selects RX0 yX0_powerAt yX0_powerAt, Cond.code yX0_powerAt cX0_powerAt 4 (some .int), Cond.methodLink RX0 35 yX4_commonMultiple, Cond.methodLink RX6 94 yX4_raise, Cond.static yX4_raise, Cond.code yX4_raise cX4_raise 12 (some .int)]
def wsX6_back : List Cond := .code yX6_back cX6_back 5 (some .int) :: ((wsX6_back_r1 ++ (wsX6_back_r2 ++ wsX6_back_r3)) ++ wsX60 ++ wsX00)
def wsX6_markStaying : List Cond := .code yX6_markStaying cX6_markStaying 6 (some .int) :: ([.fieldLink RX6 22 "PowerRests" "marks" "LPowerRests$Marks;", .methodLink RX6 94 yX4_raise, .static yX4_raise, .initialized RX4, .code yX4_raise cX4_raise 12 (some .int), .methodLink RX6 276 yX3_put, .instanceMethod yX3_put, .selects RX3 yX3_put yX3_put, .initialized RX3, .code yX3_put cX3_put 2 none, .fieldLink RX3 10 "PowerRests$Marks" "marked" "[I", .fieldLink RX3 16 "PowerRests$Marks" "newest" "I"] ++ wsX60 ++ wsX30)
def wsX6_stayingLetter : List Cond := .code yX6_stayingLetter cX6_stayingLetter 6 (some .int) :: ([.fieldLink RX6 22 "PowerRests" "marks" "LPowerRests$Marks;", .methodLink RX6 284 yX3_has, .instanceMethod yX3_has, .selects RX3 yX3_has yX3_has, .initialized RX3, .code yX3_has cX3_has 2 (some .boolean), .fieldLink RX3 10 "PowerRests$Marks" "marked" "[I", .fieldLink RX3 16 "PowerRests$Marks" "newest" "I"] ++ wsX60 ++ wsX30)
def wsX6_stay_r1 : List Cond := [Cond.fieldLink RX6 22 "PowerRests" "marks" "LPowerRests$Marks;", Cond.methodLink RX6 239 yX6_areKeys, Cond.static yX6_areKeys, Cond.initialized RX6, Cond.code yX6_areKeys cX6_areKeys 3 (some .boolean), Cond.constant RX6 266 (100000), Cond.methodLink RX6 263 yX6_isKeyPrime, Cond.static yX6_isKeyPrime, Cond.code yX6_isKeyPrime cX6_isKeyPrime 1 (some .boolean), Cond.methodLink RX6 193 yX4_isPrime, Cond.static yX4_isPrime, Cond.initialized RX4, Cond.code yX4_isPrime cX4_isPrime 2 (some .boolean), Cond.methodLink RX6 242 yX6_keySharesDivisor, Cond.static yX6_keySharesDivisor, Cond.code yX6_keySharesDivisor cX6_keySharesDivisor 3 (some .boolean), Cond.methodLink RX6 267 yX4_commonDivisor, Cond.static yX4_commonDivisor, Cond.code yX4_commonDivisor cX4_commonDivisor 6 (some .int), Cond.methodLink RX6 248 yX3_wipeAll, Cond.instanceMethod yX3_wipeAll, Cond.selects RX3 yX3_wipeAll yX3_wipeAll, Cond.initialized RX3, Cond.code yX3_wipeAll cX3_wipeAll 1 none]
def wsX6_stay_r2 : List Cond := [Cond.fieldLink RX3 16 "PowerRests$Marks" "newest" "I", Cond.methodLink RX6 251 yX6_markStaying, Cond.instanceMethod yX6_markStaying, Cond.selects RX6 yX6_markStaying yX6_markStaying, Cond.code yX6_markStaying cX6_markStaying 6 (some .int), Cond.methodLink RX6 94 yX4_raise, Cond.static yX4_raise, Cond.code yX4_raise cX4_raise 12 (some .int), Cond.methodLink RX6 276 yX3_put, Cond.instanceMethod yX3_put, Cond.selects RX3 yX3_put yX3_put, Cond.code yX3_put cX3_put 2 none, Cond.fieldLink RX3 10 "PowerRests$Marks" "marked" "[I", Cond.methodLink RX6 254 yX6_stayingLetter, Cond.instanceMethod yX6_stayingLetter, Cond.selects RX6 yX6_stayingLetter yX6_stayingLetter, Cond.code yX6_stayingLetter cX6_stayingLetter 6 (some .int), Cond.methodLink RX6 284 yX3_has, Cond.instanceMethod yX3_has, Cond.selects RX3 yX3_has yX3_has, Cond.code yX3_has cX3_has 2 (some .boolean)]
def wsX6_stay : List Cond := .code yX6_stay cX6_stay 6 (some .int) :: ((wsX6_stay_r1 ++ wsX6_stay_r2) ++ wsX60 ++ wsX30)
def wsX6_turnBy_r1 : List Cond := [Cond.methodLink RX6 73 yX6_leastExponent, Cond.instanceMethod yX6_leastExponent, Cond.selects RX6 yX6_leastExponent yX6_leastExponent, Cond.initialized RX6, Cond.code yX6_leastExponent cX6_leastExponent 7 (some .int), Cond.fieldLink RX6 10 "PowerRests" "ofN" "LPowerRests$Factors;", Cond.fieldLink RX6 16 "PowerRests" "ofOrder" "LPowerRests$Factors;", Cond.methodLink RX6 58 yX0_split, Cond.instanceMethod yX0_split, Cond.selects RX0 yX0_split yX0_split, Cond.initialized RX0, Cond.code yX0_split cX0_split 4 none, Cond.fieldLink RX0 16 "PowerRests$Factors" "kinds" "I", Cond.methodLink RX0 20 yX0_takeOut, Cond.instanceMethod yX0_takeOut, Cond.selects RX0 yX0_takeOut yX0_takeOut, Cond.code yX0_takeOut cX0_takeOut 6 (some .int), Cond.fieldLink RX0 9 "PowerRests$Factors" "primes" "[I", Cond.fieldLink RX0 13 "PowerRests$Factors" "times" "[I", Cond.methodLink RX6 78 yX0_greatestOrder, Cond.instanceMethod yX0_greatestOrder, Cond.selects RX0 yX0_greatestOrder yX0_greatestOrder, Cond.code yX0_greatestOrder cX0_greatestOrder 4 (some .int), Cond.methodLink RX0 31 yX0_hasTwoCycles]
def wsX6_turnBy_r2 : List Cond := [Cond.instanceMethod yX0_hasTwoCycles, Cond.selects RX0 yX0_hasTwoCycles yX0_hasTwoCycles, Cond.code yX0_hasTwoCycles cX0_hasTwoCycles 2 (some .boolean), Cond.methodLink RX0 28 yX0_unitsAt, Cond.instanceMethod yX0_unitsAt, Cond.selects RX0 yX0_unitsAt yX0_unitsAt, Cond.code yX0_unitsAt cX0_unitsAt 3 (some .int), Cond.methodLink RX0 24 yX0_powerAt, Cond.instanceMethod yX0_powerAt, Cond.selects RX0 yX0_powerAt yX0_powerAt, Cond.code yX0_powerAt cX0_powerAt 4 (some .int), Cond.methodLink RX0 35 yX4_commonMultiple, Cond.static yX4_commonMultiple, Cond.initialized RX4, Cond.code yX4_commonMultiple cX4_commonMultiple 3 (some .int), Cond.methodLink RX4 7 yX4_commonDivisor, Cond.static yX4_commonDivisor, Cond.code yX4_commonDivisor cX4_commonDivisor 6 (some .int), Cond.methodLink RX6 94 yX4_raise, Cond.static yX4_raise, Cond.code yX4_raise cX4_raise 12 (some .int)]
def wsX6_turnBy : List Cond := .code yX6_turnBy cX6_turnBy 3 (some .int) :: ((wsX6_turnBy_r1 ++ wsX6_turnBy_r2) ++ wsX60 ++ wsX00)
def wsX6_rounds_r1 : List Cond := [Cond.methodLink RX6 239 yX6_areKeys, Cond.static yX6_areKeys, Cond.initialized RX6, Cond.code yX6_areKeys cX6_areKeys 3 (some .boolean), Cond.constant RX6 266 (100000), Cond.methodLink RX6 263 yX6_isKeyPrime, Cond.static yX6_isKeyPrime, Cond.code yX6_isKeyPrime cX6_isKeyPrime 1 (some .boolean), Cond.methodLink RX6 193 yX4_isPrime, Cond.static yX4_isPrime, Cond.initialized RX4, Cond.code yX4_isPrime cX4_isPrime 2 (some .boolean), Cond.methodLink RX6 242 yX6_keySharesDivisor, Cond.static yX6_keySharesDivisor, Cond.code yX6_keySharesDivisor cX6_keySharesDivisor 3 (some .boolean), Cond.methodLink RX6 267 yX4_commonDivisor, Cond.static yX4_commonDivisor, Cond.code yX4_commonDivisor cX4_commonDivisor 6 (some .int), Cond.methodLink RX6 257 yX6_turnBy, Cond.instanceMethod yX6_turnBy, Cond.selects RX6 yX6_turnBy yX6_turnBy, Cond.code yX6_turnBy cX6_turnBy 3 (some .int), Cond.methodLink RX6 73 yX6_leastExponent, Cond.instanceMethod yX6_leastExponent]
def wsX6_rounds_r2 : List Cond := [Cond.selects RX6 yX6_leastExponent yX6_leastExponent, Cond.code yX6_leastExponent cX6_leastExponent 7 (some .int), Cond.fieldLink RX6 10 "PowerRests" "ofN" "LPowerRests$Factors;", Cond.fieldLink RX6 16 "PowerRests" "ofOrder" "LPowerRests$Factors;", Cond.methodLink RX6 58 yX0_split, Cond.instanceMethod yX0_split, Cond.selects RX0 yX0_split yX0_split, Cond.initialized RX0, Cond.code yX0_split cX0_split 4 none, Cond.fieldLink RX0 16 "PowerRests$Factors" "kinds" "I", Cond.methodLink RX0 20 yX0_takeOut, Cond.instanceMethod yX0_takeOut, Cond.selects RX0 yX0_takeOut yX0_takeOut, Cond.code yX0_takeOut cX0_takeOut 6 (some .int), Cond.fieldLink RX0 9 "PowerRests$Factors" "primes" "[I", Cond.fieldLink RX0 13 "PowerRests$Factors" "times" "[I", Cond.methodLink RX6 78 yX0_greatestOrder, Cond.instanceMethod yX0_greatestOrder, Cond.selects RX0 yX0_greatestOrder yX0_greatestOrder, Cond.code yX0_greatestOrder cX0_greatestOrder 4 (some .int), Cond.methodLink RX0 31 yX0_hasTwoCycles, Cond.instanceMethod yX0_hasTwoCycles, Cond.selects RX0 yX0_hasTwoCycles yX0_hasTwoCycles, Cond.code yX0_hasTwoCycles cX0_hasTwoCycles 2 (some .boolean)]
def wsX6_rounds_r3 : List Cond := [Cond.methodLink RX0 28 yX0_unitsAt, Cond.instanceMethod yX0_unitsAt, Cond.selects RX0 yX0_unitsAt yX0_unitsAt, Cond.code yX0_unitsAt cX0_unitsAt 3 (some .int), Cond.methodLink RX0 24 yX0_powerAt, Cond.instanceMethod yX0_powerAt, Cond.selects RX0 yX0_powerAt yX0_powerAt, Cond.code yX0_powerAt cX0_powerAt 4 (some .int), Cond.methodLink RX0 35 yX4_commonMultiple, Cond.static yX4_commonMultiple, Cond.code yX4_commonMultiple cX4_commonMultiple 3 (some .int), Cond.methodLink RX4 7 yX4_commonDivisor, Cond.methodLink RX6 94 yX4_raise, Cond.static yX4_raise, Cond.code yX4_raise cX4_raise 12 (some .int), Cond.methodLink RX6 245 yX4_commonMultiple]
def wsX6_rounds : List Cond := .code yX6_rounds cX6_rounds 6 (some .int) :: ((wsX6_rounds_r1 ++ (wsX6_rounds_r2 ++ wsX6_rounds_r3)) ++ wsX60 ++ wsX00)
def wsX6_count : List Cond := .code yX6_count cX6_count 2 (some .int) :: ([.fieldLink RX6 29 "PowerRests" "text" "LPowerRests$Text;", .fieldLink RX6 43 "PowerRests" "laid" "LPowerRests$Laid;"] ++ wsX60 ++ wsX50 ++ wsX20)
def wsX7_init : List Cond := .code yX7_init cX7_init 1 none :: ([.methodLink RX7 1 objectInit, .instanceMethod objectInit, .code objectInit ⟨#[0xb1]⟩ 1 none, .arrayClass .byte, .fieldLink RX7 7 "PowerRestsModel" "text" "[B", .fieldLink RX7 13 "PowerRestsModel" "period" "I", .arrayClass .int, .fieldLink RX7 17 "PowerRestsModel" "letter" "[I", .fieldLink RX7 21 "PowerRestsModel" "first" "[I", .fieldLink RX7 24 "PowerRestsModel" "second" "[I", .fieldLink RX7 27 "PowerRestsModel" "by" "[I", .fieldLink RX7 30 "PowerRestsModel" "readLetter" "[I", .fieldLink RX7 33 "PowerRestsModel" "readFirst" "[I", .fieldLink RX7 36 "PowerRestsModel" "readSecond" "[I", .fieldLink RX7 39 "PowerRestsModel" "readBy" "[I", .constant RX7 42 (50002), .fieldLink RX7 43 "PowerRestsModel" "ords" "[I", .arrayClass .boolean, .fieldLink RX7 46 "PowerRestsModel" "mark" "[Z", .fieldLink RX7 50 "PowerRestsModel" "seen" "[Z", .fieldLink RX7 53 "PowerRestsModel" "chain" "[I"] ++ wsX70)
def wsX7_in : List Cond := .code yX7_in cX7_in 6 (some .boolean) :: ([])
def wsX7_isBy : List Cond := .code yX7_isBy cX7_isBy 1 (some .boolean) :: ([.constantLong RX7 56 (2), .constantLong RX7 58 (50000), .methodLink RX7 60 yX7_in, .static yX7_in, .initialized RX7, .code yX7_in cX7_in 6 (some .boolean)])
def wsX7_isRest : List Cond := .code yX7_isRest cX7_isRest 2 (some .boolean) :: ([.methodLink RX7 60 yX7_in, .static yX7_in, .initialized RX7, .code yX7_in cX7_in 6 (some .boolean)])
def wsX7_common : List Cond := .code yX7_common cX7_common 5 (some .int) :: ([])
def wsX7_isUnit : List Cond := .code yX7_isUnit cX7_isUnit 2 (some .boolean) :: ([.methodLink RX7 64 yX7_common, .static yX7_common, .initialized RX7, .code yX7_common cX7_common 5 (some .int)])
def wsX7_powerOf : List Cond := .code yX7_powerOf cX7_powerOf 10 (some .int) :: ([.constantLong RX7 56 (2)])
def wsX7_units : List Cond := .code yX7_units cX7_units 5 (some .int) :: ([.methodLink RX7 68 yX7_isBy, .static yX7_isBy, .initialized RX7, .code yX7_isBy cX7_isBy 1 (some .boolean), .constantLong RX7 56 (2), .constantLong RX7 58 (50000), .methodLink RX7 60 yX7_in, .static yX7_in, .code yX7_in cX7_in 6 (some .boolean), .methodLink RX7 72 yX7_isUnit, .static yX7_isUnit, .code yX7_isUnit cX7_isUnit 2 (some .boolean), .methodLink RX7 64 yX7_common, .static yX7_common, .code yX7_common cX7_common 5 (some .int)])
def wsX7_orderOf : List Cond := .code yX7_orderOf cX7_orderOf 5 (some .int) :: ([])
def wsX7_order : List Cond := .code yX7_order cX7_order 3 (some .int) :: ([.methodLink RX7 68 yX7_isBy, .static yX7_isBy, .initialized RX7, .code yX7_isBy cX7_isBy 1 (some .boolean), .constantLong RX7 56 (2), .constantLong RX7 58 (50000), .methodLink RX7 60 yX7_in, .static yX7_in, .code yX7_in cX7_in 6 (some .boolean), .methodLink RX7 76 yX7_isRest, .static yX7_isRest, .code yX7_isRest cX7_isRest 2 (some .boolean), .methodLink RX7 72 yX7_isUnit, .static yX7_isUnit, .code yX7_isUnit cX7_isUnit 2 (some .boolean), .methodLink RX7 64 yX7_common, .static yX7_common, .code yX7_common cX7_common 5 (some .int), .methodLink RX7 79 yX7_orderOf, .static yX7_orderOf, .code yX7_orderOf cX7_orderOf 5 (some .int)])
def wsX7_walks : List Cond := .code yX7_walks cX7_walks 8 (some .int) :: ([.fieldLink RX7 43 "PowerRestsModel" "ords" "[I", .methodLink RX7 72 yX7_isUnit, .static yX7_isUnit, .initialized RX7, .code yX7_isUnit cX7_isUnit 2 (some .boolean), .methodLink RX7 64 yX7_common, .static yX7_common, .code yX7_common cX7_common 5 (some .int), .methodLink RX7 79 yX7_orderOf, .static yX7_orderOf, .code yX7_orderOf cX7_orderOf 5 (some .int)] ++ wsX70)
def wsX7_orders : List Cond := .code yX7_orders cX7_orders 7 (some .int) :: ([.constantLong RX7 58 (50000), .fieldLink RX7 43 "PowerRestsModel" "ords" "[I", .methodLink RX7 68 yX7_isBy, .static yX7_isBy, .initialized RX7, .code yX7_isBy cX7_isBy 1 (some .boolean), .constantLong RX7 56 (2), .methodLink RX7 60 yX7_in, .static yX7_in, .code yX7_in cX7_in 6 (some .boolean), .methodLink RX7 82 yX7_walks, .instanceMethod yX7_walks, .selects RX7 yX7_walks yX7_walks, .code yX7_walks cX7_walks 8 (some .int), .methodLink RX7 72 yX7_isUnit, .static yX7_isUnit, .code yX7_isUnit cX7_isUnit 2 (some .boolean), .methodLink RX7 64 yX7_common, .static yX7_common, .code yX7_common cX7_common 5 (some .int), .methodLink RX7 79 yX7_orderOf, .static yX7_orderOf, .code yX7_orderOf cX7_orderOf 5 (some .int)] ++ wsX70)
def wsX7_makers : List Cond := .code yX7_makers cX7_makers 6 (some .int) :: ([.fieldLink RX7 43 "PowerRestsModel" "ords" "[I", .methodLink RX7 68 yX7_isBy, .static yX7_isBy, .initialized RX7, .code yX7_isBy cX7_isBy 1 (some .boolean), .constantLong RX7 56 (2), .constantLong RX7 58 (50000), .methodLink RX7 60 yX7_in, .static yX7_in, .code yX7_in cX7_in 6 (some .boolean), .methodLink RX7 82 yX7_walks, .instanceMethod yX7_walks, .selects RX7 yX7_walks yX7_walks, .code yX7_walks cX7_walks 8 (some .int), .methodLink RX7 72 yX7_isUnit, .static yX7_isUnit, .code yX7_isUnit cX7_isUnit 2 (some .boolean), .methodLink RX7 64 yX7_common, .static yX7_common, .code yX7_common cX7_common 5 (some .int), .methodLink RX7 79 yX7_orderOf, .static yX7_orderOf, .code yX7_orderOf cX7_orderOf 5 (some .int)] ++ wsX70)
def wsX7_power : List Cond := .code yX7_power cX7_power 5 (some .int) :: ([.constantLong RX7 86 (1000000000000), .methodLink RX7 68 yX7_isBy, .static yX7_isBy, .initialized RX7, .code yX7_isBy cX7_isBy 1 (some .boolean), .constantLong RX7 56 (2), .constantLong RX7 58 (50000), .methodLink RX7 60 yX7_in, .static yX7_in, .code yX7_in cX7_in 6 (some .boolean), .methodLink RX7 76 yX7_isRest, .static yX7_isRest, .code yX7_isRest cX7_isRest 2 (some .boolean), .methodLink RX7 88 yX7_powerOf, .static yX7_powerOf, .code yX7_powerOf cX7_powerOf 10 (some .int)])
def wsX7_log : List Cond := .code yX7_log cX7_log 7 (some .int) :: ([.methodLink RX7 68 yX7_isBy, .static yX7_isBy, .initialized RX7, .code yX7_isBy cX7_isBy 1 (some .boolean), .constantLong RX7 56 (2), .constantLong RX7 58 (50000), .methodLink RX7 60 yX7_in, .static yX7_in, .code yX7_in cX7_in 6 (some .boolean), .methodLink RX7 76 yX7_isRest, .static yX7_isRest, .code yX7_isRest cX7_isRest 2 (some .boolean)])
def wsX7_roots : List Cond := .code yX7_roots cX7_roots 7 (some .int) :: ([.constantLong RX7 92 (100), .methodLink RX7 68 yX7_isBy, .static yX7_isBy, .initialized RX7, .code yX7_isBy cX7_isBy 1 (some .boolean), .constantLong RX7 56 (2), .constantLong RX7 58 (50000), .methodLink RX7 60 yX7_in, .static yX7_in, .code yX7_in cX7_in 6 (some .boolean), .methodLink RX7 76 yX7_isRest, .static yX7_isRest, .code yX7_isRest cX7_isRest 2 (some .boolean), .methodLink RX7 88 yX7_powerOf, .static yX7_powerOf, .code yX7_powerOf cX7_powerOf 10 (some .int)])
def wsX7_squares : List Cond := .code yX7_squares cX7_squares 9 (some .int) :: ([.constantLong RX7 94 (3), .fieldLink RX7 46 "PowerRestsModel" "mark" "[Z", .methodLink RX7 68 yX7_isBy, .static yX7_isBy, .initialized RX7, .code yX7_isBy cX7_isBy 1 (some .boolean), .constantLong RX7 56 (2), .constantLong RX7 58 (50000), .methodLink RX7 60 yX7_in, .static yX7_in, .code yX7_in cX7_in 6 (some .boolean), .methodLink RX7 72 yX7_isUnit, .static yX7_isUnit, .code yX7_isUnit cX7_isUnit 2 (some .boolean), .methodLink RX7 64 yX7_common, .static yX7_common, .code yX7_common cX7_common 5 (some .int)] ++ wsX70)
def wsX7_sign : List Cond := .code yX7_sign cX7_sign 6 (some .int) :: ([.constantLong RX7 96 (1000000), .constantLong RX7 98 (99999), .methodLink RX7 60 yX7_in, .static yX7_in, .initialized RX7, .code yX7_in cX7_in 6 (some .boolean), .methodLink RX7 88 yX7_powerOf, .static yX7_powerOf, .code yX7_powerOf cX7_powerOf 10 (some .int), .constantLong RX7 56 (2)])
def wsX7_write : List Cond := .code yX7_write cX7_write 5 (some .int) :: ([.constantLong RX7 100 (8), .fieldLink RX7 102 "PowerRestsModel" "length" "I", .fieldLink RX7 7 "PowerRestsModel" "text" "[B", .methodLink RX7 60 yX7_in, .static yX7_in, .initialized RX7, .code yX7_in cX7_in 6 (some .boolean)] ++ wsX70)
def wsX7_wipe : List Cond := .code yX7_wipe cX7_wipe 2 (some .int) :: ([.fieldLink RX7 102 "PowerRestsModel" "length" "I"] ++ wsX70)
def wsX7_number : List Cond := .code yX7_number cX7_number 3 (some .int) :: ([.fieldLink RX7 105 "PowerRestsModel" "at" "I", .fieldLink RX7 102 "PowerRestsModel" "length" "I", .fieldLink RX7 7 "PowerRestsModel" "text" "[B", .constantLong RX7 108 (48), .constantLong RX7 110 (57), .constantLong RX7 112 (4), .methodLink RX7 60 yX7_in, .static yX7_in, .initialized RX7, .code yX7_in cX7_in 6 (some .boolean)] ++ wsX70)
def wsX7_more : List Cond := .code yX7_more cX7_more 1 (some .int) :: ([.fieldLink RX7 105 "PowerRestsModel" "at" "I", .fieldLink RX7 102 "PowerRestsModel" "length" "I", .fieldLink RX7 7 "PowerRestsModel" "text" "[B", .methodLink RX7 114 yX7_number, .instanceMethod yX7_number, .selects RX7 yX7_number yX7_number, .initialized RX7, .code yX7_number cX7_number 3 (some .int), .constantLong RX7 108 (48), .constantLong RX7 110 (57), .constantLong RX7 112 (4), .methodLink RX7 60 yX7_in, .static yX7_in, .code yX7_in cX7_in 6 (some .boolean)] ++ wsX70)
def wsX7_isItem_r1 : List Cond := [Cond.fieldLink RX7 7 "PowerRestsModel" "text" "[B", Cond.fieldLink RX7 105 "PowerRestsModel" "at" "I", Cond.fieldLink RX7 118 "PowerRestsModel" "readItems" "I", Cond.constantLong RX7 56 (2), Cond.constantLong RX7 124 (200), Cond.constantLong RX7 126 (9), Cond.fieldLink RX7 102 "PowerRestsModel" "length" "I", Cond.fieldLink RX7 30 "PowerRestsModel" "readLetter" "[I", Cond.fieldLink RX7 33 "PowerRestsModel" "readFirst" "[I", Cond.fieldLink RX7 36 "PowerRestsModel" "readSecond" "[I", Cond.fieldLink RX7 39 "PowerRestsModel" "readBy" "[I", Cond.methodLink RX7 114 yX7_number, Cond.instanceMethod yX7_number, Cond.selects RX7 yX7_number yX7_number, Cond.initialized RX7, Cond.code yX7_number cX7_number 3 (some .int), Cond.constantLong RX7 108 (48), Cond.constantLong RX7 110 (57), Cond.constantLong RX7 112 (4), Cond.methodLink RX7 60 yX7_in, Cond.static yX7_in, Cond.code yX7_in cX7_in 6 (some .boolean), Cond.methodLink RX7 121 yX7_more, Cond.instanceMethod yX7_more]
def wsX7_isItem_r2 : List Cond := [Cond.selects RX7 yX7_more yX7_more, Cond.code yX7_more cX7_more 1 (some .int)]
def wsX7_isItem : List Cond := .code yX7_isItem cX7_isItem 6 (some .boolean) :: ((wsX7_isItem_r1 ++ wsX7_isItem_r2) ++ wsX70)
def wsX7_fault_r1 : List Cond := [Cond.fieldLink RX7 105 "PowerRestsModel" "at" "I", Cond.fieldLink RX7 118 "PowerRestsModel" "readItems" "I", Cond.fieldLink RX7 102 "PowerRestsModel" "length" "I", Cond.methodLink RX7 128 yX7_isItem, Cond.instanceMethod yX7_isItem, Cond.selects RX7 yX7_isItem yX7_isItem, Cond.initialized RX7, Cond.code yX7_isItem cX7_isItem 6 (some .boolean), Cond.fieldLink RX7 7 "PowerRestsModel" "text" "[B", Cond.constantLong RX7 56 (2), Cond.constantLong RX7 124 (200), Cond.constantLong RX7 126 (9), Cond.fieldLink RX7 30 "PowerRestsModel" "readLetter" "[I", Cond.fieldLink RX7 33 "PowerRestsModel" "readFirst" "[I", Cond.fieldLink RX7 36 "PowerRestsModel" "readSecond" "[I", Cond.fieldLink RX7 39 "PowerRestsModel" "readBy" "[I", Cond.methodLink RX7 114 yX7_number, Cond.instanceMethod yX7_number, Cond.selects RX7 yX7_number yX7_number, Cond.code yX7_number cX7_number 3 (some .int), Cond.constantLong RX7 108 (48), Cond.constantLong RX7 110 (57), Cond.constantLong RX7 112 (4), Cond.methodLink RX7 60 yX7_in]
def wsX7_fault_r2 : List Cond := [Cond.static yX7_in, Cond.code yX7_in cX7_in 6 (some .boolean), Cond.methodLink RX7 121 yX7_more, Cond.instanceMethod yX7_more, Cond.selects RX7 yX7_more yX7_more, Cond.code yX7_more cX7_more 1 (some .int)]
def wsX7_fault : List Cond := .code yX7_fault cX7_fault 2 (some .int) :: ((wsX7_fault_r1 ++ wsX7_fault_r2) ++ wsX70)
def wsX7_lay_r1 : List Cond := [Cond.fieldLink RX7 118 "PowerRestsModel" "readItems" "I", Cond.fieldLink RX7 39 "PowerRestsModel" "readBy" "[I", Cond.constantLong RX7 135 (2000000), Cond.fieldLink RX7 13 "PowerRestsModel" "period" "I", Cond.fieldLink RX7 137 "PowerRestsModel" "items" "I", Cond.fieldLink RX7 17 "PowerRestsModel" "letter" "[I", Cond.fieldLink RX7 30 "PowerRestsModel" "readLetter" "[I", Cond.fieldLink RX7 21 "PowerRestsModel" "first" "[I", Cond.fieldLink RX7 33 "PowerRestsModel" "readFirst" "[I", Cond.fieldLink RX7 24 "PowerRestsModel" "second" "[I", Cond.fieldLink RX7 36 "PowerRestsModel" "readSecond" "[I", Cond.fieldLink RX7 27 "PowerRestsModel" "by" "[I", Cond.methodLink RX7 132 yX7_fault, Cond.instanceMethod yX7_fault, Cond.selects RX7 yX7_fault yX7_fault, Cond.initialized RX7, Cond.code yX7_fault cX7_fault 2 (some .int), Cond.fieldLink RX7 105 "PowerRestsModel" "at" "I", Cond.fieldLink RX7 102 "PowerRestsModel" "length" "I", Cond.methodLink RX7 128 yX7_isItem, Cond.instanceMethod yX7_isItem, Cond.selects RX7 yX7_isItem yX7_isItem, Cond.code yX7_isItem cX7_isItem 6 (some .boolean), Cond.fieldLink RX7 7 "PowerRestsModel" "text" "[B"]
def wsX7_lay_r2 : List Cond := [Cond.constantLong RX7 56 (2), Cond.constantLong RX7 124 (200), Cond.constantLong RX7 126 (9), Cond.methodLink RX7 114 yX7_number, Cond.instanceMethod yX7_number, Cond.selects RX7 yX7_number yX7_number, Cond.code yX7_number cX7_number 3 (some .int), Cond.constantLong RX7 108 (48), Cond.constantLong RX7 110 (57), Cond.constantLong RX7 112 (4), Cond.methodLink RX7 60 yX7_in, Cond.static yX7_in, Cond.code yX7_in cX7_in 6 (some .boolean), Cond.methodLink RX7 121 yX7_more, Cond.instanceMethod yX7_more, Cond.selects RX7 yX7_more yX7_more, Cond.code yX7_more cX7_more 1 (some .int), Cond.methodLink RX7 64 yX7_common, Cond.static yX7_common, Cond.code yX7_common cX7_common 5 (some .int)]
def wsX7_lay : List Cond := .code yX7_lay cX7_lay 5 (some .int) :: ((wsX7_lay_r1 ++ wsX7_lay_r2) ++ wsX70)
def wsX7_holds : List Cond := .code yX7_holds cX7_holds 5 (some .boolean) :: ([.fieldLink RX7 27 "PowerRestsModel" "by" "[I", .fieldLink RX7 17 "PowerRestsModel" "letter" "[I", .fieldLink RX7 21 "PowerRestsModel" "first" "[I", .fieldLink RX7 24 "PowerRestsModel" "second" "[I", .methodLink RX7 88 yX7_powerOf, .static yX7_powerOf, .initialized RX7, .code yX7_powerOf cX7_powerOf 10 (some .int), .constantLong RX7 56 (2), .methodLink RX7 60 yX7_in, .static yX7_in, .code yX7_in cX7_in 6 (some .boolean)] ++ wsX70)
def wsX7_fails : List Cond := .code yX7_fails cX7_fails 4 (some .int) :: ([.fieldLink RX7 137 "PowerRestsModel" "items" "I", .methodLink RX7 140 yX7_holds, .instanceMethod yX7_holds, .selects RX7 yX7_holds yX7_holds, .initialized RX7, .code yX7_holds cX7_holds 5 (some .boolean), .fieldLink RX7 27 "PowerRestsModel" "by" "[I", .fieldLink RX7 17 "PowerRestsModel" "letter" "[I", .fieldLink RX7 21 "PowerRestsModel" "first" "[I", .fieldLink RX7 24 "PowerRestsModel" "second" "[I", .methodLink RX7 88 yX7_powerOf, .static yX7_powerOf, .code yX7_powerOf cX7_powerOf 10 (some .int), .constantLong RX7 56 (2), .methodLink RX7 60 yX7_in, .static yX7_in, .code yX7_in cX7_in 6 (some .boolean)] ++ wsX70)
def wsX7_leftOf : List Cond := .code yX7_leftOf cX7_leftOf 3 (some .int) :: ([.fieldLink RX7 13 "PowerRestsModel" "period" "I", .methodLink RX7 143 yX7_fails, .instanceMethod yX7_fails, .selects RX7 yX7_fails yX7_fails, .initialized RX7, .code yX7_fails cX7_fails 4 (some .int), .fieldLink RX7 137 "PowerRestsModel" "items" "I", .methodLink RX7 140 yX7_holds, .instanceMethod yX7_holds, .selects RX7 yX7_holds yX7_holds, .code yX7_holds cX7_holds 5 (some .boolean), .fieldLink RX7 27 "PowerRestsModel" "by" "[I", .fieldLink RX7 17 "PowerRestsModel" "letter" "[I", .fieldLink RX7 21 "PowerRestsModel" "first" "[I", .fieldLink RX7 24 "PowerRestsModel" "second" "[I", .methodLink RX7 88 yX7_powerOf, .static yX7_powerOf, .code yX7_powerOf cX7_powerOf 10 (some .int), .constantLong RX7 56 (2), .methodLink RX7 60 yX7_in, .static yX7_in, .code yX7_in cX7_in 6 (some .boolean)] ++ wsX70)
def wsX7_left_r1 : List Cond := [Cond.methodLink RX7 146 yX7_leftOf, Cond.instanceMethod yX7_leftOf, Cond.selects RX7 yX7_leftOf yX7_leftOf, Cond.initialized RX7, Cond.code yX7_leftOf cX7_leftOf 3 (some .int), Cond.fieldLink RX7 13 "PowerRestsModel" "period" "I", Cond.methodLink RX7 143 yX7_fails, Cond.instanceMethod yX7_fails, Cond.selects RX7 yX7_fails yX7_fails, Cond.code yX7_fails cX7_fails 4 (some .int), Cond.fieldLink RX7 137 "PowerRestsModel" "items" "I", Cond.methodLink RX7 140 yX7_holds, Cond.instanceMethod yX7_holds, Cond.selects RX7 yX7_holds yX7_holds, Cond.code yX7_holds cX7_holds 5 (some .boolean), Cond.fieldLink RX7 27 "PowerRestsModel" "by" "[I", Cond.fieldLink RX7 17 "PowerRestsModel" "letter" "[I", Cond.fieldLink RX7 21 "PowerRestsModel" "first" "[I", Cond.fieldLink RX7 24 "PowerRestsModel" "second" "[I", Cond.methodLink RX7 88 yX7_powerOf, Cond.static yX7_powerOf, Cond.code yX7_powerOf cX7_powerOf 10 (some .int), Cond.constantLong RX7 56 (2), Cond.methodLink RX7 60 yX7_in]
def wsX7_left_r2 : List Cond := [Cond.static yX7_in, Cond.code yX7_in cX7_in 6 (some .boolean)]
def wsX7_left : List Cond := .code yX7_left cX7_left 1 (some .int) :: ((wsX7_left_r1 ++ wsX7_left_r2) ++ wsX70)
def wsX7_ith_r1 : List Cond := [Cond.constantLong RX7 149 (1000000000), Cond.constantLong RX7 151 (-1), Cond.constantLong RX7 153 (-4), Cond.fieldLink RX7 13 "PowerRestsModel" "period" "I", Cond.methodLink RX7 60 yX7_in, Cond.static yX7_in, Cond.initialized RX7, Cond.code yX7_in cX7_in 6 (some .boolean), Cond.methodLink RX7 146 yX7_leftOf, Cond.instanceMethod yX7_leftOf, Cond.selects RX7 yX7_leftOf yX7_leftOf, Cond.code yX7_leftOf cX7_leftOf 3 (some .int), Cond.methodLink RX7 143 yX7_fails, Cond.instanceMethod yX7_fails, Cond.selects RX7 yX7_fails yX7_fails, Cond.code yX7_fails cX7_fails 4 (some .int), Cond.fieldLink RX7 137 "PowerRestsModel" "items" "I", Cond.methodLink RX7 140 yX7_holds, Cond.instanceMethod yX7_holds, Cond.selects RX7 yX7_holds yX7_holds, Cond.code yX7_holds cX7_holds 5 (some .boolean), Cond.fieldLink RX7 27 "PowerRestsModel" "by" "[I", Cond.fieldLink RX7 17 "PowerRestsModel" "letter" "[I", Cond.fieldLink RX7 21 "PowerRestsModel" "first" "[I"]
def wsX7_ith_r2 : List Cond := [Cond.fieldLink RX7 24 "PowerRestsModel" "second" "[I", Cond.methodLink RX7 88 yX7_powerOf, Cond.static yX7_powerOf, Cond.code yX7_powerOf cX7_powerOf 10 (some .int), Cond.constantLong RX7 56 (2)]
def wsX7_ith : List Cond := .code yX7_ith cX7_ith 7 (some .long) :: ((wsX7_ith_r1 ++ wsX7_ith_r2) ++ wsX70)
def wsX7_from_r1 : List Cond := [Cond.constantLong RX7 155 (1000000000000000), Cond.constantLong RX7 151 (-1), Cond.fieldLink RX7 13 "PowerRestsModel" "period" "I", Cond.constantLong RX7 153 (-4), Cond.methodLink RX7 60 yX7_in, Cond.static yX7_in, Cond.initialized RX7, Cond.code yX7_in cX7_in 6 (some .boolean), Cond.methodLink RX7 143 yX7_fails, Cond.instanceMethod yX7_fails, Cond.selects RX7 yX7_fails yX7_fails, Cond.code yX7_fails cX7_fails 4 (some .int), Cond.fieldLink RX7 137 "PowerRestsModel" "items" "I", Cond.methodLink RX7 140 yX7_holds, Cond.instanceMethod yX7_holds, Cond.selects RX7 yX7_holds yX7_holds, Cond.code yX7_holds cX7_holds 5 (some .boolean), Cond.fieldLink RX7 27 "PowerRestsModel" "by" "[I", Cond.fieldLink RX7 17 "PowerRestsModel" "letter" "[I", Cond.fieldLink RX7 21 "PowerRestsModel" "first" "[I", Cond.fieldLink RX7 24 "PowerRestsModel" "second" "[I", Cond.methodLink RX7 88 yX7_powerOf, Cond.static yX7_powerOf, Cond.code yX7_powerOf cX7_powerOf 10 (some .int)]
def wsX7_from_r2 : List Cond := [Cond.constantLong RX7 56 (2)]
def wsX7_from : List Cond := .code yX7_from cX7_from 4 (some .long) :: ((wsX7_from_r1 ++ wsX7_from_r2) ++ wsX70)
def wsX7_looksAll : List Cond := .code yX7_looksAll cX7_looksAll 2 none :: ([.fieldLink RX7 50 "PowerRestsModel" "seen" "[Z", .fieldLink RX7 13 "PowerRestsModel" "period" "I", .methodLink RX7 143 yX7_fails, .instanceMethod yX7_fails, .selects RX7 yX7_fails yX7_fails, .initialized RX7, .code yX7_fails cX7_fails 4 (some .int), .fieldLink RX7 137 "PowerRestsModel" "items" "I", .methodLink RX7 140 yX7_holds, .instanceMethod yX7_holds, .selects RX7 yX7_holds yX7_holds, .code yX7_holds cX7_holds 5 (some .boolean), .fieldLink RX7 27 "PowerRestsModel" "by" "[I", .fieldLink RX7 17 "PowerRestsModel" "letter" "[I", .fieldLink RX7 21 "PowerRestsModel" "first" "[I", .fieldLink RX7 24 "PowerRestsModel" "second" "[I", .methodLink RX7 88 yX7_powerOf, .static yX7_powerOf, .code yX7_powerOf cX7_powerOf 10 (some .int), .constantLong RX7 56 (2), .methodLink RX7 60 yX7_in, .static yX7_in, .code yX7_in cX7_in 6 (some .boolean)] ++ wsX70)
def wsX7_needless_r1 : List Cond := [Cond.fieldLink RX7 137 "PowerRestsModel" "items" "I", Cond.fieldLink RX7 50 "PowerRestsModel" "seen" "[Z", Cond.methodLink RX7 60 yX7_in, Cond.static yX7_in, Cond.initialized RX7, Cond.code yX7_in cX7_in 6 (some .boolean), Cond.methodLink RX7 157 yX7_looksAll, Cond.instanceMethod yX7_looksAll, Cond.selects RX7 yX7_looksAll yX7_looksAll, Cond.code yX7_looksAll cX7_looksAll 2 none, Cond.fieldLink RX7 13 "PowerRestsModel" "period" "I", Cond.methodLink RX7 143 yX7_fails, Cond.instanceMethod yX7_fails, Cond.selects RX7 yX7_fails yX7_fails, Cond.code yX7_fails cX7_fails 4 (some .int), Cond.methodLink RX7 140 yX7_holds, Cond.instanceMethod yX7_holds, Cond.selects RX7 yX7_holds yX7_holds, Cond.code yX7_holds cX7_holds 5 (some .boolean), Cond.fieldLink RX7 27 "PowerRestsModel" "by" "[I", Cond.fieldLink RX7 17 "PowerRestsModel" "letter" "[I", Cond.fieldLink RX7 21 "PowerRestsModel" "first" "[I", Cond.fieldLink RX7 24 "PowerRestsModel" "second" "[I", Cond.methodLink RX7 88 yX7_powerOf]
def wsX7_needless_r2 : List Cond := [Cond.static yX7_powerOf, Cond.code yX7_powerOf cX7_powerOf 10 (some .int), Cond.constantLong RX7 56 (2)]
def wsX7_needless : List Cond := .code yX7_needless cX7_needless 2 (some .int) :: ((wsX7_needless_r1 ++ wsX7_needless_r2) ++ wsX70)
def wsX7_many : List Cond := .code yX7_many cX7_many 3 (some .int) :: ([])
def wsX7_lone_r1 : List Cond := [Cond.fieldLink RX7 137 "PowerRestsModel" "items" "I", Cond.fieldLink RX7 50 "PowerRestsModel" "seen" "[Z", Cond.methodLink RX7 157 yX7_looksAll, Cond.instanceMethod yX7_looksAll, Cond.selects RX7 yX7_looksAll yX7_looksAll, Cond.initialized RX7, Cond.code yX7_looksAll cX7_looksAll 2 none, Cond.fieldLink RX7 13 "PowerRestsModel" "period" "I", Cond.methodLink RX7 143 yX7_fails, Cond.instanceMethod yX7_fails, Cond.selects RX7 yX7_fails yX7_fails, Cond.code yX7_fails cX7_fails 4 (some .int), Cond.methodLink RX7 140 yX7_holds, Cond.instanceMethod yX7_holds, Cond.selects RX7 yX7_holds yX7_holds, Cond.code yX7_holds cX7_holds 5 (some .boolean), Cond.fieldLink RX7 27 "PowerRestsModel" "by" "[I", Cond.fieldLink RX7 17 "PowerRestsModel" "letter" "[I", Cond.fieldLink RX7 21 "PowerRestsModel" "first" "[I", Cond.fieldLink RX7 24 "PowerRestsModel" "second" "[I", Cond.methodLink RX7 88 yX7_powerOf, Cond.static yX7_powerOf, Cond.code yX7_powerOf cX7_powerOf 10 (some .int), Cond.constantLong RX7 56 (2)]
def wsX7_lone_r2 : List Cond := [Cond.methodLink RX7 60 yX7_in, Cond.static yX7_in, Cond.code yX7_in cX7_in 6 (some .boolean), Cond.methodLink RX7 160 yX7_many, Cond.static yX7_many, Cond.code yX7_many cX7_many 3 (some .int)]
def wsX7_lone : List Cond := .code yX7_lone cX7_lone 5 (some .int) :: ((wsX7_lone_r1 ++ wsX7_lone_r2) ++ wsX70)
def wsX7_isPrime : List Cond := .code yX7_isPrime cX7_isPrime 3 (some .boolean) :: ([])
def wsX7_isOdd : List Cond := .code yX7_isOdd cX7_isOdd 1 (some .boolean) :: ([.constantLong RX7 94 (3), .constantLong RX7 163 (50001), .methodLink RX7 60 yX7_in, .static yX7_in, .initialized RX7, .code yX7_in cX7_in 6 (some .boolean)])
def wsX7_looksSo : List Cond := .code yX7_looksSo cX7_looksSo 2 (some .boolean) :: ([.methodLink RX7 88 yX7_powerOf, .static yX7_powerOf, .initialized RX7, .code yX7_powerOf cX7_powerOf 10 (some .int), .constantLong RX7 56 (2)])
def wsX7_isStrong : List Cond := .code yX7_isStrong cX7_isStrong 8 (some .boolean) :: ([.methodLink RX7 88 yX7_powerOf, .static yX7_powerOf, .initialized RX7, .code yX7_powerOf cX7_powerOf 10 (some .int), .constantLong RX7 56 (2)])
def wsX7_looks : List Cond := .code yX7_looks cX7_looks 5 (some .int) :: ([.constantLong RX7 56 (2), .methodLink RX7 165 yX7_isOdd, .static yX7_isOdd, .initialized RX7, .code yX7_isOdd cX7_isOdd 1 (some .boolean), .constantLong RX7 94 (3), .constantLong RX7 163 (50001), .methodLink RX7 60 yX7_in, .static yX7_in, .code yX7_in cX7_in 6 (some .boolean), .methodLink RX7 168 yX7_isStrong, .static yX7_isStrong, .code yX7_isStrong cX7_isStrong 8 (some .boolean), .methodLink RX7 88 yX7_powerOf, .static yX7_powerOf, .code yX7_powerOf cX7_powerOf 10 (some .int), .methodLink RX7 171 yX7_looksSo, .static yX7_looksSo, .code yX7_looksSo cX7_looksSo 2 (some .boolean), .methodLink RX7 174 yX7_isPrime, .static yX7_isPrime, .code yX7_isPrime cX7_isPrime 3 (some .boolean)])
def wsX7_lied : List Cond := .code yX7_lied cX7_lied 8 (some .int) :: ([.constantLong RX7 56 (2), .methodLink RX7 165 yX7_isOdd, .static yX7_isOdd, .initialized RX7, .code yX7_isOdd cX7_isOdd 1 (some .boolean), .constantLong RX7 94 (3), .constantLong RX7 163 (50001), .methodLink RX7 60 yX7_in, .static yX7_in, .code yX7_in cX7_in 6 (some .boolean), .methodLink RX7 171 yX7_looksSo, .static yX7_looksSo, .code yX7_looksSo cX7_looksSo 2 (some .boolean), .methodLink RX7 88 yX7_powerOf, .static yX7_powerOf, .code yX7_powerOf cX7_powerOf 10 (some .int), .methodLink RX7 168 yX7_isStrong, .static yX7_isStrong, .code yX7_isStrong cX7_isStrong 8 (some .boolean)])
def wsX7_isFalse : List Cond := .code yX7_isFalse cX7_isFalse 3 (some .boolean) :: ([.methodLink RX7 174 yX7_isPrime, .static yX7_isPrime, .initialized RX7, .code yX7_isPrime cX7_isPrime 3 (some .boolean), .methodLink RX7 72 yX7_isUnit, .static yX7_isUnit, .code yX7_isUnit cX7_isUnit 2 (some .boolean), .methodLink RX7 64 yX7_common, .static yX7_common, .code yX7_common cX7_common 5 (some .int), .methodLink RX7 171 yX7_looksSo, .static yX7_looksSo, .code yX7_looksSo cX7_looksSo 2 (some .boolean), .methodLink RX7 88 yX7_powerOf, .static yX7_powerOf, .code yX7_powerOf cX7_powerOf 10 (some .int), .constantLong RX7 56 (2)])
def wsX7_falseOnes_r1 : List Cond := [Cond.constantLong RX7 94 (3), Cond.constantLong RX7 177 (5000), Cond.methodLink RX7 60 yX7_in, Cond.static yX7_in, Cond.initialized RX7, Cond.code yX7_in cX7_in 6 (some .boolean), Cond.methodLink RX7 179 yX7_isFalse, Cond.static yX7_isFalse, Cond.code yX7_isFalse cX7_isFalse 3 (some .boolean), Cond.methodLink RX7 174 yX7_isPrime, Cond.static yX7_isPrime, Cond.code yX7_isPrime cX7_isPrime 3 (some .boolean), Cond.methodLink RX7 72 yX7_isUnit, Cond.static yX7_isUnit, Cond.code yX7_isUnit cX7_isUnit 2 (some .boolean), Cond.methodLink RX7 64 yX7_common, Cond.static yX7_common, Cond.code yX7_common cX7_common 5 (some .int), Cond.methodLink RX7 171 yX7_looksSo, Cond.static yX7_looksSo, Cond.code yX7_looksSo cX7_looksSo 2 (some .boolean), Cond.methodLink RX7 88 yX7_powerOf, Cond.static yX7_powerOf, Cond.code yX7_powerOf cX7_powerOf 10 (some .int)]
def wsX7_falseOnes_r2 : List Cond := [Cond.constantLong RX7 56 (2)]
def wsX7_falseOnes : List Cond := .code yX7_falseOnes cX7_falseOnes 5 (some .int) :: ((wsX7_falseOnes_r1 ++ wsX7_falseOnes_r2))
def wsX7_fooled : List Cond := .code yX7_fooled cX7_fooled 8 (some .int) :: ([.constantLong RX7 56 (2), .constantLong RX7 182 (7), .constantLong RX7 94 (3), .constantLong RX7 163 (50001), .methodLink RX7 60 yX7_in, .static yX7_in, .initialized RX7, .code yX7_in cX7_in 6 (some .boolean), .methodLink RX7 174 yX7_isPrime, .static yX7_isPrime, .code yX7_isPrime cX7_isPrime 3 (some .boolean), .methodLink RX7 168 yX7_isStrong, .static yX7_isStrong, .code yX7_isStrong cX7_isStrong 8 (some .boolean), .methodLink RX7 88 yX7_powerOf, .static yX7_powerOf, .code yX7_powerOf cX7_powerOf 10 (some .int)])
def wsX7_isBase : List Cond := .code yX7_isBase cX7_isBase 1 (some .boolean) :: ([.constantLong RX7 56 (2), .constantLong RX7 184 (36), .methodLink RX7 60 yX7_in, .static yX7_in, .initialized RX7, .code yX7_in cX7_in 6 (some .boolean)])
def wsX7_aheadOf : List Cond := .code yX7_aheadOf cX7_aheadOf 4 (some .int) :: ([.methodLink RX7 64 yX7_common, .static yX7_common, .initialized RX7, .code yX7_common cX7_common 5 (some .int)])
def wsX7_roundOf : List Cond := .code yX7_roundOf cX7_roundOf 3 (some .int) :: ([.methodLink RX7 64 yX7_common, .static yX7_common, .initialized RX7, .code yX7_common cX7_common 5 (some .int), .methodLink RX7 79 yX7_orderOf, .static yX7_orderOf, .code yX7_orderOf cX7_orderOf 5 (some .int)])
def wsX7_broken_r1 : List Cond := [Cond.methodLink RX7 186 yX7_isBase, Cond.static yX7_isBase, Cond.initialized RX7, Cond.code yX7_isBase cX7_isBase 1 (some .boolean), Cond.constantLong RX7 56 (2), Cond.constantLong RX7 184 (36), Cond.methodLink RX7 60 yX7_in, Cond.static yX7_in, Cond.code yX7_in cX7_in 6 (some .boolean), Cond.methodLink RX7 68 yX7_isBy, Cond.static yX7_isBy, Cond.code yX7_isBy cX7_isBy 1 (some .boolean), Cond.constantLong RX7 58 (50000), Cond.methodLink RX7 189 yX7_aheadOf, Cond.static yX7_aheadOf, Cond.code yX7_aheadOf cX7_aheadOf 4 (some .int), Cond.methodLink RX7 64 yX7_common, Cond.static yX7_common, Cond.code yX7_common cX7_common 5 (some .int), Cond.methodLink RX7 192 yX7_roundOf, Cond.static yX7_roundOf, Cond.code yX7_roundOf cX7_roundOf 3 (some .int), Cond.methodLink RX7 79 yX7_orderOf, Cond.static yX7_orderOf]
def wsX7_broken_r2 : List Cond := [Cond.code yX7_orderOf cX7_orderOf 5 (some .int)]
def wsX7_broken : List Cond := .code yX7_broken cX7_broken 4 (some .int) :: ((wsX7_broken_r1 ++ wsX7_broken_r2))
def wsX7_figure : List Cond := .code yX7_figure cX7_figure 4 (some .int) :: ([.constantLong RX7 96 (1000000), .methodLink RX7 186 yX7_isBase, .static yX7_isBase, .initialized RX7, .code yX7_isBase cX7_isBase 1 (some .boolean), .constantLong RX7 56 (2), .constantLong RX7 184 (36), .methodLink RX7 60 yX7_in, .static yX7_in, .code yX7_in cX7_in 6 (some .boolean), .methodLink RX7 68 yX7_isBy, .static yX7_isBy, .code yX7_isBy cX7_isBy 1 (some .boolean), .constantLong RX7 58 (50000), .methodLink RX7 88 yX7_powerOf, .static yX7_powerOf, .code yX7_powerOf cX7_powerOf 10 (some .int)])
def wsX7_soLong : List Cond := .code yX7_soLong cX7_soLong 7 (some .int) :: ([.constantLong RX7 195 (3000), .constantLong RX7 56 (2), .methodLink RX7 186 yX7_isBase, .static yX7_isBase, .initialized RX7, .code yX7_isBase cX7_isBase 1 (some .boolean), .constantLong RX7 184 (36), .methodLink RX7 60 yX7_in, .static yX7_in, .code yX7_in cX7_in 6 (some .boolean), .methodLink RX7 192 yX7_roundOf, .static yX7_roundOf, .code yX7_roundOf cX7_roundOf 3 (some .int), .methodLink RX7 64 yX7_common, .static yX7_common, .code yX7_common cX7_common 5 (some .int), .methodLink RX7 79 yX7_orderOf, .static yX7_orderOf, .code yX7_orderOf cX7_orderOf 5 (some .int)])
def wsX7_turning_r1 : List Cond := [Cond.methodLink RX7 186 yX7_isBase, Cond.static yX7_isBase, Cond.initialized RX7, Cond.code yX7_isBase cX7_isBase 1 (some .boolean), Cond.constantLong RX7 56 (2), Cond.constantLong RX7 184 (36), Cond.methodLink RX7 60 yX7_in, Cond.static yX7_in, Cond.code yX7_in cX7_in 6 (some .boolean), Cond.methodLink RX7 68 yX7_isBy, Cond.static yX7_isBy, Cond.code yX7_isBy cX7_isBy 1 (some .boolean), Cond.constantLong RX7 58 (50000), Cond.methodLink RX7 174 yX7_isPrime, Cond.static yX7_isPrime, Cond.code yX7_isPrime cX7_isPrime 3 (some .boolean), Cond.methodLink RX7 192 yX7_roundOf, Cond.static yX7_roundOf, Cond.code yX7_roundOf cX7_roundOf 3 (some .int), Cond.methodLink RX7 64 yX7_common, Cond.static yX7_common, Cond.code yX7_common cX7_common 5 (some .int), Cond.methodLink RX7 79 yX7_orderOf, Cond.static yX7_orderOf]
def wsX7_turning_r2 : List Cond := [Cond.code yX7_orderOf cX7_orderOf 5 (some .int)]
def wsX7_turning : List Cond := .code yX7_turning cX7_turning 7 (some .int) :: ((wsX7_turning_r1 ++ wsX7_turning_r2))
def wsX7_share : List Cond := .code yX7_share cX7_share 4 (some .int) :: ([])
def wsX7_lift : List Cond := .code yX7_lift cX7_lift 4 (some .long) :: ([])
def wsX7_tower : List Cond := .code yX7_tower cX7_tower 16 (some .int) :: ([.constantLong RX7 197 (6), .fieldLink RX7 53 "PowerRestsModel" "chain" "[I", .constantLong RX7 199 (1023), .constantLong RX7 201 (1000), .constantLong RX7 56 (2), .methodLink RX7 68 yX7_isBy, .static yX7_isBy, .initialized RX7, .code yX7_isBy cX7_isBy 1 (some .boolean), .constantLong RX7 58 (50000), .methodLink RX7 60 yX7_in, .static yX7_in, .code yX7_in cX7_in 6 (some .boolean), .methodLink RX7 203 yX7_share, .static yX7_share, .code yX7_share cX7_share 4 (some .int), .methodLink RX7 206 yX7_lift, .static yX7_lift, .code yX7_lift cX7_lift 4 (some .long)] ++ wsX70)
def wsX7_isPair : List Cond := .code yX7_isPair cX7_isPair 2 (some .boolean) :: ([.constantLong RX7 56 (2), .constantLong RX7 210 (199), .methodLink RX7 60 yX7_in, .static yX7_in, .initialized RX7, .code yX7_in cX7_in 6 (some .boolean), .methodLink RX7 174 yX7_isPrime, .static yX7_isPrime, .code yX7_isPrime cX7_isPrime 3 (some .boolean)])
def wsX7_isFree : List Cond := .code yX7_isFree cX7_isFree 3 (some .boolean) :: ([.methodLink RX7 64 yX7_common, .static yX7_common, .initialized RX7, .code yX7_common cX7_common 5 (some .int)])
def wsX7_both : List Cond := .code yX7_both cX7_both 2 (some .int) :: ([.methodLink RX7 64 yX7_common, .static yX7_common, .initialized RX7, .code yX7_common cX7_common 5 (some .int)])
def wsX7_back : List Cond := .code yX7_back cX7_back 6 (some .int) :: ([.constantLong RX7 215 (100000), .methodLink RX7 212 yX7_isPair, .static yX7_isPair, .initialized RX7, .code yX7_isPair cX7_isPair 2 (some .boolean), .constantLong RX7 56 (2), .constantLong RX7 210 (199), .methodLink RX7 60 yX7_in, .static yX7_in, .code yX7_in cX7_in 6 (some .boolean), .methodLink RX7 174 yX7_isPrime, .static yX7_isPrime, .code yX7_isPrime cX7_isPrime 3 (some .boolean), .methodLink RX7 217 yX7_isFree, .static yX7_isFree, .code yX7_isFree cX7_isFree 3 (some .boolean), .methodLink RX7 64 yX7_common, .static yX7_common, .code yX7_common cX7_common 5 (some .int), .methodLink RX7 221 yX7_both, .static yX7_both, .code yX7_both cX7_both 2 (some .int)])
def wsX7_stay : List Cond := .code yX7_stay cX7_stay 7 (some .int) :: ([.constantLong RX7 215 (100000), .methodLink RX7 212 yX7_isPair, .static yX7_isPair, .initialized RX7, .code yX7_isPair cX7_isPair 2 (some .boolean), .constantLong RX7 56 (2), .constantLong RX7 210 (199), .methodLink RX7 60 yX7_in, .static yX7_in, .code yX7_in cX7_in 6 (some .boolean), .methodLink RX7 174 yX7_isPrime, .static yX7_isPrime, .code yX7_isPrime cX7_isPrime 3 (some .boolean), .methodLink RX7 217 yX7_isFree, .static yX7_isFree, .code yX7_isFree cX7_isFree 3 (some .boolean), .methodLink RX7 64 yX7_common, .static yX7_common, .code yX7_common cX7_common 5 (some .int), .methodLink RX7 88 yX7_powerOf, .static yX7_powerOf, .code yX7_powerOf cX7_powerOf 10 (some .int)])
def wsX7_rounds_r1 : List Cond := [Cond.constantLong RX7 215 (100000), Cond.constantLong RX7 151 (-1), Cond.methodLink RX7 212 yX7_isPair, Cond.static yX7_isPair, Cond.initialized RX7, Cond.code yX7_isPair cX7_isPair 2 (some .boolean), Cond.constantLong RX7 56 (2), Cond.constantLong RX7 210 (199), Cond.methodLink RX7 60 yX7_in, Cond.static yX7_in, Cond.code yX7_in cX7_in 6 (some .boolean), Cond.methodLink RX7 174 yX7_isPrime, Cond.static yX7_isPrime, Cond.code yX7_isPrime cX7_isPrime 3 (some .boolean), Cond.methodLink RX7 217 yX7_isFree, Cond.static yX7_isFree, Cond.code yX7_isFree cX7_isFree 3 (some .boolean), Cond.methodLink RX7 64 yX7_common, Cond.static yX7_common, Cond.code yX7_common cX7_common 5 (some .int), Cond.methodLink RX7 221 yX7_both, Cond.static yX7_both, Cond.code yX7_both cX7_both 2 (some .int), Cond.methodLink RX7 88 yX7_powerOf]
def wsX7_rounds_r2 : List Cond := [Cond.static yX7_powerOf, Cond.code yX7_powerOf cX7_powerOf 10 (some .int)]
def wsX7_rounds : List Cond := .code yX7_rounds cX7_rounds 9 (some .int) :: ((wsX7_rounds_r1 ++ wsX7_rounds_r2))
def wsX7_count : List Cond := .code yX7_count cX7_count 2 (some .int) :: ([.fieldLink RX7 102 "PowerRestsModel" "length" "I", .fieldLink RX7 137 "PowerRestsModel" "items" "I", .fieldLink RX7 13 "PowerRestsModel" "period" "I"] ++ wsX70)
def wsJ9_min_7cf53 : List Cond := .code yJ9_min_7cf53 cJ9_min_7cf53 2 (some .int) :: ([])
def wsJ9_min_f86c9 : List Cond := .code yJ9_min_f86c9 cJ9_min_f86c9 4 (some .long) :: ([])
abbrev vwCl : List vw_C := [(RX0, TX0, 3), (RX1, TX1, 5), (RX2, TX2, 6), (RX3, TX3, 2), (RX5, TX5, 2), (RX6, TX6, 10), (RX7, TX7, 18)]
end
section
theorem dX0_init_0 : decode cX0_init 0 = .ok (.aload_n 0, 1) := by decide +kernel
theorem dX0_init_1 : decode cX0_init 1 = .ok (.invokespecial 1, 3) := by decide +kernel
theorem dX0_init_4 : decode cX0_init 4 = .ok (.aload_n 0, 1) := by decide +kernel
theorem dX0_init_5 : decode cX0_init 5 = .ok (.bipush 8, 2) := by decide +kernel
theorem dX0_init_7 : decode cX0_init 7 = .ok (.newarray .int, 2) := by decide +kernel
theorem dX0_init_9 : decode cX0_init 9 = .ok (.putfield 9, 3) := by decide +kernel
theorem dX0_init_12 : decode cX0_init 12 = .ok (.aload_n 0, 1) := by decide +kernel
theorem dX0_init_13 : decode cX0_init 13 = .ok (.bipush 8, 2) := by decide +kernel
theorem dX0_init_15 : decode cX0_init 15 = .ok (.newarray .int, 2) := by decide +kernel
theorem dX0_init_17 : decode cX0_init 17 = .ok (.putfield 13, 3) := by decide +kernel
theorem dX0_init_20 : decode cX0_init 20 = .ok (.return_, 1) := by decide +kernel
set_option maxRecDepth 20000 in
theorem ggX0_split_X0_takeOut : GoodIn wsX0_split wsX0_takeOut := goodIn_r _ [6, 1, 7, 8, 9, 10, 11] (by decide +kernel) (by decide +kernel)
set_option maxRecDepth 20000 in
theorem gX0_split_X0_takeOut : GoodIn wsX0_split (wsV RX0 20 RX0 yX0_takeOut wsX0_takeOut) := goodIn_app (goodIn_of _ (by decide +kernel)) ggX0_split_X0_takeOut
theorem dX0_split_0 : decode cX0_split 0 = .ok (.aload_n 0, 1) := by decide +kernel
theorem dX0_split_1 : decode cX0_split 1 = .ok (.iconst 0, 1) := by decide +kernel
theorem dX0_split_2 : decode cX0_split 2 = .ok (.putfield 16, 3) := by decide +kernel
theorem dX0_split_5 : decode cX0_split 5 = .ok (.iload_n 1, 1) := by decide +kernel
theorem dX0_split_6 : decode cX0_split 6 = .ok (.istore_n 2, 1) := by decide +kernel
theorem dX0_split_7 : decode cX0_split 7 = .ok (.iconst 2, 1) := by decide +kernel
theorem dX0_split_8 : decode cX0_split 8 = .ok (.istore_n 3, 1) := by decide +kernel
theorem dX0_split_9 : decode cX0_split 9 = .ok (.iload_n 3, 1) := by decide +kernel
theorem dX0_split_10 : decode cX0_split 10 = .ok (.sipush 1000, 3) := by decide +kernel
theorem dX0_split_13 : decode cX0_split 13 = .ok (.if_icmp .ge 29, 3) := by decide +kernel
theorem dX0_split_16 : decode cX0_split 16 = .ok (.iload_n 3, 1) := by decide +kernel
theorem dX0_split_17 : decode cX0_split 17 = .ok (.iload_n 3, 1) := by decide +kernel
theorem dX0_split_18 : decode cX0_split 18 = .ok (.imul, 1) := by decide +kernel
theorem dX0_split_19 : decode cX0_split 19 = .ok (.iload_n 2, 1) := by decide +kernel
theorem dX0_split_20 : decode cX0_split 20 = .ok (.if_icmp .gt 22, 3) := by decide +kernel
theorem dX0_split_23 : decode cX0_split 23 = .ok (.iload_n 2, 1) := by decide +kernel
theorem dX0_split_24 : decode cX0_split 24 = .ok (.iload_n 3, 1) := by decide +kernel
theorem dX0_split_25 : decode cX0_split 25 = .ok (.irem, 1) := by decide +kernel
theorem dX0_split_26 : decode cX0_split 26 = .ok (.ifCond .ne 10, 3) := by decide +kernel
theorem dX0_split_29 : decode cX0_split 29 = .ok (.aload_n 0, 1) := by decide +kernel
theorem dX0_split_30 : decode cX0_split 30 = .ok (.iload_n 3, 1) := by decide +kernel
theorem dX0_split_31 : decode cX0_split 31 = .ok (.iload_n 2, 1) := by decide +kernel
theorem dX0_split_32 : decode cX0_split 32 = .ok (.invokevirtual 20, 3) := by decide +kernel
theorem dX0_split_35 : decode cX0_split 35 = .ok (.istore_n 2, 1) := by decide +kernel
theorem dX0_split_36 : decode cX0_split 36 = .ok (.iinc 3 1, 3) := by decide +kernel
theorem dX0_split_39 : decode cX0_split 39 = .ok (.goto (-30), 3) := by decide +kernel
theorem dX0_split_42 : decode cX0_split 42 = .ok (.iload_n 2, 1) := by decide +kernel
theorem dX0_split_43 : decode cX0_split 43 = .ok (.iconst 1, 1) := by decide +kernel
theorem dX0_split_44 : decode cX0_split 44 = .ok (.if_icmp .le 10, 3) := by decide +kernel
theorem dX0_split_47 : decode cX0_split 47 = .ok (.aload_n 0, 1) := by decide +kernel
theorem dX0_split_48 : decode cX0_split 48 = .ok (.iload_n 2, 1) := by decide +kernel
theorem dX0_split_49 : decode cX0_split 49 = .ok (.iload_n 2, 1) := by decide +kernel
theorem dX0_split_50 : decode cX0_split 50 = .ok (.invokevirtual 20, 3) := by decide +kernel
theorem dX0_split_53 : decode cX0_split 53 = .ok (.pop, 1) := by decide +kernel
theorem dX0_split_54 : decode cX0_split 54 = .ok (.return_, 1) := by decide +kernel
theorem dX0_takeOut_0 : decode cX0_takeOut 0 = .ok (.iload_n 2, 1) := by decide +kernel
theorem dX0_takeOut_1 : decode cX0_takeOut 1 = .ok (.istore_n 3, 1) := by decide +kernel
theorem dX0_takeOut_2 : decode cX0_takeOut 2 = .ok (.iconst 0, 1) := by decide +kernel
theorem dX0_takeOut_3 : decode cX0_takeOut 3 = .ok (.istore 4, 2) := by decide +kernel
theorem dX0_takeOut_5 : decode cX0_takeOut 5 = .ok (.iconst 0, 1) := by decide +kernel
theorem dX0_takeOut_6 : decode cX0_takeOut 6 = .ok (.istore 5, 2) := by decide +kernel
theorem dX0_takeOut_8 : decode cX0_takeOut 8 = .ok (.iload 5, 2) := by decide +kernel
theorem dX0_takeOut_10 : decode cX0_takeOut 10 = .ok (.bipush 32, 2) := by decide +kernel
theorem dX0_takeOut_12 : decode cX0_takeOut 12 = .ok (.if_icmp .ge 22, 3) := by decide +kernel
theorem dX0_takeOut_15 : decode cX0_takeOut 15 = .ok (.iload_n 3, 1) := by decide +kernel
theorem dX0_takeOut_16 : decode cX0_takeOut 16 = .ok (.iload_n 1, 1) := by decide +kernel
theorem dX0_takeOut_17 : decode cX0_takeOut 17 = .ok (.irem, 1) := by decide +kernel
theorem dX0_takeOut_18 : decode cX0_takeOut 18 = .ok (.ifCond .ne 16, 3) := by decide +kernel
theorem dX0_takeOut_21 : decode cX0_takeOut 21 = .ok (.iload_n 3, 1) := by decide +kernel
theorem dX0_takeOut_22 : decode cX0_takeOut 22 = .ok (.iload_n 1, 1) := by decide +kernel
theorem dX0_takeOut_23 : decode cX0_takeOut 23 = .ok (.idiv, 1) := by decide +kernel
theorem dX0_takeOut_24 : decode cX0_takeOut 24 = .ok (.istore_n 3, 1) := by decide +kernel
theorem dX0_takeOut_25 : decode cX0_takeOut 25 = .ok (.iinc 4 1, 3) := by decide +kernel
theorem dX0_takeOut_28 : decode cX0_takeOut 28 = .ok (.iinc 5 1, 3) := by decide +kernel
theorem dX0_takeOut_31 : decode cX0_takeOut 31 = .ok (.goto (-23), 3) := by decide +kernel
theorem dX0_takeOut_34 : decode cX0_takeOut 34 = .ok (.aload_n 0, 1) := by decide +kernel
theorem dX0_takeOut_35 : decode cX0_takeOut 35 = .ok (.getfield 16, 3) := by decide +kernel
theorem dX0_takeOut_38 : decode cX0_takeOut 38 = .ok (.bipush 8, 2) := by decide +kernel
theorem dX0_takeOut_40 : decode cX0_takeOut 40 = .ok (.if_icmp .ge 34, 3) := by decide +kernel
theorem dX0_takeOut_43 : decode cX0_takeOut 43 = .ok (.aload_n 0, 1) := by decide +kernel
theorem dX0_takeOut_44 : decode cX0_takeOut 44 = .ok (.getfield 9, 3) := by decide +kernel
theorem dX0_takeOut_47 : decode cX0_takeOut 47 = .ok (.aload_n 0, 1) := by decide +kernel
theorem dX0_takeOut_48 : decode cX0_takeOut 48 = .ok (.getfield 16, 3) := by decide +kernel
theorem dX0_takeOut_51 : decode cX0_takeOut 51 = .ok (.iload_n 1, 1) := by decide +kernel
theorem dX0_takeOut_52 : decode cX0_takeOut 52 = .ok (.iastore, 1) := by decide +kernel
theorem dX0_takeOut_53 : decode cX0_takeOut 53 = .ok (.aload_n 0, 1) := by decide +kernel
theorem dX0_takeOut_54 : decode cX0_takeOut 54 = .ok (.getfield 13, 3) := by decide +kernel
theorem dX0_takeOut_57 : decode cX0_takeOut 57 = .ok (.aload_n 0, 1) := by decide +kernel
theorem dX0_takeOut_58 : decode cX0_takeOut 58 = .ok (.getfield 16, 3) := by decide +kernel
theorem dX0_takeOut_61 : decode cX0_takeOut 61 = .ok (.iload 4, 2) := by decide +kernel
theorem dX0_takeOut_63 : decode cX0_takeOut 63 = .ok (.iastore, 1) := by decide +kernel
theorem dX0_takeOut_64 : decode cX0_takeOut 64 = .ok (.aload_n 0, 1) := by decide +kernel
theorem dX0_takeOut_65 : decode cX0_takeOut 65 = .ok (.dup, 1) := by decide +kernel
theorem dX0_takeOut_66 : decode cX0_takeOut 66 = .ok (.getfield 16, 3) := by decide +kernel
theorem dX0_takeOut_69 : decode cX0_takeOut 69 = .ok (.iconst 1, 1) := by decide +kernel
theorem dX0_takeOut_70 : decode cX0_takeOut 70 = .ok (.iadd, 1) := by decide +kernel
theorem dX0_takeOut_71 : decode cX0_takeOut 71 = .ok (.putfield 16, 3) := by decide +kernel
theorem dX0_takeOut_74 : decode cX0_takeOut 74 = .ok (.iload_n 3, 1) := by decide +kernel
theorem dX0_takeOut_75 : decode cX0_takeOut 75 = .ok (.ireturn, 1) := by decide +kernel
theorem dX0_sharesWith_0 : decode cX0_sharesWith 0 = .ok (.iconst 0, 1) := by decide +kernel
theorem dX0_sharesWith_1 : decode cX0_sharesWith 1 = .ok (.istore_n 2, 1) := by decide +kernel
theorem dX0_sharesWith_2 : decode cX0_sharesWith 2 = .ok (.iload_n 2, 1) := by decide +kernel
theorem dX0_sharesWith_3 : decode cX0_sharesWith 3 = .ok (.aload_n 0, 1) := by decide +kernel
theorem dX0_sharesWith_4 : decode cX0_sharesWith 4 = .ok (.getfield 16, 3) := by decide +kernel
theorem dX0_sharesWith_7 : decode cX0_sharesWith 7 = .ok (.if_icmp .ge 22, 3) := by decide +kernel
theorem dX0_sharesWith_10 : decode cX0_sharesWith 10 = .ok (.iload_n 1, 1) := by decide +kernel
theorem dX0_sharesWith_11 : decode cX0_sharesWith 11 = .ok (.aload_n 0, 1) := by decide +kernel
theorem dX0_sharesWith_12 : decode cX0_sharesWith 12 = .ok (.getfield 9, 3) := by decide +kernel
theorem dX0_sharesWith_15 : decode cX0_sharesWith 15 = .ok (.iload_n 2, 1) := by decide +kernel
theorem dX0_sharesWith_16 : decode cX0_sharesWith 16 = .ok (.iaload, 1) := by decide +kernel
theorem dX0_sharesWith_17 : decode cX0_sharesWith 17 = .ok (.irem, 1) := by decide +kernel
theorem dX0_sharesWith_18 : decode cX0_sharesWith 18 = .ok (.ifCond .ne 5, 3) := by decide +kernel
theorem dX0_sharesWith_21 : decode cX0_sharesWith 21 = .ok (.iconst 1, 1) := by decide +kernel
theorem dX0_sharesWith_22 : decode cX0_sharesWith 22 = .ok (.ireturn, 1) := by decide +kernel
theorem dX0_sharesWith_23 : decode cX0_sharesWith 23 = .ok (.iinc 2 1, 3) := by decide +kernel
theorem dX0_sharesWith_26 : decode cX0_sharesWith 26 = .ok (.goto (-24), 3) := by decide +kernel
theorem dX0_sharesWith_29 : decode cX0_sharesWith 29 = .ok (.iconst 0, 1) := by decide +kernel
theorem dX0_sharesWith_30 : decode cX0_sharesWith 30 = .ok (.ireturn, 1) := by decide +kernel
theorem dX0_powerAt_0 : decode cX0_powerAt 0 = .ok (.iconst 1, 1) := by decide +kernel
theorem dX0_powerAt_1 : decode cX0_powerAt 1 = .ok (.istore_n 2, 1) := by decide +kernel
theorem dX0_powerAt_2 : decode cX0_powerAt 2 = .ok (.iconst 0, 1) := by decide +kernel
theorem dX0_powerAt_3 : decode cX0_powerAt 3 = .ok (.istore_n 3, 1) := by decide +kernel
theorem dX0_powerAt_4 : decode cX0_powerAt 4 = .ok (.iload_n 3, 1) := by decide +kernel
theorem dX0_powerAt_5 : decode cX0_powerAt 5 = .ok (.aload_n 0, 1) := by decide +kernel
theorem dX0_powerAt_6 : decode cX0_powerAt 6 = .ok (.getfield 13, 3) := by decide +kernel
theorem dX0_powerAt_9 : decode cX0_powerAt 9 = .ok (.iload_n 1, 1) := by decide +kernel
theorem dX0_powerAt_10 : decode cX0_powerAt 10 = .ok (.iaload, 1) := by decide +kernel
theorem dX0_powerAt_11 : decode cX0_powerAt 11 = .ok (.if_icmp .ge 18, 3) := by decide +kernel
theorem dX0_powerAt_14 : decode cX0_powerAt 14 = .ok (.iload_n 2, 1) := by decide +kernel
theorem dX0_powerAt_15 : decode cX0_powerAt 15 = .ok (.aload_n 0, 1) := by decide +kernel
theorem dX0_powerAt_16 : decode cX0_powerAt 16 = .ok (.getfield 9, 3) := by decide +kernel
theorem dX0_powerAt_19 : decode cX0_powerAt 19 = .ok (.iload_n 1, 1) := by decide +kernel
theorem dX0_powerAt_20 : decode cX0_powerAt 20 = .ok (.iaload, 1) := by decide +kernel
theorem dX0_powerAt_21 : decode cX0_powerAt 21 = .ok (.imul, 1) := by decide +kernel
theorem dX0_powerAt_22 : decode cX0_powerAt 22 = .ok (.istore_n 2, 1) := by decide +kernel
theorem dX0_powerAt_23 : decode cX0_powerAt 23 = .ok (.iinc 3 1, 3) := by decide +kernel
theorem dX0_powerAt_26 : decode cX0_powerAt 26 = .ok (.goto (-22), 3) := by decide +kernel
theorem dX0_powerAt_29 : decode cX0_powerAt 29 = .ok (.iload_n 2, 1) := by decide +kernel
theorem dX0_powerAt_30 : decode cX0_powerAt 30 = .ok (.ireturn, 1) := by decide +kernel
set_option maxRecDepth 20000 in
theorem ggX0_unitsAt_X0_powerAt : GoodIn wsX0_unitsAt wsX0_powerAt := goodIn_r _ [6, 7, 1, 8, 9, 10] (by decide +kernel) (by decide +kernel)
set_option maxRecDepth 20000 in
theorem gX0_unitsAt_X0_powerAt : GoodIn wsX0_unitsAt (wsV RX0 24 RX0 yX0_powerAt wsX0_powerAt) := goodIn_app (goodIn_of _ (by decide +kernel)) ggX0_unitsAt_X0_powerAt
theorem dX0_unitsAt_0 : decode cX0_unitsAt 0 = .ok (.aload_n 0, 1) := by decide +kernel
theorem dX0_unitsAt_1 : decode cX0_unitsAt 1 = .ok (.iload_n 1, 1) := by decide +kernel
theorem dX0_unitsAt_2 : decode cX0_unitsAt 2 = .ok (.invokevirtual 24, 3) := by decide +kernel
theorem dX0_unitsAt_5 : decode cX0_unitsAt 5 = .ok (.istore_n 2, 1) := by decide +kernel
theorem dX0_unitsAt_6 : decode cX0_unitsAt 6 = .ok (.iload_n 2, 1) := by decide +kernel
theorem dX0_unitsAt_7 : decode cX0_unitsAt 7 = .ok (.iload_n 2, 1) := by decide +kernel
theorem dX0_unitsAt_8 : decode cX0_unitsAt 8 = .ok (.aload_n 0, 1) := by decide +kernel
theorem dX0_unitsAt_9 : decode cX0_unitsAt 9 = .ok (.getfield 9, 3) := by decide +kernel
theorem dX0_unitsAt_12 : decode cX0_unitsAt 12 = .ok (.iload_n 1, 1) := by decide +kernel
theorem dX0_unitsAt_13 : decode cX0_unitsAt 13 = .ok (.iaload, 1) := by decide +kernel
theorem dX0_unitsAt_14 : decode cX0_unitsAt 14 = .ok (.idiv, 1) := by decide +kernel
theorem dX0_unitsAt_15 : decode cX0_unitsAt 15 = .ok (.isub, 1) := by decide +kernel
theorem dX0_unitsAt_16 : decode cX0_unitsAt 16 = .ok (.ireturn, 1) := by decide +kernel
set_option maxRecDepth 20000 in
theorem ggX0_unitCount_X0_unitsAt : GoodIn wsX0_unitCount wsX0_unitsAt := goodIn_r _ [6, 7, 8, 9, 10, 5, 11, 12, 13, 14, 15] (by decide +kernel) (by decide +kernel)
set_option maxRecDepth 20000 in
theorem gX0_unitCount_X0_unitsAt : GoodIn wsX0_unitCount (wsV RX0 28 RX0 yX0_unitsAt wsX0_unitsAt) := goodIn_app (goodIn_of _ (by decide +kernel)) ggX0_unitCount_X0_unitsAt
theorem dX0_unitCount_0 : decode cX0_unitCount 0 = .ok (.iconst 1, 1) := by decide +kernel
theorem dX0_unitCount_1 : decode cX0_unitCount 1 = .ok (.istore_n 1, 1) := by decide +kernel
theorem dX0_unitCount_2 : decode cX0_unitCount 2 = .ok (.iconst 0, 1) := by decide +kernel
theorem dX0_unitCount_3 : decode cX0_unitCount 3 = .ok (.istore_n 2, 1) := by decide +kernel
theorem dX0_unitCount_4 : decode cX0_unitCount 4 = .ok (.iload_n 2, 1) := by decide +kernel
theorem dX0_unitCount_5 : decode cX0_unitCount 5 = .ok (.aload_n 0, 1) := by decide +kernel
theorem dX0_unitCount_6 : decode cX0_unitCount 6 = .ok (.getfield 16, 3) := by decide +kernel
theorem dX0_unitCount_9 : decode cX0_unitCount 9 = .ok (.if_icmp .ge 17, 3) := by decide +kernel
theorem dX0_unitCount_12 : decode cX0_unitCount 12 = .ok (.iload_n 1, 1) := by decide +kernel
theorem dX0_unitCount_13 : decode cX0_unitCount 13 = .ok (.aload_n 0, 1) := by decide +kernel
theorem dX0_unitCount_14 : decode cX0_unitCount 14 = .ok (.iload_n 2, 1) := by decide +kernel
theorem dX0_unitCount_15 : decode cX0_unitCount 15 = .ok (.invokevirtual 28, 3) := by decide +kernel
theorem dX0_unitCount_18 : decode cX0_unitCount 18 = .ok (.imul, 1) := by decide +kernel
theorem dX0_unitCount_19 : decode cX0_unitCount 19 = .ok (.istore_n 1, 1) := by decide +kernel
theorem dX0_unitCount_20 : decode cX0_unitCount 20 = .ok (.iinc 2 1, 3) := by decide +kernel
theorem dX0_unitCount_23 : decode cX0_unitCount 23 = .ok (.goto (-19), 3) := by decide +kernel
theorem dX0_unitCount_26 : decode cX0_unitCount 26 = .ok (.iload_n 1, 1) := by decide +kernel
theorem dX0_unitCount_27 : decode cX0_unitCount 27 = .ok (.ireturn, 1) := by decide +kernel
theorem dX0_hasTwoCycles_0 : decode cX0_hasTwoCycles 0 = .ok (.aload_n 0, 1) := by decide +kernel
theorem dX0_hasTwoCycles_1 : decode cX0_hasTwoCycles 1 = .ok (.getfield 9, 3) := by decide +kernel
theorem dX0_hasTwoCycles_4 : decode cX0_hasTwoCycles 4 = .ok (.iload_n 1, 1) := by decide +kernel
theorem dX0_hasTwoCycles_5 : decode cX0_hasTwoCycles 5 = .ok (.iaload, 1) := by decide +kernel
theorem dX0_hasTwoCycles_6 : decode cX0_hasTwoCycles 6 = .ok (.iconst 2, 1) := by decide +kernel
theorem dX0_hasTwoCycles_7 : decode cX0_hasTwoCycles 7 = .ok (.if_icmp .ne 17, 3) := by decide +kernel
theorem dX0_hasTwoCycles_10 : decode cX0_hasTwoCycles 10 = .ok (.aload_n 0, 1) := by decide +kernel
theorem dX0_hasTwoCycles_11 : decode cX0_hasTwoCycles 11 = .ok (.getfield 13, 3) := by decide +kernel
theorem dX0_hasTwoCycles_14 : decode cX0_hasTwoCycles 14 = .ok (.iload_n 1, 1) := by decide +kernel
theorem dX0_hasTwoCycles_15 : decode cX0_hasTwoCycles 15 = .ok (.iaload, 1) := by decide +kernel
theorem dX0_hasTwoCycles_16 : decode cX0_hasTwoCycles 16 = .ok (.iconst 2, 1) := by decide +kernel
theorem dX0_hasTwoCycles_17 : decode cX0_hasTwoCycles 17 = .ok (.if_icmp .le 7, 3) := by decide +kernel
theorem dX0_hasTwoCycles_20 : decode cX0_hasTwoCycles 20 = .ok (.iconst 1, 1) := by decide +kernel
theorem dX0_hasTwoCycles_21 : decode cX0_hasTwoCycles 21 = .ok (.goto 4, 3) := by decide +kernel
theorem dX0_hasTwoCycles_24 : decode cX0_hasTwoCycles 24 = .ok (.iconst 0, 1) := by decide +kernel
theorem dX0_hasTwoCycles_25 : decode cX0_hasTwoCycles 25 = .ok (.ireturn, 1) := by decide +kernel
set_option maxRecDepth 20000 in
theorem ggX0_greatestOrder_X0_hasTwoCycles : GoodIn wsX0_greatestOrder wsX0_hasTwoCycles := goodIn_r _ [6, 7, 8, 24, 25, 26] (by decide +kernel) (by decide +kernel)
set_option maxRecDepth 20000 in
theorem gX0_greatestOrder_X0_hasTwoCycles : GoodIn wsX0_greatestOrder (wsV RX0 31 RX0 yX0_hasTwoCycles wsX0_hasTwoCycles) := goodIn_app (goodIn_of _ (by decide +kernel)) ggX0_greatestOrder_X0_hasTwoCycles
set_option maxRecDepth 20000 in
theorem ggX0_greatestOrder_X0_unitsAt : GoodIn wsX0_greatestOrder wsX0_unitsAt := goodIn_r _ [12, 7, 13, 14, 15, 5, 16, 8, 24, 25, 26] (by decide +kernel) (by decide +kernel)
set_option maxRecDepth 20000 in
theorem gX0_greatestOrder_X0_unitsAt : GoodIn wsX0_greatestOrder (wsV RX0 28 RX0 yX0_unitsAt wsX0_unitsAt) := goodIn_app (goodIn_of _ (by decide +kernel)) ggX0_greatestOrder_X0_unitsAt
set_option maxRecDepth 20000 in
theorem ggX0_greatestOrder_X4_commonMultiple : GoodIn wsX0_greatestOrder wsX4_commonMultiple := goodIn_r _ [20, 21, 22, 19, 23] (by decide +kernel) (by decide +kernel)
set_option maxRecDepth 20000 in
theorem gX0_greatestOrder_X4_commonMultiple : GoodIn wsX0_greatestOrder (va_wsS RX0 35 yX4_commonMultiple wsX4_commonMultiple) := goodIn_app (goodIn_of _ (by decide +kernel)) ggX0_greatestOrder_X4_commonMultiple
theorem dX0_greatestOrder_0 : decode cX0_greatestOrder 0 = .ok (.iconst 1, 1) := by decide +kernel
theorem dX0_greatestOrder_1 : decode cX0_greatestOrder 1 = .ok (.istore_n 1, 1) := by decide +kernel
theorem dX0_greatestOrder_2 : decode cX0_greatestOrder 2 = .ok (.iconst 0, 1) := by decide +kernel
theorem dX0_greatestOrder_3 : decode cX0_greatestOrder 3 = .ok (.istore_n 2, 1) := by decide +kernel
theorem dX0_greatestOrder_4 : decode cX0_greatestOrder 4 = .ok (.iload_n 2, 1) := by decide +kernel
theorem dX0_greatestOrder_5 : decode cX0_greatestOrder 5 = .ok (.aload_n 0, 1) := by decide +kernel
theorem dX0_greatestOrder_6 : decode cX0_greatestOrder 6 = .ok (.getfield 16, 3) := by decide +kernel
theorem dX0_greatestOrder_9 : decode cX0_greatestOrder 9 = .ok (.if_icmp .ge 39, 3) := by decide +kernel
theorem dX0_greatestOrder_12 : decode cX0_greatestOrder 12 = .ok (.aload_n 0, 1) := by decide +kernel
theorem dX0_greatestOrder_13 : decode cX0_greatestOrder 13 = .ok (.iload_n 2, 1) := by decide +kernel
theorem dX0_greatestOrder_14 : decode cX0_greatestOrder 14 = .ok (.invokevirtual 31, 3) := by decide +kernel
theorem dX0_greatestOrder_17 : decode cX0_greatestOrder 17 = .ok (.ifCond .eq 13, 3) := by decide +kernel
theorem dX0_greatestOrder_20 : decode cX0_greatestOrder 20 = .ok (.aload_n 0, 1) := by decide +kernel
theorem dX0_greatestOrder_21 : decode cX0_greatestOrder 21 = .ok (.iload_n 2, 1) := by decide +kernel
theorem dX0_greatestOrder_22 : decode cX0_greatestOrder 22 = .ok (.invokevirtual 28, 3) := by decide +kernel
theorem dX0_greatestOrder_25 : decode cX0_greatestOrder 25 = .ok (.iconst 2, 1) := by decide +kernel
theorem dX0_greatestOrder_26 : decode cX0_greatestOrder 26 = .ok (.idiv, 1) := by decide +kernel
theorem dX0_greatestOrder_27 : decode cX0_greatestOrder 27 = .ok (.goto 8, 3) := by decide +kernel
theorem dX0_greatestOrder_30 : decode cX0_greatestOrder 30 = .ok (.aload_n 0, 1) := by decide +kernel
theorem dX0_greatestOrder_31 : decode cX0_greatestOrder 31 = .ok (.iload_n 2, 1) := by decide +kernel
theorem dX0_greatestOrder_32 : decode cX0_greatestOrder 32 = .ok (.invokevirtual 28, 3) := by decide +kernel
theorem dX0_greatestOrder_35 : decode cX0_greatestOrder 35 = .ok (.istore_n 3, 1) := by decide +kernel
theorem dX0_greatestOrder_36 : decode cX0_greatestOrder 36 = .ok (.iload_n 1, 1) := by decide +kernel
theorem dX0_greatestOrder_37 : decode cX0_greatestOrder 37 = .ok (.iload_n 3, 1) := by decide +kernel
theorem dX0_greatestOrder_38 : decode cX0_greatestOrder 38 = .ok (.invokestatic 35, 3) := by decide +kernel
theorem dX0_greatestOrder_41 : decode cX0_greatestOrder 41 = .ok (.istore_n 1, 1) := by decide +kernel
theorem dX0_greatestOrder_42 : decode cX0_greatestOrder 42 = .ok (.iinc 2 1, 3) := by decide +kernel
theorem dX0_greatestOrder_45 : decode cX0_greatestOrder 45 = .ok (.goto (-41), 3) := by decide +kernel
theorem dX0_greatestOrder_48 : decode cX0_greatestOrder 48 = .ok (.iload_n 1, 1) := by decide +kernel
theorem dX0_greatestOrder_49 : decode cX0_greatestOrder 49 = .ok (.ireturn, 1) := by decide +kernel
set_option maxRecDepth 20000 in
theorem ggX0_rootsOfOne_X0_hasTwoCycles : GoodIn wsX0_rootsOfOne wsX0_hasTwoCycles := goodIn_r _ [6, 7, 8, 21, 22, 23] (by decide +kernel) (by decide +kernel)
set_option maxRecDepth 20000 in
theorem gX0_rootsOfOne_X0_hasTwoCycles : GoodIn wsX0_rootsOfOne (wsV RX0 31 RX0 yX0_hasTwoCycles wsX0_hasTwoCycles) := goodIn_app (goodIn_of _ (by decide +kernel)) ggX0_rootsOfOne_X0_hasTwoCycles
set_option maxRecDepth 20000 in
theorem ggX0_rootsOfOne_X4_commonDivisor : GoodIn wsX0_rootsOfOne wsX4_commonDivisor := goodIn_r _ [12] (by decide +kernel) (by decide +kernel)
set_option maxRecDepth 20000 in
theorem gX0_rootsOfOne_X4_commonDivisor : GoodIn wsX0_rootsOfOne (va_wsS RX0 40 yX4_commonDivisor wsX4_commonDivisor) := goodIn_app (goodIn_of _ (by decide +kernel)) ggX0_rootsOfOne_X4_commonDivisor
set_option maxRecDepth 20000 in
theorem ggX0_rootsOfOne_X0_unitsAt : GoodIn wsX0_rootsOfOne wsX0_unitsAt := goodIn_r _ [16, 7, 17, 18, 19, 5, 20, 8, 21, 22, 23] (by decide +kernel) (by decide +kernel)
set_option maxRecDepth 20000 in
theorem gX0_rootsOfOne_X0_unitsAt : GoodIn wsX0_rootsOfOne (wsV RX0 28 RX0 yX0_unitsAt wsX0_unitsAt) := goodIn_app (goodIn_of _ (by decide +kernel)) ggX0_rootsOfOne_X0_unitsAt
theorem dX0_rootsOfOne_0 : decode cX0_rootsOfOne 0 = .ok (.iconst 1, 1) := by decide +kernel
theorem dX0_rootsOfOne_1 : decode cX0_rootsOfOne 1 = .ok (.istore_n 2, 1) := by decide +kernel
theorem dX0_rootsOfOne_2 : decode cX0_rootsOfOne 2 = .ok (.iconst 0, 1) := by decide +kernel
theorem dX0_rootsOfOne_3 : decode cX0_rootsOfOne 3 = .ok (.istore_n 3, 1) := by decide +kernel
theorem dX0_rootsOfOne_4 : decode cX0_rootsOfOne 4 = .ok (.iload_n 3, 1) := by decide +kernel
theorem dX0_rootsOfOne_5 : decode cX0_rootsOfOne 5 = .ok (.aload_n 0, 1) := by decide +kernel
theorem dX0_rootsOfOne_6 : decode cX0_rootsOfOne 6 = .ok (.getfield 16, 3) := by decide +kernel
theorem dX0_rootsOfOne_9 : decode cX0_rootsOfOne 9 = .ok (.if_icmp .ge 52, 3) := by decide +kernel
theorem dX0_rootsOfOne_12 : decode cX0_rootsOfOne 12 = .ok (.aload_n 0, 1) := by decide +kernel
theorem dX0_rootsOfOne_13 : decode cX0_rootsOfOne 13 = .ok (.iload_n 3, 1) := by decide +kernel
theorem dX0_rootsOfOne_14 : decode cX0_rootsOfOne 14 = .ok (.invokevirtual 31, 3) := by decide +kernel
theorem dX0_rootsOfOne_17 : decode cX0_rootsOfOne 17 = .ok (.ifCond .eq 26, 3) := by decide +kernel
theorem dX0_rootsOfOne_20 : decode cX0_rootsOfOne 20 = .ok (.iload_n 2, 1) := by decide +kernel
theorem dX0_rootsOfOne_21 : decode cX0_rootsOfOne 21 = .ok (.iload_n 1, 1) := by decide +kernel
theorem dX0_rootsOfOne_22 : decode cX0_rootsOfOne 22 = .ok (.iconst 2, 1) := by decide +kernel
theorem dX0_rootsOfOne_23 : decode cX0_rootsOfOne 23 = .ok (.invokestatic 40, 3) := by decide +kernel
theorem dX0_rootsOfOne_26 : decode cX0_rootsOfOne 26 = .ok (.iload_n 1, 1) := by decide +kernel
theorem dX0_rootsOfOne_27 : decode cX0_rootsOfOne 27 = .ok (.aload_n 0, 1) := by decide +kernel
theorem dX0_rootsOfOne_28 : decode cX0_rootsOfOne 28 = .ok (.iload_n 3, 1) := by decide +kernel
theorem dX0_rootsOfOne_29 : decode cX0_rootsOfOne 29 = .ok (.invokevirtual 28, 3) := by decide +kernel
theorem dX0_rootsOfOne_32 : decode cX0_rootsOfOne 32 = .ok (.iconst 2, 1) := by decide +kernel
theorem dX0_rootsOfOne_33 : decode cX0_rootsOfOne 33 = .ok (.idiv, 1) := by decide +kernel
theorem dX0_rootsOfOne_34 : decode cX0_rootsOfOne 34 = .ok (.invokestatic 40, 3) := by decide +kernel
theorem dX0_rootsOfOne_37 : decode cX0_rootsOfOne 37 = .ok (.imul, 1) := by decide +kernel
theorem dX0_rootsOfOne_38 : decode cX0_rootsOfOne 38 = .ok (.imul, 1) := by decide +kernel
theorem dX0_rootsOfOne_39 : decode cX0_rootsOfOne 39 = .ok (.istore_n 2, 1) := by decide +kernel
theorem dX0_rootsOfOne_40 : decode cX0_rootsOfOne 40 = .ok (.goto 15, 3) := by decide +kernel
theorem dX0_rootsOfOne_43 : decode cX0_rootsOfOne 43 = .ok (.iload_n 2, 1) := by decide +kernel
theorem dX0_rootsOfOne_44 : decode cX0_rootsOfOne 44 = .ok (.iload_n 1, 1) := by decide +kernel
theorem dX0_rootsOfOne_45 : decode cX0_rootsOfOne 45 = .ok (.aload_n 0, 1) := by decide +kernel
theorem dX0_rootsOfOne_46 : decode cX0_rootsOfOne 46 = .ok (.iload_n 3, 1) := by decide +kernel
theorem dX0_rootsOfOne_47 : decode cX0_rootsOfOne 47 = .ok (.invokevirtual 28, 3) := by decide +kernel
theorem dX0_rootsOfOne_50 : decode cX0_rootsOfOne 50 = .ok (.invokestatic 40, 3) := by decide +kernel
theorem dX0_rootsOfOne_53 : decode cX0_rootsOfOne 53 = .ok (.imul, 1) := by decide +kernel
theorem dX0_rootsOfOne_54 : decode cX0_rootsOfOne 54 = .ok (.istore_n 2, 1) := by decide +kernel
theorem dX0_rootsOfOne_55 : decode cX0_rootsOfOne 55 = .ok (.iinc 3 1, 3) := by decide +kernel
theorem dX0_rootsOfOne_58 : decode cX0_rootsOfOne 58 = .ok (.goto (-54), 3) := by decide +kernel
theorem dX0_rootsOfOne_61 : decode cX0_rootsOfOne 61 = .ok (.iload_n 2, 1) := by decide +kernel
theorem dX0_rootsOfOne_62 : decode cX0_rootsOfOne 62 = .ok (.ireturn, 1) := by decide +kernel
theorem dX1_init_0 : decode cX1_init 0 = .ok (.aload_n 0, 1) := by decide +kernel
theorem dX1_init_1 : decode cX1_init 1 = .ok (.invokespecial 1, 3) := by decide +kernel
theorem dX1_init_4 : decode cX1_init 4 = .ok (.return_, 1) := by decide +kernel
set_option maxRecDepth 20000 in
theorem ggX1_read_X5_at : GoodIn wsX1_read wsX5_at := goodIn_r _ [10, 11, 12, 27, 28] (by decide +kernel) (by decide +kernel)
set_option maxRecDepth 20000 in
theorem gX1_read_X5_at : GoodIn wsX1_read (wsV RX1 7 RX5 yX5_at wsX5_at) := goodIn_app (goodIn_of _ (by decide +kernel)) ggX1_read_X5_at
set_option maxRecDepth 20000 in
theorem ggX1_read_X1_number : GoodIn wsX1_read wsX1_number := goodIn_r _ [17, 2, 6, 7, 8, 9, 10, 11, 12, 22, 23, 24, 25, 26, 27, 28] (by decide +kernel) (by decide +kernel)
set_option maxRecDepth 20000 in
theorem gX1_read_X1_number : GoodIn wsX1_read (wsV RX1 25 RX1 yX1_number wsX1_number) := goodIn_app (goodIn_of _ (by decide +kernel)) ggX1_read_X1_number
set_option maxRecDepth 20000 in
theorem ggX1_read_X1_isInBounds : GoodIn wsX1_read wsX1_isInBounds := goodIn_r _ [21, 1, 3, 5, 4, 22, 23, 24, 25, 26] (by decide +kernel) (by decide +kernel)
set_option maxRecDepth 20000 in
theorem gX1_read_X1_isInBounds : GoodIn wsX1_read (wsV RX1 35 RX1 yX1_isInBounds wsX1_isInBounds) := goodIn_app (goodIn_of _ (by decide +kernel)) ggX1_read_X1_isInBounds
theorem dX1_read_0 : decode cX1_read 0 = .ok (.aload_n 0, 1) := by decide +kernel
theorem dX1_read_1 : decode cX1_read 1 = .ok (.aload_n 1, 1) := by decide +kernel
theorem dX1_read_2 : decode cX1_read 2 = .ok (.iload_n 2, 1) := by decide +kernel
theorem dX1_read_3 : decode cX1_read 3 = .ok (.invokevirtual 7, 3) := by decide +kernel
theorem dX1_read_6 : decode cX1_read 6 = .ok (.putfield 13, 3) := by decide +kernel
theorem dX1_read_9 : decode cX1_read 9 = .ok (.aload_n 0, 1) := by decide +kernel
theorem dX1_read_10 : decode cX1_read 10 = .ok (.iload_n 2, 1) := by decide +kernel
theorem dX1_read_11 : decode cX1_read 11 = .ok (.iconst 1, 1) := by decide +kernel
theorem dX1_read_12 : decode cX1_read 12 = .ok (.iadd, 1) := by decide +kernel
theorem dX1_read_13 : decode cX1_read 13 = .ok (.putfield 19, 3) := by decide +kernel
theorem dX1_read_16 : decode cX1_read 16 = .ok (.aload_n 0, 1) := by decide +kernel
theorem dX1_read_17 : decode cX1_read 17 = .ok (.iconst 0, 1) := by decide +kernel
theorem dX1_read_18 : decode cX1_read 18 = .ok (.putfield 22, 3) := by decide +kernel
theorem dX1_read_21 : decode cX1_read 21 = .ok (.aload_n 0, 1) := by decide +kernel
theorem dX1_read_22 : decode cX1_read 22 = .ok (.getfield 13, 3) := by decide +kernel
theorem dX1_read_25 : decode cX1_read 25 = .ok (.bipush 108, 2) := by decide +kernel
theorem dX1_read_27 : decode cX1_read 27 = .ok (.if_icmp .eq 32, 3) := by decide +kernel
theorem dX1_read_30 : decode cX1_read 30 = .ok (.aload_n 0, 1) := by decide +kernel
theorem dX1_read_31 : decode cX1_read 31 = .ok (.getfield 13, 3) := by decide +kernel
theorem dX1_read_34 : decode cX1_read 34 = .ok (.bipush 112, 2) := by decide +kernel
theorem dX1_read_36 : decode cX1_read 36 = .ok (.if_icmp .eq 23, 3) := by decide +kernel
theorem dX1_read_39 : decode cX1_read 39 = .ok (.aload_n 0, 1) := by decide +kernel
theorem dX1_read_40 : decode cX1_read 40 = .ok (.getfield 13, 3) := by decide +kernel
theorem dX1_read_43 : decode cX1_read 43 = .ok (.bipush 110, 2) := by decide +kernel
theorem dX1_read_45 : decode cX1_read 45 = .ok (.if_icmp .eq 14, 3) := by decide +kernel
theorem dX1_read_48 : decode cX1_read 48 = .ok (.aload_n 0, 1) := by decide +kernel
theorem dX1_read_49 : decode cX1_read 49 = .ok (.getfield 13, 3) := by decide +kernel
theorem dX1_read_52 : decode cX1_read 52 = .ok (.bipush 98, 2) := by decide +kernel
theorem dX1_read_54 : decode cX1_read 54 = .ok (.if_icmp .eq 5, 3) := by decide +kernel
theorem dX1_read_57 : decode cX1_read 57 = .ok (.iconst 0, 1) := by decide +kernel
theorem dX1_read_58 : decode cX1_read 58 = .ok (.ireturn, 1) := by decide +kernel
theorem dX1_read_59 : decode cX1_read 59 = .ok (.aload_n 0, 1) := by decide +kernel
theorem dX1_read_60 : decode cX1_read 60 = .ok (.getfield 13, 3) := by decide +kernel
theorem dX1_read_63 : decode cX1_read 63 = .ok (.bipush 110, 2) := by decide +kernel
theorem dX1_read_65 : decode cX1_read 65 = .ok (.if_icmp .eq 14, 3) := by decide +kernel
theorem dX1_read_68 : decode cX1_read 68 = .ok (.aload_n 0, 1) := by decide +kernel
theorem dX1_read_69 : decode cX1_read 69 = .ok (.aload_n 0, 1) := by decide +kernel
theorem dX1_read_70 : decode cX1_read 70 = .ok (.aload_n 1, 1) := by decide +kernel
theorem dX1_read_71 : decode cX1_read 71 = .ok (.bipush 44, 2) := by decide +kernel
theorem dX1_read_73 : decode cX1_read 73 = .ok (.invokevirtual 25, 3) := by decide +kernel
theorem dX1_read_76 : decode cX1_read 76 = .ok (.putfield 22, 3) := by decide +kernel
theorem dX1_read_79 : decode cX1_read 79 = .ok (.aload_n 0, 1) := by decide +kernel
theorem dX1_read_80 : decode cX1_read 80 = .ok (.aload_n 0, 1) := by decide +kernel
theorem dX1_read_81 : decode cX1_read 81 = .ok (.aload_n 1, 1) := by decide +kernel
theorem dX1_read_82 : decode cX1_read 82 = .ok (.bipush 44, 2) := by decide +kernel
theorem dX1_read_84 : decode cX1_read 84 = .ok (.invokevirtual 25, 3) := by decide +kernel
theorem dX1_read_87 : decode cX1_read 87 = .ok (.putfield 29, 3) := by decide +kernel
theorem dX1_read_90 : decode cX1_read 90 = .ok (.aload_n 0, 1) := by decide +kernel
theorem dX1_read_91 : decode cX1_read 91 = .ok (.aload_n 0, 1) := by decide +kernel
theorem dX1_read_92 : decode cX1_read 92 = .ok (.aload_n 1, 1) := by decide +kernel
theorem dX1_read_93 : decode cX1_read 93 = .ok (.bipush 59, 2) := by decide +kernel
theorem dX1_read_95 : decode cX1_read 95 = .ok (.invokevirtual 25, 3) := by decide +kernel
theorem dX1_read_98 : decode cX1_read 98 = .ok (.putfield 32, 3) := by decide +kernel
theorem dX1_read_101 : decode cX1_read 101 = .ok (.aload_n 0, 1) := by decide +kernel
theorem dX1_read_102 : decode cX1_read 102 = .ok (.getfield 22, 3) := by decide +kernel
theorem dX1_read_105 : decode cX1_read 105 = .ok (.ifCond .lt 39, 3) := by decide +kernel
theorem dX1_read_108 : decode cX1_read 108 = .ok (.aload_n 0, 1) := by decide +kernel
theorem dX1_read_109 : decode cX1_read 109 = .ok (.getfield 29, 3) := by decide +kernel
theorem dX1_read_112 : decode cX1_read 112 = .ok (.ifCond .lt 32, 3) := by decide +kernel
theorem dX1_read_115 : decode cX1_read 115 = .ok (.aload_n 0, 1) := by decide +kernel
theorem dX1_read_116 : decode cX1_read 116 = .ok (.getfield 32, 3) := by decide +kernel
theorem dX1_read_119 : decode cX1_read 119 = .ok (.iconst 2, 1) := by decide +kernel
theorem dX1_read_120 : decode cX1_read 120 = .ok (.if_icmp .lt 24, 3) := by decide +kernel
theorem dX1_read_123 : decode cX1_read 123 = .ok (.aload_n 0, 1) := by decide +kernel
theorem dX1_read_124 : decode cX1_read 124 = .ok (.getfield 32, 3) := by decide +kernel
theorem dX1_read_127 : decode cX1_read 127 = .ok (.sipush 200, 3) := by decide +kernel
theorem dX1_read_130 : decode cX1_read 130 = .ok (.if_icmp .gt 14, 3) := by decide +kernel
theorem dX1_read_133 : decode cX1_read 133 = .ok (.aload_n 0, 1) := by decide +kernel
theorem dX1_read_134 : decode cX1_read 134 = .ok (.invokevirtual 35, 3) := by decide +kernel
theorem dX1_read_137 : decode cX1_read 137 = .ok (.ifCond .eq 7, 3) := by decide +kernel
theorem dX1_read_140 : decode cX1_read 140 = .ok (.iconst 1, 1) := by decide +kernel
theorem dX1_read_141 : decode cX1_read 141 = .ok (.goto 4, 3) := by decide +kernel
theorem dX1_read_144 : decode cX1_read 144 = .ok (.iconst 0, 1) := by decide +kernel
theorem dX1_read_145 : decode cX1_read 145 = .ok (.ireturn, 1) := by decide +kernel
set_option maxRecDepth 20000 in
theorem ggX1_number_X5_at : GoodIn wsX1_number wsX5_at := goodIn_r _ [6, 7, 8, 14, 15] (by decide +kernel) (by decide +kernel)
set_option maxRecDepth 20000 in
theorem gX1_number_X5_at : GoodIn wsX1_number (wsV RX1 7 RX5 yX5_at wsX5_at) := goodIn_app (goodIn_of _ (by decide +kernel)) ggX1_number_X5_at
theorem dX1_number_0 : decode cX1_number 0 = .ok (.iconst 0, 1) := by decide +kernel
theorem dX1_number_1 : decode cX1_number 1 = .ok (.istore_n 3, 1) := by decide +kernel
theorem dX1_number_2 : decode cX1_number 2 = .ok (.iconst 0, 1) := by decide +kernel
theorem dX1_number_3 : decode cX1_number 3 = .ok (.istore 4, 2) := by decide +kernel
theorem dX1_number_5 : decode cX1_number 5 = .ok (.iload 4, 2) := by decide +kernel
theorem dX1_number_7 : decode cX1_number 7 = .ok (.iconst 5, 1) := by decide +kernel
theorem dX1_number_8 : decode cX1_number 8 = .ok (.if_icmp .ge 62, 3) := by decide +kernel
theorem dX1_number_11 : decode cX1_number 11 = .ok (.aload_n 1, 1) := by decide +kernel
theorem dX1_number_12 : decode cX1_number 12 = .ok (.aload_n 0, 1) := by decide +kernel
theorem dX1_number_13 : decode cX1_number 13 = .ok (.getfield 19, 3) := by decide +kernel
theorem dX1_number_16 : decode cX1_number 16 = .ok (.invokevirtual 7, 3) := by decide +kernel
theorem dX1_number_19 : decode cX1_number 19 = .ok (.bipush 48, 2) := by decide +kernel
theorem dX1_number_21 : decode cX1_number 21 = .ok (.if_icmp .lt 49, 3) := by decide +kernel
theorem dX1_number_24 : decode cX1_number 24 = .ok (.aload_n 1, 1) := by decide +kernel
theorem dX1_number_25 : decode cX1_number 25 = .ok (.aload_n 0, 1) := by decide +kernel
theorem dX1_number_26 : decode cX1_number 26 = .ok (.getfield 19, 3) := by decide +kernel
theorem dX1_number_29 : decode cX1_number 29 = .ok (.invokevirtual 7, 3) := by decide +kernel
theorem dX1_number_32 : decode cX1_number 32 = .ok (.bipush 57, 2) := by decide +kernel
theorem dX1_number_34 : decode cX1_number 34 = .ok (.if_icmp .gt 36, 3) := by decide +kernel
theorem dX1_number_37 : decode cX1_number 37 = .ok (.bipush 10, 2) := by decide +kernel
theorem dX1_number_39 : decode cX1_number 39 = .ok (.iload_n 3, 1) := by decide +kernel
theorem dX1_number_40 : decode cX1_number 40 = .ok (.imul, 1) := by decide +kernel
theorem dX1_number_41 : decode cX1_number 41 = .ok (.aload_n 1, 1) := by decide +kernel
theorem dX1_number_42 : decode cX1_number 42 = .ok (.aload_n 0, 1) := by decide +kernel
theorem dX1_number_43 : decode cX1_number 43 = .ok (.getfield 19, 3) := by decide +kernel
theorem dX1_number_46 : decode cX1_number 46 = .ok (.invokevirtual 7, 3) := by decide +kernel
theorem dX1_number_49 : decode cX1_number 49 = .ok (.iadd, 1) := by decide +kernel
theorem dX1_number_50 : decode cX1_number 50 = .ok (.bipush 48, 2) := by decide +kernel
theorem dX1_number_52 : decode cX1_number 52 = .ok (.isub, 1) := by decide +kernel
theorem dX1_number_53 : decode cX1_number 53 = .ok (.istore_n 3, 1) := by decide +kernel
theorem dX1_number_54 : decode cX1_number 54 = .ok (.aload_n 0, 1) := by decide +kernel
theorem dX1_number_55 : decode cX1_number 55 = .ok (.dup, 1) := by decide +kernel
theorem dX1_number_56 : decode cX1_number 56 = .ok (.getfield 19, 3) := by decide +kernel
theorem dX1_number_59 : decode cX1_number 59 = .ok (.iconst 1, 1) := by decide +kernel
theorem dX1_number_60 : decode cX1_number 60 = .ok (.iadd, 1) := by decide +kernel
theorem dX1_number_61 : decode cX1_number 61 = .ok (.putfield 19, 3) := by decide +kernel
theorem dX1_number_64 : decode cX1_number 64 = .ok (.iinc 4 1, 3) := by decide +kernel
theorem dX1_number_67 : decode cX1_number 67 = .ok (.goto (-62), 3) := by decide +kernel
theorem dX1_number_70 : decode cX1_number 70 = .ok (.iload 4, 2) := by decide +kernel
theorem dX1_number_72 : decode cX1_number 72 = .ok (.iconst 1, 1) := by decide +kernel
theorem dX1_number_73 : decode cX1_number 73 = .ok (.if_icmp .lt 25, 3) := by decide +kernel
theorem dX1_number_76 : decode cX1_number 76 = .ok (.iload 4, 2) := by decide +kernel
theorem dX1_number_78 : decode cX1_number 78 = .ok (.iconst 4, 1) := by decide +kernel
theorem dX1_number_79 : decode cX1_number 79 = .ok (.if_icmp .gt 19, 3) := by decide +kernel
theorem dX1_number_82 : decode cX1_number 82 = .ok (.aload_n 1, 1) := by decide +kernel
theorem dX1_number_83 : decode cX1_number 83 = .ok (.aload_n 0, 1) := by decide +kernel
theorem dX1_number_84 : decode cX1_number 84 = .ok (.getfield 19, 3) := by decide +kernel
theorem dX1_number_87 : decode cX1_number 87 = .ok (.invokevirtual 7, 3) := by decide +kernel
theorem dX1_number_90 : decode cX1_number 90 = .ok (.iload_n 2, 1) := by decide +kernel
theorem dX1_number_91 : decode cX1_number 91 = .ok (.if_icmp .ne 7, 3) := by decide +kernel
theorem dX1_number_94 : decode cX1_number 94 = .ok (.iconst 1, 1) := by decide +kernel
theorem dX1_number_95 : decode cX1_number 95 = .ok (.goto 4, 3) := by decide +kernel
theorem dX1_number_98 : decode cX1_number 98 = .ok (.iconst 0, 1) := by decide +kernel
theorem dX1_number_99 : decode cX1_number 99 = .ok (.istore 5, 2) := by decide +kernel
theorem dX1_number_101 : decode cX1_number 101 = .ok (.aload_n 0, 1) := by decide +kernel
theorem dX1_number_102 : decode cX1_number 102 = .ok (.dup, 1) := by decide +kernel
theorem dX1_number_103 : decode cX1_number 103 = .ok (.getfield 19, 3) := by decide +kernel
theorem dX1_number_106 : decode cX1_number 106 = .ok (.iconst 1, 1) := by decide +kernel
theorem dX1_number_107 : decode cX1_number 107 = .ok (.iadd, 1) := by decide +kernel
theorem dX1_number_108 : decode cX1_number 108 = .ok (.putfield 19, 3) := by decide +kernel
theorem dX1_number_111 : decode cX1_number 111 = .ok (.iload 5, 2) := by decide +kernel
theorem dX1_number_113 : decode cX1_number 113 = .ok (.ifCond .eq 7, 3) := by decide +kernel
theorem dX1_number_116 : decode cX1_number 116 = .ok (.iload_n 3, 1) := by decide +kernel
theorem dX1_number_117 : decode cX1_number 117 = .ok (.goto 4, 3) := by decide +kernel
theorem dX1_number_120 : decode cX1_number 120 = .ok (.iconst (-1), 1) := by decide +kernel
theorem dX1_number_121 : decode cX1_number 121 = .ok (.ireturn, 1) := by decide +kernel
theorem dX1_isInBounds_0 : decode cX1_isInBounds 0 = .ok (.aload_n 0, 1) := by decide +kernel
theorem dX1_isInBounds_1 : decode cX1_isInBounds 1 = .ok (.getfield 13, 3) := by decide +kernel
theorem dX1_isInBounds_4 : decode cX1_isInBounds 4 = .ok (.tableswitch 115 108 112 #[36, 115, 98, 115, 64], 36) := by decide +kernel
theorem dX1_isInBounds_40 : decode cX1_isInBounds 40 = .ok (.aload_n 0, 1) := by decide +kernel
theorem dX1_isInBounds_41 : decode cX1_isInBounds 41 = .ok (.getfield 22, 3) := by decide +kernel
theorem dX1_isInBounds_44 : decode cX1_isInBounds 44 = .ok (.aload_n 0, 1) := by decide +kernel
theorem dX1_isInBounds_45 : decode cX1_isInBounds 45 = .ok (.getfield 32, 3) := by decide +kernel
theorem dX1_isInBounds_48 : decode cX1_isInBounds 48 = .ok (.if_icmp .ge 18, 3) := by decide +kernel
theorem dX1_isInBounds_51 : decode cX1_isInBounds 51 = .ok (.aload_n 0, 1) := by decide +kernel
theorem dX1_isInBounds_52 : decode cX1_isInBounds 52 = .ok (.getfield 29, 3) := by decide +kernel
theorem dX1_isInBounds_55 : decode cX1_isInBounds 55 = .ok (.aload_n 0, 1) := by decide +kernel
theorem dX1_isInBounds_56 : decode cX1_isInBounds 56 = .ok (.getfield 32, 3) := by decide +kernel
theorem dX1_isInBounds_59 : decode cX1_isInBounds 59 = .ok (.if_icmp .ge 7, 3) := by decide +kernel
theorem dX1_isInBounds_62 : decode cX1_isInBounds 62 = .ok (.iconst 1, 1) := by decide +kernel
theorem dX1_isInBounds_63 : decode cX1_isInBounds 63 = .ok (.goto 4, 3) := by decide +kernel
theorem dX1_isInBounds_66 : decode cX1_isInBounds 66 = .ok (.iconst 0, 1) := by decide +kernel
theorem dX1_isInBounds_67 : decode cX1_isInBounds 67 = .ok (.ireturn, 1) := by decide +kernel
theorem dX1_isInBounds_68 : decode cX1_isInBounds 68 = .ok (.aload_n 0, 1) := by decide +kernel
theorem dX1_isInBounds_69 : decode cX1_isInBounds 69 = .ok (.getfield 22, 3) := by decide +kernel
theorem dX1_isInBounds_72 : decode cX1_isInBounds 72 = .ok (.iconst 1, 1) := by decide +kernel
theorem dX1_isInBounds_73 : decode cX1_isInBounds 73 = .ok (.if_icmp .lt 27, 3) := by decide +kernel
theorem dX1_isInBounds_76 : decode cX1_isInBounds 76 = .ok (.aload_n 0, 1) := by decide +kernel
theorem dX1_isInBounds_77 : decode cX1_isInBounds 77 = .ok (.getfield 22, 3) := by decide +kernel
theorem dX1_isInBounds_80 : decode cX1_isInBounds 80 = .ok (.bipush 9, 2) := by decide +kernel
theorem dX1_isInBounds_82 : decode cX1_isInBounds 82 = .ok (.if_icmp .gt 18, 3) := by decide +kernel
theorem dX1_isInBounds_85 : decode cX1_isInBounds 85 = .ok (.aload_n 0, 1) := by decide +kernel
theorem dX1_isInBounds_86 : decode cX1_isInBounds 86 = .ok (.getfield 29, 3) := by decide +kernel
theorem dX1_isInBounds_89 : decode cX1_isInBounds 89 = .ok (.aload_n 0, 1) := by decide +kernel
theorem dX1_isInBounds_90 : decode cX1_isInBounds 90 = .ok (.getfield 32, 3) := by decide +kernel
theorem dX1_isInBounds_93 : decode cX1_isInBounds 93 = .ok (.if_icmp .ge 7, 3) := by decide +kernel
theorem dX1_isInBounds_96 : decode cX1_isInBounds 96 = .ok (.iconst 1, 1) := by decide +kernel
theorem dX1_isInBounds_97 : decode cX1_isInBounds 97 = .ok (.goto 4, 3) := by decide +kernel
theorem dX1_isInBounds_100 : decode cX1_isInBounds 100 = .ok (.iconst 0, 1) := by decide +kernel
theorem dX1_isInBounds_101 : decode cX1_isInBounds 101 = .ok (.ireturn, 1) := by decide +kernel
theorem dX1_isInBounds_102 : decode cX1_isInBounds 102 = .ok (.aload_n 0, 1) := by decide +kernel
theorem dX1_isInBounds_103 : decode cX1_isInBounds 103 = .ok (.getfield 29, 3) := by decide +kernel
theorem dX1_isInBounds_106 : decode cX1_isInBounds 106 = .ok (.aload_n 0, 1) := by decide +kernel
theorem dX1_isInBounds_107 : decode cX1_isInBounds 107 = .ok (.getfield 32, 3) := by decide +kernel
theorem dX1_isInBounds_110 : decode cX1_isInBounds 110 = .ok (.if_icmp .ge 7, 3) := by decide +kernel
theorem dX1_isInBounds_113 : decode cX1_isInBounds 113 = .ok (.iconst 1, 1) := by decide +kernel
theorem dX1_isInBounds_114 : decode cX1_isInBounds 114 = .ok (.goto 4, 3) := by decide +kernel
theorem dX1_isInBounds_117 : decode cX1_isInBounds 117 = .ok (.iconst 0, 1) := by decide +kernel
theorem dX1_isInBounds_118 : decode cX1_isInBounds 118 = .ok (.ireturn, 1) := by decide +kernel
theorem dX1_isInBounds_119 : decode cX1_isInBounds 119 = .ok (.aload_n 0, 1) := by decide +kernel
theorem dX1_isInBounds_120 : decode cX1_isInBounds 120 = .ok (.getfield 22, 3) := by decide +kernel
theorem dX1_isInBounds_123 : decode cX1_isInBounds 123 = .ok (.aload_n 0, 1) := by decide +kernel
theorem dX1_isInBounds_124 : decode cX1_isInBounds 124 = .ok (.getfield 29, 3) := by decide +kernel
theorem dX1_isInBounds_127 : decode cX1_isInBounds 127 = .ok (.if_icmp .gt 18, 3) := by decide +kernel
theorem dX1_isInBounds_130 : decode cX1_isInBounds 130 = .ok (.aload_n 0, 1) := by decide +kernel
theorem dX1_isInBounds_131 : decode cX1_isInBounds 131 = .ok (.getfield 29, 3) := by decide +kernel
theorem dX1_isInBounds_134 : decode cX1_isInBounds 134 = .ok (.aload_n 0, 1) := by decide +kernel
theorem dX1_isInBounds_135 : decode cX1_isInBounds 135 = .ok (.getfield 32, 3) := by decide +kernel
theorem dX1_isInBounds_138 : decode cX1_isInBounds 138 = .ok (.if_icmp .ge 7, 3) := by decide +kernel
theorem dX1_isInBounds_141 : decode cX1_isInBounds 141 = .ok (.iconst 1, 1) := by decide +kernel
theorem dX1_isInBounds_142 : decode cX1_isInBounds 142 = .ok (.goto 4, 3) := by decide +kernel
theorem dX1_isInBounds_145 : decode cX1_isInBounds 145 = .ok (.iconst 0, 1) := by decide +kernel
theorem dX1_isInBounds_146 : decode cX1_isInBounds 146 = .ok (.ireturn, 1) := by decide +kernel
set_option maxRecDepth 20000 in
theorem ggX1_allows_X4_raise : GoodIn wsX1_allows wsX4_raise := goodIn_r _ [8] (by decide +kernel) (by decide +kernel)
set_option maxRecDepth 20000 in
theorem gX1_allows_X4_raise : GoodIn wsX1_allows (va_wsS RX1 39 yX4_raise wsX4_raise) := goodIn_app (goodIn_of _ (by decide +kernel)) ggX1_allows_X4_raise
theorem dX1_allows_0 : decode cX1_allows 0 = .ok (.aload_n 0, 1) := by decide +kernel
theorem dX1_allows_1 : decode cX1_allows 1 = .ok (.getfield 13, 3) := by decide +kernel
theorem dX1_allows_4 : decode cX1_allows 4 = .ok (.tableswitch 108 108 112 #[36, 108, 94, 108, 67], 36) := by decide +kernel
theorem dX1_allows_40 : decode cX1_allows 40 = .ok (.aload_n 0, 1) := by decide +kernel
theorem dX1_allows_41 : decode cX1_allows 41 = .ok (.getfield 32, 3) := by decide +kernel
theorem dX1_allows_44 : decode cX1_allows 44 = .ok (.ifCond .le 25, 3) := by decide +kernel
theorem dX1_allows_47 : decode cX1_allows 47 = .ok (.aload_n 0, 1) := by decide +kernel
theorem dX1_allows_48 : decode cX1_allows 48 = .ok (.getfield 22, 3) := by decide +kernel
theorem dX1_allows_51 : decode cX1_allows 51 = .ok (.iload_n 1, 1) := by decide +kernel
theorem dX1_allows_52 : decode cX1_allows 52 = .ok (.imul, 1) := by decide +kernel
theorem dX1_allows_53 : decode cX1_allows 53 = .ok (.aload_n 0, 1) := by decide +kernel
theorem dX1_allows_54 : decode cX1_allows 54 = .ok (.getfield 32, 3) := by decide +kernel
theorem dX1_allows_57 : decode cX1_allows 57 = .ok (.irem, 1) := by decide +kernel
theorem dX1_allows_58 : decode cX1_allows 58 = .ok (.aload_n 0, 1) := by decide +kernel
theorem dX1_allows_59 : decode cX1_allows 59 = .ok (.getfield 29, 3) := by decide +kernel
theorem dX1_allows_62 : decode cX1_allows 62 = .ok (.if_icmp .ne 7, 3) := by decide +kernel
theorem dX1_allows_65 : decode cX1_allows 65 = .ok (.iconst 1, 1) := by decide +kernel
theorem dX1_allows_66 : decode cX1_allows 66 = .ok (.goto 4, 3) := by decide +kernel
theorem dX1_allows_69 : decode cX1_allows 69 = .ok (.iconst 0, 1) := by decide +kernel
theorem dX1_allows_70 : decode cX1_allows 70 = .ok (.ireturn, 1) := by decide +kernel
theorem dX1_allows_71 : decode cX1_allows 71 = .ok (.iload_n 1, 1) := by decide +kernel
theorem dX1_allows_72 : decode cX1_allows 72 = .ok (.i2l, 1) := by decide +kernel
theorem dX1_allows_73 : decode cX1_allows 73 = .ok (.aload_n 0, 1) := by decide +kernel
theorem dX1_allows_74 : decode cX1_allows 74 = .ok (.getfield 22, 3) := by decide +kernel
theorem dX1_allows_77 : decode cX1_allows 77 = .ok (.i2l, 1) := by decide +kernel
theorem dX1_allows_78 : decode cX1_allows 78 = .ok (.aload_n 0, 1) := by decide +kernel
theorem dX1_allows_79 : decode cX1_allows 79 = .ok (.getfield 32, 3) := by decide +kernel
theorem dX1_allows_82 : decode cX1_allows 82 = .ok (.invokestatic 39, 3) := by decide +kernel
theorem dX1_allows_85 : decode cX1_allows 85 = .ok (.aload_n 0, 1) := by decide +kernel
theorem dX1_allows_86 : decode cX1_allows 86 = .ok (.getfield 29, 3) := by decide +kernel
theorem dX1_allows_89 : decode cX1_allows 89 = .ok (.if_icmp .ne 7, 3) := by decide +kernel
theorem dX1_allows_92 : decode cX1_allows 92 = .ok (.iconst 1, 1) := by decide +kernel
theorem dX1_allows_93 : decode cX1_allows 93 = .ok (.goto 4, 3) := by decide +kernel
theorem dX1_allows_96 : decode cX1_allows 96 = .ok (.iconst 0, 1) := by decide +kernel
theorem dX1_allows_97 : decode cX1_allows 97 = .ok (.ireturn, 1) := by decide +kernel
theorem dX1_allows_98 : decode cX1_allows 98 = .ok (.iload_n 1, 1) := by decide +kernel
theorem dX1_allows_99 : decode cX1_allows 99 = .ok (.aload_n 0, 1) := by decide +kernel
theorem dX1_allows_100 : decode cX1_allows 100 = .ok (.getfield 29, 3) := by decide +kernel
theorem dX1_allows_103 : decode cX1_allows 103 = .ok (.if_icmp .eq 7, 3) := by decide +kernel
theorem dX1_allows_106 : decode cX1_allows 106 = .ok (.iconst 1, 1) := by decide +kernel
theorem dX1_allows_107 : decode cX1_allows 107 = .ok (.goto 4, 3) := by decide +kernel
theorem dX1_allows_110 : decode cX1_allows 110 = .ok (.iconst 0, 1) := by decide +kernel
theorem dX1_allows_111 : decode cX1_allows 111 = .ok (.ireturn, 1) := by decide +kernel
theorem dX1_allows_112 : decode cX1_allows 112 = .ok (.aload_n 0, 1) := by decide +kernel
theorem dX1_allows_113 : decode cX1_allows 113 = .ok (.getfield 22, 3) := by decide +kernel
theorem dX1_allows_116 : decode cX1_allows 116 = .ok (.iload_n 1, 1) := by decide +kernel
theorem dX1_allows_117 : decode cX1_allows 117 = .ok (.if_icmp .gt 15, 3) := by decide +kernel
theorem dX1_allows_120 : decode cX1_allows 120 = .ok (.iload_n 1, 1) := by decide +kernel
theorem dX1_allows_121 : decode cX1_allows 121 = .ok (.aload_n 0, 1) := by decide +kernel
theorem dX1_allows_122 : decode cX1_allows 122 = .ok (.getfield 29, 3) := by decide +kernel
theorem dX1_allows_125 : decode cX1_allows 125 = .ok (.if_icmp .gt 7, 3) := by decide +kernel
theorem dX1_allows_128 : decode cX1_allows 128 = .ok (.iconst 1, 1) := by decide +kernel
theorem dX1_allows_129 : decode cX1_allows 129 = .ok (.goto 4, 3) := by decide +kernel
theorem dX1_allows_132 : decode cX1_allows 132 = .ok (.iconst 0, 1) := by decide +kernel
theorem dX1_allows_133 : decode cX1_allows 133 = .ok (.ireturn, 1) := by decide +kernel
theorem dX2_init_0 : decode cX2_init 0 = .ok (.aload_n 0, 1) := by decide +kernel
theorem dX2_init_1 : decode cX2_init 1 = .ok (.invokespecial 3, 3) := by decide +kernel
theorem dX2_init_4 : decode cX2_init 4 = .ok (.aload_n 0, 1) := by decide +kernel
theorem dX2_init_5 : decode cX2_init 5 = .ok (.bipush 8, 2) := by decide +kernel
theorem dX2_init_7 : decode cX2_init 7 = .ok (.sipush 200, 3) := by decide +kernel
theorem dX2_init_10 : decode cX2_init 10 = .ok (.multianewarray 11 2, 4) := by decide +kernel
theorem dX2_init_14 : decode cX2_init 14 = .ok (.putfield 13, 3) := by decide +kernel
theorem dX2_init_17 : decode cX2_init 17 = .ok (.aload_n 0, 1) := by decide +kernel
theorem dX2_init_18 : decode cX2_init 18 = .ok (.bipush 8, 2) := by decide +kernel
theorem dX2_init_20 : decode cX2_init 20 = .ok (.newarray .int, 2) := by decide +kernel
theorem dX2_init_22 : decode cX2_init 22 = .ok (.putfield 16, 3) := by decide +kernel
theorem dX2_init_25 : decode cX2_init 25 = .ok (.aload_n 0, 1) := by decide +kernel
theorem dX2_init_26 : decode cX2_init 26 = .ok (.sipush 200, 3) := by decide +kernel
theorem dX2_init_29 : decode cX2_init 29 = .ok (.newarray .boolean, 2) := by decide +kernel
theorem dX2_init_31 : decode cX2_init 31 = .ok (.putfield 20, 3) := by decide +kernel
theorem dX2_init_34 : decode cX2_init 34 = .ok (.aload_n 0, 1) := by decide +kernel
theorem dX2_init_35 : decode cX2_init 35 = .ok (.iconst 1, 1) := by decide +kernel
theorem dX2_init_36 : decode cX2_init 36 = .ok (.putfield 24, 3) := by decide +kernel
theorem dX2_init_39 : decode cX2_init 39 = .ok (.aload_n 0, 1) := by decide +kernel
theorem dX2_init_40 : decode cX2_init 40 = .ok (.iconst 1, 1) := by decide +kernel
theorem dX2_init_41 : decode cX2_init 41 = .ok (.putfield 28, 3) := by decide +kernel
theorem dX2_init_44 : decode cX2_init 44 = .ok (.return_, 1) := by decide +kernel
theorem dX2_clear_0 : decode cX2_clear 0 = .ok (.aload_n 0, 1) := by decide +kernel
theorem dX2_clear_1 : decode cX2_clear 1 = .ok (.iconst 0, 1) := by decide +kernel
theorem dX2_clear_2 : decode cX2_clear 2 = .ok (.putfield 31, 3) := by decide +kernel
theorem dX2_clear_5 : decode cX2_clear 5 = .ok (.return_, 1) := by decide +kernel
set_option maxRecDepth 20000 in
theorem ggX2_add_X1_allows : GoodIn wsX2_add wsX1_allows := goodIn_r _ [9, 10, 11, 12, 13, 14, 15, 16, 17, 24, 25, 26, 27, 28] (by decide +kernel) (by decide +kernel)
set_option maxRecDepth 20000 in
theorem gX2_add_X1_allows : GoodIn wsX2_add (wsV RX2 39 RX1 yX1_allows wsX1_allows) := goodIn_app (goodIn_of _ (by decide +kernel)) ggX2_add_X1_allows
theorem dX2_add_0 : decode cX2_add 0 = .ok (.aload_n 0, 1) := by decide +kernel
theorem dX2_add_1 : decode cX2_add 1 = .ok (.getfield 31, 3) := by decide +kernel
theorem dX2_add_4 : decode cX2_add 4 = .ok (.bipush 8, 2) := by decide +kernel
theorem dX2_add_6 : decode cX2_add 6 = .ok (.if_icmp .ge 21, 3) := by decide +kernel
theorem dX2_add_9 : decode cX2_add 9 = .ok (.aload_n 1, 1) := by decide +kernel
theorem dX2_add_10 : decode cX2_add 10 = .ok (.getfield 34, 3) := by decide +kernel
theorem dX2_add_13 : decode cX2_add 13 = .ok (.iconst 2, 1) := by decide +kernel
theorem dX2_add_14 : decode cX2_add 14 = .ok (.if_icmp .lt 13, 3) := by decide +kernel
theorem dX2_add_17 : decode cX2_add 17 = .ok (.aload_n 1, 1) := by decide +kernel
theorem dX2_add_18 : decode cX2_add 18 = .ok (.getfield 34, 3) := by decide +kernel
theorem dX2_add_21 : decode cX2_add 21 = .ok (.sipush 200, 3) := by decide +kernel
theorem dX2_add_24 : decode cX2_add 24 = .ok (.if_icmp .le 4, 3) := by decide +kernel
theorem dX2_add_27 : decode cX2_add 27 = .ok (.return_, 1) := by decide +kernel
theorem dX2_add_28 : decode cX2_add 28 = .ok (.iconst 0, 1) := by decide +kernel
theorem dX2_add_29 : decode cX2_add 29 = .ok (.istore_n 2, 1) := by decide +kernel
theorem dX2_add_30 : decode cX2_add 30 = .ok (.iload_n 2, 1) := by decide +kernel
theorem dX2_add_31 : decode cX2_add 31 = .ok (.aload_n 1, 1) := by decide +kernel
theorem dX2_add_32 : decode cX2_add 32 = .ok (.getfield 34, 3) := by decide +kernel
theorem dX2_add_35 : decode cX2_add 35 = .ok (.if_icmp .ge 20, 3) := by decide +kernel
theorem dX2_add_38 : decode cX2_add 38 = .ok (.aload_n 0, 1) := by decide +kernel
theorem dX2_add_39 : decode cX2_add 39 = .ok (.getfield 20, 3) := by decide +kernel
theorem dX2_add_42 : decode cX2_add 42 = .ok (.iload_n 2, 1) := by decide +kernel
theorem dX2_add_43 : decode cX2_add 43 = .ok (.aload_n 1, 1) := by decide +kernel
theorem dX2_add_44 : decode cX2_add 44 = .ok (.iload_n 2, 1) := by decide +kernel
theorem dX2_add_45 : decode cX2_add 45 = .ok (.invokevirtual 39, 3) := by decide +kernel
theorem dX2_add_48 : decode cX2_add 48 = .ok (.bastore, 1) := by decide +kernel
theorem dX2_add_49 : decode cX2_add 49 = .ok (.iinc 2 1, 3) := by decide +kernel
theorem dX2_add_52 : decode cX2_add 52 = .ok (.goto (-22), 3) := by decide +kernel
theorem dX2_add_55 : decode cX2_add 55 = .ok (.iconst 0, 1) := by decide +kernel
theorem dX2_add_56 : decode cX2_add 56 = .ok (.istore_n 2, 1) := by decide +kernel
theorem dX2_add_57 : decode cX2_add 57 = .ok (.iconst 0, 1) := by decide +kernel
theorem dX2_add_58 : decode cX2_add 58 = .ok (.istore_n 3, 1) := by decide +kernel
theorem dX2_add_59 : decode cX2_add 59 = .ok (.iload_n 3, 1) := by decide +kernel
theorem dX2_add_60 : decode cX2_add 60 = .ok (.aload_n 1, 1) := by decide +kernel
theorem dX2_add_61 : decode cX2_add 61 = .ok (.getfield 34, 3) := by decide +kernel
theorem dX2_add_64 : decode cX2_add 64 = .ok (.if_icmp .ge 77, 3) := by decide +kernel
theorem dX2_add_67 : decode cX2_add 67 = .ok (.lconst 0, 1) := by decide +kernel
theorem dX2_add_68 : decode cX2_add 68 = .ok (.lstore 4, 2) := by decide +kernel
theorem dX2_add_70 : decode cX2_add 70 = .ok (.iconst 0, 1) := by decide +kernel
theorem dX2_add_71 : decode cX2_add 71 = .ok (.istore 6, 2) := by decide +kernel
theorem dX2_add_73 : decode cX2_add 73 = .ok (.iload 6, 2) := by decide +kernel
theorem dX2_add_75 : decode cX2_add 75 = .ok (.bipush 64, 2) := by decide +kernel
theorem dX2_add_77 : decode cX2_add 77 = .ok (.if_icmp .ge 45, 3) := by decide +kernel
theorem dX2_add_80 : decode cX2_add 80 = .ok (.aload_n 0, 1) := by decide +kernel
theorem dX2_add_81 : decode cX2_add 81 = .ok (.getfield 20, 3) := by decide +kernel
theorem dX2_add_84 : decode cX2_add 84 = .ok (.iload_n 2, 1) := by decide +kernel
theorem dX2_add_85 : decode cX2_add 85 = .ok (.baload, 1) := by decide +kernel
theorem dX2_add_86 : decode cX2_add 86 = .ok (.ifCond .eq 12, 3) := by decide +kernel
theorem dX2_add_89 : decode cX2_add 89 = .ok (.lload 4, 2) := by decide +kernel
theorem dX2_add_91 : decode cX2_add 91 = .ok (.lconst 1, 1) := by decide +kernel
theorem dX2_add_92 : decode cX2_add 92 = .ok (.iload 6, 2) := by decide +kernel
theorem dX2_add_94 : decode cX2_add 94 = .ok (.lshl, 1) := by decide +kernel
theorem dX2_add_95 : decode cX2_add 95 = .ok (.lor, 1) := by decide +kernel
theorem dX2_add_96 : decode cX2_add 96 = .ok (.lstore 4, 2) := by decide +kernel
theorem dX2_add_98 : decode cX2_add 98 = .ok (.iload_n 2, 1) := by decide +kernel
theorem dX2_add_99 : decode cX2_add 99 = .ok (.iconst 1, 1) := by decide +kernel
theorem dX2_add_100 : decode cX2_add 100 = .ok (.iadd, 1) := by decide +kernel
theorem dX2_add_101 : decode cX2_add 101 = .ok (.aload_n 1, 1) := by decide +kernel
theorem dX2_add_102 : decode cX2_add 102 = .ok (.getfield 34, 3) := by decide +kernel
theorem dX2_add_105 : decode cX2_add 105 = .ok (.if_icmp .ge 9, 3) := by decide +kernel
theorem dX2_add_108 : decode cX2_add 108 = .ok (.iload_n 2, 1) := by decide +kernel
theorem dX2_add_109 : decode cX2_add 109 = .ok (.iconst 1, 1) := by decide +kernel
theorem dX2_add_110 : decode cX2_add 110 = .ok (.iadd, 1) := by decide +kernel
theorem dX2_add_111 : decode cX2_add 111 = .ok (.goto 4, 3) := by decide +kernel
theorem dX2_add_114 : decode cX2_add 114 = .ok (.iconst 0, 1) := by decide +kernel
theorem dX2_add_115 : decode cX2_add 115 = .ok (.istore_n 2, 1) := by decide +kernel
theorem dX2_add_116 : decode cX2_add 116 = .ok (.iinc 6 1, 3) := by decide +kernel
theorem dX2_add_119 : decode cX2_add 119 = .ok (.goto (-46), 3) := by decide +kernel
theorem dX2_add_122 : decode cX2_add 122 = .ok (.aload_n 0, 1) := by decide +kernel
theorem dX2_add_123 : decode cX2_add 123 = .ok (.getfield 13, 3) := by decide +kernel
theorem dX2_add_126 : decode cX2_add 126 = .ok (.aload_n 0, 1) := by decide +kernel
theorem dX2_add_127 : decode cX2_add 127 = .ok (.getfield 31, 3) := by decide +kernel
theorem dX2_add_130 : decode cX2_add 130 = .ok (.aaload, 1) := by decide +kernel
theorem dX2_add_131 : decode cX2_add 131 = .ok (.iload_n 3, 1) := by decide +kernel
theorem dX2_add_132 : decode cX2_add 132 = .ok (.lload 4, 2) := by decide +kernel
theorem dX2_add_134 : decode cX2_add 134 = .ok (.lastore, 1) := by decide +kernel
theorem dX2_add_135 : decode cX2_add 135 = .ok (.iinc 3 1, 3) := by decide +kernel
theorem dX2_add_138 : decode cX2_add 138 = .ok (.goto (-79), 3) := by decide +kernel
theorem dX2_add_141 : decode cX2_add 141 = .ok (.aload_n 0, 1) := by decide +kernel
theorem dX2_add_142 : decode cX2_add 142 = .ok (.getfield 16, 3) := by decide +kernel
theorem dX2_add_145 : decode cX2_add 145 = .ok (.aload_n 0, 1) := by decide +kernel
theorem dX2_add_146 : decode cX2_add 146 = .ok (.getfield 31, 3) := by decide +kernel
theorem dX2_add_149 : decode cX2_add 149 = .ok (.aload_n 1, 1) := by decide +kernel
theorem dX2_add_150 : decode cX2_add 150 = .ok (.getfield 34, 3) := by decide +kernel
theorem dX2_add_153 : decode cX2_add 153 = .ok (.iastore, 1) := by decide +kernel
theorem dX2_add_154 : decode cX2_add 154 = .ok (.aload_n 0, 1) := by decide +kernel
theorem dX2_add_155 : decode cX2_add 155 = .ok (.dup, 1) := by decide +kernel
theorem dX2_add_156 : decode cX2_add 156 = .ok (.getfield 31, 3) := by decide +kernel
theorem dX2_add_159 : decode cX2_add 159 = .ok (.iconst 1, 1) := by decide +kernel
theorem dX2_add_160 : decode cX2_add 160 = .ok (.iadd, 1) := by decide +kernel
theorem dX2_add_161 : decode cX2_add 161 = .ok (.putfield 31, 3) := by decide +kernel
theorem dX2_add_164 : decode cX2_add 164 = .ok (.return_, 1) := by decide +kernel
set_option maxRecDepth 20000 in
theorem ggX2_close_X2_all : GoodIn wsX2_close wsX2_all := goodIn_r _ [8, 9, 23, 24, 25, 26, 27, 28] (by decide +kernel) (by decide +kernel)
set_option maxRecDepth 20000 in
theorem gX2_close_X2_all : GoodIn wsX2_close (wsV RX2 45 RX2 yX2_all wsX2_all) := goodIn_app (goodIn_of _ (by decide +kernel)) ggX2_close_X2_all
set_option maxRecDepth 20000 in
theorem ggX2_close_X2_wordOf : GoodIn wsX2_close wsX2_wordOf := goodIn_r _ [13, 3, 9, 14, 15, 23, 24, 25, 26, 27, 28] (by decide +kernel) (by decide +kernel)
set_option maxRecDepth 20000 in
theorem gX2_close_X2_wordOf : GoodIn wsX2_close (wsV RX2 49 RX2 yX2_wordOf wsX2_wordOf) := goodIn_app (goodIn_of _ (by decide +kernel)) ggX2_close_X2_wordOf
set_option maxRecDepth 20000 in
theorem ggX2_close_J13_bitCount_95d88 : GoodIn wsX2_close wsJ13_bitCount_95d88 := goodIn_r _ [19, 20, 21, 22] (by decide +kernel) (by decide +kernel)
set_option maxRecDepth 20000 in
theorem gX2_close_J13_bitCount_95d88 : GoodIn wsX2_close (va_wsS RX2 53 yJ13_bitCount_95d88 wsJ13_bitCount_95d88) := goodIn_app (goodIn_of _ (by decide +kernel)) ggX2_close_J13_bitCount_95d88
theorem dX2_close_0 : decode cX2_close 0 = .ok (.aload_n 0, 1) := by decide +kernel
theorem dX2_close_1 : decode cX2_close 1 = .ok (.iload_n 1, 1) := by decide +kernel
theorem dX2_close_2 : decode cX2_close 2 = .ok (.putfield 24, 3) := by decide +kernel
theorem dX2_close_5 : decode cX2_close 5 = .ok (.aload_n 0, 1) := by decide +kernel
theorem dX2_close_6 : decode cX2_close 6 = .ok (.iconst 0, 1) := by decide +kernel
theorem dX2_close_7 : decode cX2_close 7 = .ok (.putfield 28, 3) := by decide +kernel
theorem dX2_close_10 : decode cX2_close 10 = .ok (.iconst 0, 1) := by decide +kernel
theorem dX2_close_11 : decode cX2_close 11 = .ok (.istore_n 2, 1) := by decide +kernel
theorem dX2_close_12 : decode cX2_close 12 = .ok (.bipush 64, 2) := by decide +kernel
theorem dX2_close_14 : decode cX2_close 14 = .ok (.iload_n 2, 1) := by decide +kernel
theorem dX2_close_15 : decode cX2_close 15 = .ok (.imul, 1) := by decide +kernel
theorem dX2_close_16 : decode cX2_close 16 = .ok (.aload_n 0, 1) := by decide +kernel
theorem dX2_close_17 : decode cX2_close 17 = .ok (.getfield 24, 3) := by decide +kernel
theorem dX2_close_20 : decode cX2_close 20 = .ok (.if_icmp .ge 63, 3) := by decide +kernel
theorem dX2_close_23 : decode cX2_close 23 = .ok (.aload_n 0, 1) := by decide +kernel
theorem dX2_close_24 : decode cX2_close 24 = .ok (.getfield 24, 3) := by decide +kernel
theorem dX2_close_27 : decode cX2_close 27 = .ok (.bipush 64, 2) := by decide +kernel
theorem dX2_close_29 : decode cX2_close 29 = .ok (.iload_n 2, 1) := by decide +kernel
theorem dX2_close_30 : decode cX2_close 30 = .ok (.imul, 1) := by decide +kernel
theorem dX2_close_31 : decode cX2_close 31 = .ok (.isub, 1) := by decide +kernel
theorem dX2_close_32 : decode cX2_close 32 = .ok (.istore_n 3, 1) := by decide +kernel
theorem dX2_close_33 : decode cX2_close 33 = .ok (.iload_n 3, 1) := by decide +kernel
theorem dX2_close_34 : decode cX2_close 34 = .ok (.bipush 64, 2) := by decide +kernel
theorem dX2_close_36 : decode cX2_close 36 = .ok (.if_icmp .ge 11, 3) := by decide +kernel
theorem dX2_close_39 : decode cX2_close 39 = .ok (.lconst 1, 1) := by decide +kernel
theorem dX2_close_40 : decode cX2_close 40 = .ok (.iload_n 3, 1) := by decide +kernel
theorem dX2_close_41 : decode cX2_close 41 = .ok (.lshl, 1) := by decide +kernel
theorem dX2_close_42 : decode cX2_close 42 = .ok (.lconst 1, 1) := by decide +kernel
theorem dX2_close_43 : decode cX2_close 43 = .ok (.lsub, 1) := by decide +kernel
theorem dX2_close_44 : decode cX2_close 44 = .ok (.goto 6, 3) := by decide +kernel
theorem dX2_close_47 : decode cX2_close 47 = .ok (.ldc2_w 43, 3) := by decide +kernel
theorem dX2_close_50 : decode cX2_close 50 = .ok (.lstore 4, 2) := by decide +kernel
theorem dX2_close_52 : decode cX2_close 52 = .ok (.aload_n 0, 1) := by decide +kernel
theorem dX2_close_53 : decode cX2_close 53 = .ok (.dup, 1) := by decide +kernel
theorem dX2_close_54 : decode cX2_close 54 = .ok (.getfield 28, 3) := by decide +kernel
theorem dX2_close_57 : decode cX2_close 57 = .ok (.aload_n 0, 1) := by decide +kernel
theorem dX2_close_58 : decode cX2_close 58 = .ok (.iload_n 2, 1) := by decide +kernel
theorem dX2_close_59 : decode cX2_close 59 = .ok (.i2l, 1) := by decide +kernel
theorem dX2_close_60 : decode cX2_close 60 = .ok (.aload_n 0, 1) := by decide +kernel
theorem dX2_close_61 : decode cX2_close 61 = .ok (.invokevirtual 45, 3) := by decide +kernel
theorem dX2_close_64 : decode cX2_close 64 = .ok (.invokevirtual 49, 3) := by decide +kernel
theorem dX2_close_67 : decode cX2_close 67 = .ok (.lload 4, 2) := by decide +kernel
theorem dX2_close_69 : decode cX2_close 69 = .ok (.land, 1) := by decide +kernel
theorem dX2_close_70 : decode cX2_close 70 = .ok (.invokestatic 53, 3) := by decide +kernel
theorem dX2_close_73 : decode cX2_close 73 = .ok (.iadd, 1) := by decide +kernel
theorem dX2_close_74 : decode cX2_close 74 = .ok (.putfield 28, 3) := by decide +kernel
theorem dX2_close_77 : decode cX2_close 77 = .ok (.iinc 2 1, 3) := by decide +kernel
theorem dX2_close_80 : decode cX2_close 80 = .ok (.goto (-68), 3) := by decide +kernel
theorem dX2_close_83 : decode cX2_close 83 = .ok (.return_, 1) := by decide +kernel
theorem dX2_all_0 : decode cX2_all 0 = .ok (.iconst 1, 1) := by decide +kernel
theorem dX2_all_1 : decode cX2_all 1 = .ok (.aload_n 0, 1) := by decide +kernel
theorem dX2_all_2 : decode cX2_all 2 = .ok (.getfield 31, 3) := by decide +kernel
theorem dX2_all_5 : decode cX2_all 5 = .ok (.ishl, 1) := by decide +kernel
theorem dX2_all_6 : decode cX2_all 6 = .ok (.iconst 1, 1) := by decide +kernel
theorem dX2_all_7 : decode cX2_all 7 = .ok (.isub, 1) := by decide +kernel
theorem dX2_all_8 : decode cX2_all 8 = .ok (.ireturn, 1) := by decide +kernel
theorem dX2_wordOf_0 : decode cX2_wordOf 0 = .ok (.ldc2_w 43, 3) := by decide +kernel
theorem dX2_wordOf_3 : decode cX2_wordOf 3 = .ok (.lstore 4, 2) := by decide +kernel
theorem dX2_wordOf_5 : decode cX2_wordOf 5 = .ok (.iconst 0, 1) := by decide +kernel
theorem dX2_wordOf_6 : decode cX2_wordOf 6 = .ok (.istore 6, 2) := by decide +kernel
theorem dX2_wordOf_8 : decode cX2_wordOf 8 = .ok (.iload 6, 2) := by decide +kernel
theorem dX2_wordOf_10 : decode cX2_wordOf 10 = .ok (.aload_n 0, 1) := by decide +kernel
theorem dX2_wordOf_11 : decode cX2_wordOf 11 = .ok (.getfield 31, 3) := by decide +kernel
theorem dX2_wordOf_14 : decode cX2_wordOf 14 = .ok (.if_icmp .ge 50, 3) := by decide +kernel
theorem dX2_wordOf_17 : decode cX2_wordOf 17 = .ok (.lload 4, 2) := by decide +kernel
theorem dX2_wordOf_19 : decode cX2_wordOf 19 = .ok (.lconst 0, 1) := by decide +kernel
theorem dX2_wordOf_20 : decode cX2_wordOf 20 = .ok (.lcmp, 1) := by decide +kernel
theorem dX2_wordOf_21 : decode cX2_wordOf 21 = .ok (.ifCond .eq 43, 3) := by decide +kernel
theorem dX2_wordOf_24 : decode cX2_wordOf 24 = .ok (.iload_n 3, 1) := by decide +kernel
theorem dX2_wordOf_25 : decode cX2_wordOf 25 = .ok (.iload 6, 2) := by decide +kernel
theorem dX2_wordOf_27 : decode cX2_wordOf 27 = .ok (.ishr, 1) := by decide +kernel
theorem dX2_wordOf_28 : decode cX2_wordOf 28 = .ok (.iconst 1, 1) := by decide +kernel
theorem dX2_wordOf_29 : decode cX2_wordOf 29 = .ok (.iand, 1) := by decide +kernel
theorem dX2_wordOf_30 : decode cX2_wordOf 30 = .ok (.iconst 1, 1) := by decide +kernel
theorem dX2_wordOf_31 : decode cX2_wordOf 31 = .ok (.if_icmp .ne 27, 3) := by decide +kernel
theorem dX2_wordOf_34 : decode cX2_wordOf 34 = .ok (.lload 4, 2) := by decide +kernel
theorem dX2_wordOf_36 : decode cX2_wordOf 36 = .ok (.aload_n 0, 1) := by decide +kernel
theorem dX2_wordOf_37 : decode cX2_wordOf 37 = .ok (.getfield 13, 3) := by decide +kernel
theorem dX2_wordOf_40 : decode cX2_wordOf 40 = .ok (.iload 6, 2) := by decide +kernel
theorem dX2_wordOf_42 : decode cX2_wordOf 42 = .ok (.aaload, 1) := by decide +kernel
theorem dX2_wordOf_43 : decode cX2_wordOf 43 = .ok (.lload_n 1, 1) := by decide +kernel
theorem dX2_wordOf_44 : decode cX2_wordOf 44 = .ok (.aload_n 0, 1) := by decide +kernel
theorem dX2_wordOf_45 : decode cX2_wordOf 45 = .ok (.getfield 16, 3) := by decide +kernel
theorem dX2_wordOf_48 : decode cX2_wordOf 48 = .ok (.iload 6, 2) := by decide +kernel
theorem dX2_wordOf_50 : decode cX2_wordOf 50 = .ok (.iaload, 1) := by decide +kernel
theorem dX2_wordOf_51 : decode cX2_wordOf 51 = .ok (.i2l, 1) := by decide +kernel
theorem dX2_wordOf_52 : decode cX2_wordOf 52 = .ok (.lrem, 1) := by decide +kernel
theorem dX2_wordOf_53 : decode cX2_wordOf 53 = .ok (.l2i, 1) := by decide +kernel
theorem dX2_wordOf_54 : decode cX2_wordOf 54 = .ok (.laload, 1) := by decide +kernel
theorem dX2_wordOf_55 : decode cX2_wordOf 55 = .ok (.land, 1) := by decide +kernel
theorem dX2_wordOf_56 : decode cX2_wordOf 56 = .ok (.lstore 4, 2) := by decide +kernel
theorem dX2_wordOf_58 : decode cX2_wordOf 58 = .ok (.iinc 6 1, 3) := by decide +kernel
theorem dX2_wordOf_61 : decode cX2_wordOf 61 = .ok (.goto (-53), 3) := by decide +kernel
theorem dX2_wordOf_64 : decode cX2_wordOf 64 = .ok (.lload 4, 2) := by decide +kernel
theorem dX2_wordOf_66 : decode cX2_wordOf 66 = .ok (.lreturn, 1) := by decide +kernel
set_option maxRecDepth 20000 in
theorem ggX2_lowestBit_J13_bitCount_95d88 : GoodIn wsX2_lowestBit wsJ13_bitCount_95d88 := goodIn_r _ [4, 5, 6, 7] (by decide +kernel) (by decide +kernel)
set_option maxRecDepth 20000 in
theorem gX2_lowestBit_J13_bitCount_95d88 : GoodIn wsX2_lowestBit (va_wsS RX2 53 yJ13_bitCount_95d88 wsJ13_bitCount_95d88) := goodIn_app (goodIn_of _ (by decide +kernel)) ggX2_lowestBit_J13_bitCount_95d88
theorem dX2_lowestBit_0 : decode cX2_lowestBit 0 = .ok (.lload_n 0, 1) := by decide +kernel
theorem dX2_lowestBit_1 : decode cX2_lowestBit 1 = .ok (.lload_n 0, 1) := by decide +kernel
theorem dX2_lowestBit_2 : decode cX2_lowestBit 2 = .ok (.lneg, 1) := by decide +kernel
theorem dX2_lowestBit_3 : decode cX2_lowestBit 3 = .ok (.land, 1) := by decide +kernel
theorem dX2_lowestBit_4 : decode cX2_lowestBit 4 = .ok (.lconst 1, 1) := by decide +kernel
theorem dX2_lowestBit_5 : decode cX2_lowestBit 5 = .ok (.lsub, 1) := by decide +kernel
theorem dX2_lowestBit_6 : decode cX2_lowestBit 6 = .ok (.invokestatic 53, 3) := by decide +kernel
theorem dX2_lowestBit_9 : decode cX2_lowestBit 9 = .ok (.ireturn, 1) := by decide +kernel
set_option maxRecDepth 20000 in
theorem ggX2_leftAt_X2_all : GoodIn wsX2_leftAt wsX2_all := goodIn_r _ [9, 10, 31, 32, 33, 34, 35, 36] (by decide +kernel) (by decide +kernel)
set_option maxRecDepth 20000 in
theorem gX2_leftAt_X2_all : GoodIn wsX2_leftAt (wsV RX2 45 RX2 yX2_all wsX2_all) := goodIn_app (goodIn_of _ (by decide +kernel)) ggX2_leftAt_X2_all
set_option maxRecDepth 20000 in
theorem ggX2_leftAt_X2_wordOf : GoodIn wsX2_leftAt wsX2_wordOf := goodIn_r _ [14, 15, 10, 16, 17, 31, 32, 33, 34, 35, 36] (by decide +kernel) (by decide +kernel)
set_option maxRecDepth 20000 in
theorem gX2_leftAt_X2_wordOf : GoodIn wsX2_leftAt (wsV RX2 49 RX2 yX2_wordOf wsX2_wordOf) := goodIn_app (goodIn_of _ (by decide +kernel)) ggX2_leftAt_X2_wordOf
set_option maxRecDepth 20000 in
theorem ggX2_leftAt_J13_bitCount_95d88 : GoodIn wsX2_leftAt wsJ13_bitCount_95d88 := goodIn_r _ [21, 22, 23, 24] (by decide +kernel) (by decide +kernel)
set_option maxRecDepth 20000 in
theorem gX2_leftAt_J13_bitCount_95d88 : GoodIn wsX2_leftAt (va_wsS RX2 53 yJ13_bitCount_95d88 wsJ13_bitCount_95d88) := goodIn_app (goodIn_of _ (by decide +kernel)) ggX2_leftAt_J13_bitCount_95d88
set_option maxRecDepth 20000 in
theorem ggX2_leftAt_X2_bitAt : GoodIn wsX2_leftAt wsX2_bitAt := goodIn_r _ [27, 28, 29, 8, 30, 18, 19, 20, 21, 22, 23, 24] (by decide +kernel) (by decide +kernel)
set_option maxRecDepth 20000 in
theorem gX2_leftAt_X2_bitAt : GoodIn wsX2_leftAt (va_wsS RX2 63 yX2_bitAt wsX2_bitAt) := goodIn_app (goodIn_of _ (by decide +kernel)) ggX2_leftAt_X2_bitAt
theorem dX2_leftAt_0 : decode cX2_leftAt 0 = .ok (.aload_n 0, 1) := by decide +kernel
theorem dX2_leftAt_1 : decode cX2_leftAt 1 = .ok (.getfield 28, 3) := by decide +kernel
theorem dX2_leftAt_4 : decode cX2_leftAt 4 = .ok (.iconst 1, 1) := by decide +kernel
theorem dX2_leftAt_5 : decode cX2_leftAt 5 = .ok (.if_icmp .ge 7, 3) := by decide +kernel
theorem dX2_leftAt_8 : decode cX2_leftAt 8 = .ok (.ldc2_w 59, 3) := by decide +kernel
theorem dX2_leftAt_11 : decode cX2_leftAt 11 = .ok (.lreturn, 1) := by decide +kernel
theorem dX2_leftAt_12 : decode cX2_leftAt 12 = .ok (.lload_n 1, 1) := by decide +kernel
theorem dX2_leftAt_13 : decode cX2_leftAt 13 = .ok (.aload_n 0, 1) := by decide +kernel
theorem dX2_leftAt_14 : decode cX2_leftAt 14 = .ok (.getfield 28, 3) := by decide +kernel
theorem dX2_leftAt_17 : decode cX2_leftAt 17 = .ok (.i2l, 1) := by decide +kernel
theorem dX2_leftAt_18 : decode cX2_leftAt 18 = .ok (.ldiv, 1) := by decide +kernel
theorem dX2_leftAt_19 : decode cX2_leftAt 19 = .ok (.aload_n 0, 1) := by decide +kernel
theorem dX2_leftAt_20 : decode cX2_leftAt 20 = .ok (.getfield 24, 3) := by decide +kernel
theorem dX2_leftAt_23 : decode cX2_leftAt 23 = .ok (.i2l, 1) := by decide +kernel
theorem dX2_leftAt_24 : decode cX2_leftAt 24 = .ok (.lmul, 1) := by decide +kernel
theorem dX2_leftAt_25 : decode cX2_leftAt 25 = .ok (.lstore_n 3, 1) := by decide +kernel
theorem dX2_leftAt_26 : decode cX2_leftAt 26 = .ok (.lload_n 1, 1) := by decide +kernel
theorem dX2_leftAt_27 : decode cX2_leftAt 27 = .ok (.aload_n 0, 1) := by decide +kernel
theorem dX2_leftAt_28 : decode cX2_leftAt 28 = .ok (.getfield 28, 3) := by decide +kernel
theorem dX2_leftAt_31 : decode cX2_leftAt 31 = .ok (.i2l, 1) := by decide +kernel
theorem dX2_leftAt_32 : decode cX2_leftAt 32 = .ok (.lrem, 1) := by decide +kernel
theorem dX2_leftAt_33 : decode cX2_leftAt 33 = .ok (.l2i, 1) := by decide +kernel
theorem dX2_leftAt_34 : decode cX2_leftAt 34 = .ok (.istore 5, 2) := by decide +kernel
theorem dX2_leftAt_36 : decode cX2_leftAt 36 = .ok (.iconst 0, 1) := by decide +kernel
theorem dX2_leftAt_37 : decode cX2_leftAt 37 = .ok (.istore 6, 2) := by decide +kernel
theorem dX2_leftAt_39 : decode cX2_leftAt 39 = .ok (.bipush 64, 2) := by decide +kernel
theorem dX2_leftAt_41 : decode cX2_leftAt 41 = .ok (.iload 6, 2) := by decide +kernel
theorem dX2_leftAt_43 : decode cX2_leftAt 43 = .ok (.imul, 1) := by decide +kernel
theorem dX2_leftAt_44 : decode cX2_leftAt 44 = .ok (.aload_n 0, 1) := by decide +kernel
theorem dX2_leftAt_45 : decode cX2_leftAt 45 = .ok (.getfield 24, 3) := by decide +kernel
theorem dX2_leftAt_48 : decode cX2_leftAt 48 = .ok (.if_icmp .ge 62, 3) := by decide +kernel
theorem dX2_leftAt_51 : decode cX2_leftAt 51 = .ok (.aload_n 0, 1) := by decide +kernel
theorem dX2_leftAt_52 : decode cX2_leftAt 52 = .ok (.iload 6, 2) := by decide +kernel
theorem dX2_leftAt_54 : decode cX2_leftAt 54 = .ok (.i2l, 1) := by decide +kernel
theorem dX2_leftAt_55 : decode cX2_leftAt 55 = .ok (.aload_n 0, 1) := by decide +kernel
theorem dX2_leftAt_56 : decode cX2_leftAt 56 = .ok (.invokevirtual 45, 3) := by decide +kernel
theorem dX2_leftAt_59 : decode cX2_leftAt 59 = .ok (.invokevirtual 49, 3) := by decide +kernel
theorem dX2_leftAt_62 : decode cX2_leftAt 62 = .ok (.lstore 7, 2) := by decide +kernel
theorem dX2_leftAt_64 : decode cX2_leftAt 64 = .ok (.lload 7, 2) := by decide +kernel
theorem dX2_leftAt_66 : decode cX2_leftAt 66 = .ok (.invokestatic 53, 3) := by decide +kernel
theorem dX2_leftAt_69 : decode cX2_leftAt 69 = .ok (.istore 9, 2) := by decide +kernel
theorem dX2_leftAt_71 : decode cX2_leftAt 71 = .ok (.iload 5, 2) := by decide +kernel
theorem dX2_leftAt_73 : decode cX2_leftAt 73 = .ok (.iload 9, 2) := by decide +kernel
theorem dX2_leftAt_75 : decode cX2_leftAt 75 = .ok (.if_icmp .ge 22, 3) := by decide +kernel
theorem dX2_leftAt_78 : decode cX2_leftAt 78 = .ok (.lload_n 3, 1) := by decide +kernel
theorem dX2_leftAt_79 : decode cX2_leftAt 79 = .ok (.ldc2_w 61, 3) := by decide +kernel
theorem dX2_leftAt_82 : decode cX2_leftAt 82 = .ok (.iload 6, 2) := by decide +kernel
theorem dX2_leftAt_84 : decode cX2_leftAt 84 = .ok (.i2l, 1) := by decide +kernel
theorem dX2_leftAt_85 : decode cX2_leftAt 85 = .ok (.lmul, 1) := by decide +kernel
theorem dX2_leftAt_86 : decode cX2_leftAt 86 = .ok (.ladd, 1) := by decide +kernel
theorem dX2_leftAt_87 : decode cX2_leftAt 87 = .ok (.lload 7, 2) := by decide +kernel
theorem dX2_leftAt_89 : decode cX2_leftAt 89 = .ok (.iload 5, 2) := by decide +kernel
theorem dX2_leftAt_91 : decode cX2_leftAt 91 = .ok (.invokestatic 63, 3) := by decide +kernel
theorem dX2_leftAt_94 : decode cX2_leftAt 94 = .ok (.i2l, 1) := by decide +kernel
theorem dX2_leftAt_95 : decode cX2_leftAt 95 = .ok (.ladd, 1) := by decide +kernel
theorem dX2_leftAt_96 : decode cX2_leftAt 96 = .ok (.lreturn, 1) := by decide +kernel
theorem dX2_leftAt_97 : decode cX2_leftAt 97 = .ok (.iload 5, 2) := by decide +kernel
theorem dX2_leftAt_99 : decode cX2_leftAt 99 = .ok (.iload 9, 2) := by decide +kernel
theorem dX2_leftAt_101 : decode cX2_leftAt 101 = .ok (.isub, 1) := by decide +kernel
theorem dX2_leftAt_102 : decode cX2_leftAt 102 = .ok (.istore 5, 2) := by decide +kernel
theorem dX2_leftAt_104 : decode cX2_leftAt 104 = .ok (.iinc 6 1, 3) := by decide +kernel
theorem dX2_leftAt_107 : decode cX2_leftAt 107 = .ok (.goto (-68), 3) := by decide +kernel
theorem dX2_leftAt_110 : decode cX2_leftAt 110 = .ok (.ldc2_w 59, 3) := by decide +kernel
theorem dX2_leftAt_113 : decode cX2_leftAt 113 = .ok (.lreturn, 1) := by decide +kernel
set_option maxRecDepth 20000 in
theorem ggX2_bitAt_X2_lowestBit : GoodIn wsX2_bitAt wsX2_lowestBit := goodIn_r _ [4, 5, 6, 7, 8, 9, 10, 11] (by decide +kernel) (by decide +kernel)
set_option maxRecDepth 20000 in
theorem gX2_bitAt_X2_lowestBit : GoodIn wsX2_bitAt (va_wsS RX2 67 yX2_lowestBit wsX2_lowestBit) := goodIn_app (goodIn_of _ (by decide +kernel)) ggX2_bitAt_X2_lowestBit
theorem dX2_bitAt_0 : decode cX2_bitAt 0 = .ok (.lload_n 0, 1) := by decide +kernel
theorem dX2_bitAt_1 : decode cX2_bitAt 1 = .ok (.lstore_n 3, 1) := by decide +kernel
theorem dX2_bitAt_2 : decode cX2_bitAt 2 = .ok (.iconst 0, 1) := by decide +kernel
theorem dX2_bitAt_3 : decode cX2_bitAt 3 = .ok (.istore 5, 2) := by decide +kernel
theorem dX2_bitAt_5 : decode cX2_bitAt 5 = .ok (.iload 5, 2) := by decide +kernel
theorem dX2_bitAt_7 : decode cX2_bitAt 7 = .ok (.iload_n 2, 1) := by decide +kernel
theorem dX2_bitAt_8 : decode cX2_bitAt 8 = .ok (.if_icmp .ge 15, 3) := by decide +kernel
theorem dX2_bitAt_11 : decode cX2_bitAt 11 = .ok (.lload_n 3, 1) := by decide +kernel
theorem dX2_bitAt_12 : decode cX2_bitAt 12 = .ok (.lload_n 3, 1) := by decide +kernel
theorem dX2_bitAt_13 : decode cX2_bitAt 13 = .ok (.lconst 1, 1) := by decide +kernel
theorem dX2_bitAt_14 : decode cX2_bitAt 14 = .ok (.lsub, 1) := by decide +kernel
theorem dX2_bitAt_15 : decode cX2_bitAt 15 = .ok (.land, 1) := by decide +kernel
theorem dX2_bitAt_16 : decode cX2_bitAt 16 = .ok (.lstore_n 3, 1) := by decide +kernel
theorem dX2_bitAt_17 : decode cX2_bitAt 17 = .ok (.iinc 5 1, 3) := by decide +kernel
theorem dX2_bitAt_20 : decode cX2_bitAt 20 = .ok (.goto (-15), 3) := by decide +kernel
theorem dX2_bitAt_23 : decode cX2_bitAt 23 = .ok (.lload_n 3, 1) := by decide +kernel
theorem dX2_bitAt_24 : decode cX2_bitAt 24 = .ok (.invokestatic 67, 3) := by decide +kernel
theorem dX2_bitAt_27 : decode cX2_bitAt 27 = .ok (.ireturn, 1) := by decide +kernel
set_option maxRecDepth 20000 in
theorem ggX2_leastFrom_X2_all : GoodIn wsX2_leastFrom wsX2_all := goodIn_r _ [10, 11, 28, 29, 30, 31, 32, 33] (by decide +kernel) (by decide +kernel)
set_option maxRecDepth 20000 in
theorem gX2_leastFrom_X2_all : GoodIn wsX2_leastFrom (wsV RX2 45 RX2 yX2_all wsX2_all) := goodIn_app (goodIn_of _ (by decide +kernel)) ggX2_leastFrom_X2_all
set_option maxRecDepth 20000 in
theorem ggX2_leastFrom_X2_wordOf : GoodIn wsX2_leastFrom wsX2_wordOf := goodIn_r _ [15, 4, 11, 16, 17, 28, 29, 30, 31, 32, 33] (by decide +kernel) (by decide +kernel)
set_option maxRecDepth 20000 in
theorem gX2_leastFrom_X2_wordOf : GoodIn wsX2_leastFrom (wsV RX2 49 RX2 yX2_wordOf wsX2_wordOf) := goodIn_app (goodIn_of _ (by decide +kernel)) ggX2_leastFrom_X2_wordOf
set_option maxRecDepth 20000 in
theorem ggX2_leastFrom_X2_lowestBit : GoodIn wsX2_leastFrom wsX2_lowestBit := goodIn_r _ [20, 21, 22, 23, 24, 25, 26, 27] (by decide +kernel) (by decide +kernel)
set_option maxRecDepth 20000 in
theorem gX2_leastFrom_X2_lowestBit : GoodIn wsX2_leastFrom (va_wsS RX2 67 yX2_lowestBit wsX2_lowestBit) := goodIn_app (goodIn_of _ (by decide +kernel)) ggX2_leastFrom_X2_lowestBit
theorem dX2_leastFrom_0 : decode cX2_leastFrom 0 = .ok (.aload_n 0, 1) := by decide +kernel
theorem dX2_leastFrom_1 : decode cX2_leastFrom 1 = .ok (.getfield 28, 3) := by decide +kernel
theorem dX2_leastFrom_4 : decode cX2_leastFrom 4 = .ok (.iconst 1, 1) := by decide +kernel
theorem dX2_leastFrom_5 : decode cX2_leastFrom 5 = .ok (.if_icmp .ge 7, 3) := by decide +kernel
theorem dX2_leastFrom_8 : decode cX2_leastFrom 8 = .ok (.ldc2_w 59, 3) := by decide +kernel
theorem dX2_leastFrom_11 : decode cX2_leastFrom 11 = .ok (.lreturn, 1) := by decide +kernel
theorem dX2_leastFrom_12 : decode cX2_leastFrom 12 = .ok (.lload_n 1, 1) := by decide +kernel
theorem dX2_leastFrom_13 : decode cX2_leastFrom 13 = .ok (.ldc2_w 61, 3) := by decide +kernel
theorem dX2_leastFrom_16 : decode cX2_leastFrom 16 = .ok (.ldiv, 1) := by decide +kernel
theorem dX2_leastFrom_17 : decode cX2_leastFrom 17 = .ok (.lstore_n 3, 1) := by decide +kernel
theorem dX2_leastFrom_18 : decode cX2_leastFrom 18 = .ok (.aload_n 0, 1) := by decide +kernel
theorem dX2_leastFrom_19 : decode cX2_leastFrom 19 = .ok (.lload_n 3, 1) := by decide +kernel
theorem dX2_leastFrom_20 : decode cX2_leastFrom 20 = .ok (.aload_n 0, 1) := by decide +kernel
theorem dX2_leastFrom_21 : decode cX2_leastFrom 21 = .ok (.invokevirtual 45, 3) := by decide +kernel
theorem dX2_leastFrom_24 : decode cX2_leastFrom 24 = .ok (.invokevirtual 49, 3) := by decide +kernel
theorem dX2_leastFrom_27 : decode cX2_leastFrom 27 = .ok (.ldc2_w 43, 3) := by decide +kernel
theorem dX2_leastFrom_30 : decode cX2_leastFrom 30 = .ok (.lload_n 1, 1) := by decide +kernel
theorem dX2_leastFrom_31 : decode cX2_leastFrom 31 = .ok (.ldc2_w 61, 3) := by decide +kernel
theorem dX2_leastFrom_34 : decode cX2_leastFrom 34 = .ok (.lrem, 1) := by decide +kernel
theorem dX2_leastFrom_35 : decode cX2_leastFrom 35 = .ok (.l2i, 1) := by decide +kernel
theorem dX2_leastFrom_36 : decode cX2_leastFrom 36 = .ok (.lshl, 1) := by decide +kernel
theorem dX2_leastFrom_37 : decode cX2_leastFrom 37 = .ok (.land, 1) := by decide +kernel
theorem dX2_leastFrom_38 : decode cX2_leastFrom 38 = .ok (.lstore 5, 2) := by decide +kernel
theorem dX2_leastFrom_40 : decode cX2_leastFrom 40 = .ok (.iconst 0, 1) := by decide +kernel
theorem dX2_leastFrom_41 : decode cX2_leastFrom 41 = .ok (.istore 7, 2) := by decide +kernel
theorem dX2_leastFrom_43 : decode cX2_leastFrom 43 = .ok (.iload 7, 2) := by decide +kernel
theorem dX2_leastFrom_45 : decode cX2_leastFrom 45 = .ok (.aload_n 0, 1) := by decide +kernel
theorem dX2_leastFrom_46 : decode cX2_leastFrom 46 = .ok (.getfield 24, 3) := by decide +kernel
theorem dX2_leastFrom_49 : decode cX2_leastFrom 49 = .ok (.bipush 64, 2) := by decide +kernel
theorem dX2_leastFrom_51 : decode cX2_leastFrom 51 = .ok (.idiv, 1) := by decide +kernel
theorem dX2_leastFrom_52 : decode cX2_leastFrom 52 = .ok (.iconst 2, 1) := by decide +kernel
theorem dX2_leastFrom_53 : decode cX2_leastFrom 53 = .ok (.iadd, 1) := by decide +kernel
theorem dX2_leastFrom_54 : decode cX2_leastFrom 54 = .ok (.if_icmp .ge 31, 3) := by decide +kernel
theorem dX2_leastFrom_57 : decode cX2_leastFrom 57 = .ok (.lload 5, 2) := by decide +kernel
theorem dX2_leastFrom_59 : decode cX2_leastFrom 59 = .ok (.lconst 0, 1) := by decide +kernel
theorem dX2_leastFrom_60 : decode cX2_leastFrom 60 = .ok (.lcmp, 1) := by decide +kernel
theorem dX2_leastFrom_61 : decode cX2_leastFrom 61 = .ok (.ifCond .ne 24, 3) := by decide +kernel
theorem dX2_leastFrom_64 : decode cX2_leastFrom 64 = .ok (.lload_n 3, 1) := by decide +kernel
theorem dX2_leastFrom_65 : decode cX2_leastFrom 65 = .ok (.lconst 1, 1) := by decide +kernel
theorem dX2_leastFrom_66 : decode cX2_leastFrom 66 = .ok (.ladd, 1) := by decide +kernel
theorem dX2_leastFrom_67 : decode cX2_leastFrom 67 = .ok (.lstore_n 3, 1) := by decide +kernel
theorem dX2_leastFrom_68 : decode cX2_leastFrom 68 = .ok (.aload_n 0, 1) := by decide +kernel
theorem dX2_leastFrom_69 : decode cX2_leastFrom 69 = .ok (.lload_n 3, 1) := by decide +kernel
theorem dX2_leastFrom_70 : decode cX2_leastFrom 70 = .ok (.aload_n 0, 1) := by decide +kernel
theorem dX2_leastFrom_71 : decode cX2_leastFrom 71 = .ok (.invokevirtual 45, 3) := by decide +kernel
theorem dX2_leastFrom_74 : decode cX2_leastFrom 74 = .ok (.invokevirtual 49, 3) := by decide +kernel
theorem dX2_leastFrom_77 : decode cX2_leastFrom 77 = .ok (.lstore 5, 2) := by decide +kernel
theorem dX2_leastFrom_79 : decode cX2_leastFrom 79 = .ok (.iinc 7 1, 3) := by decide +kernel
theorem dX2_leastFrom_82 : decode cX2_leastFrom 82 = .ok (.goto (-39), 3) := by decide +kernel
theorem dX2_leastFrom_85 : decode cX2_leastFrom 85 = .ok (.lload 5, 2) := by decide +kernel
theorem dX2_leastFrom_87 : decode cX2_leastFrom 87 = .ok (.lconst 0, 1) := by decide +kernel
theorem dX2_leastFrom_88 : decode cX2_leastFrom 88 = .ok (.lcmp, 1) := by decide +kernel
theorem dX2_leastFrom_89 : decode cX2_leastFrom 89 = .ok (.ifCond .ne 9, 3) := by decide +kernel
theorem dX2_leastFrom_92 : decode cX2_leastFrom 92 = .ok (.ldc2_w 59, 3) := by decide +kernel
theorem dX2_leastFrom_95 : decode cX2_leastFrom 95 = .ok (.goto 15, 3) := by decide +kernel
theorem dX2_leastFrom_98 : decode cX2_leastFrom 98 = .ok (.ldc2_w 61, 3) := by decide +kernel
theorem dX2_leastFrom_101 : decode cX2_leastFrom 101 = .ok (.lload_n 3, 1) := by decide +kernel
theorem dX2_leastFrom_102 : decode cX2_leastFrom 102 = .ok (.lmul, 1) := by decide +kernel
theorem dX2_leastFrom_103 : decode cX2_leastFrom 103 = .ok (.lload 5, 2) := by decide +kernel
theorem dX2_leastFrom_105 : decode cX2_leastFrom 105 = .ok (.invokestatic 67, 3) := by decide +kernel
theorem dX2_leastFrom_108 : decode cX2_leastFrom 108 = .ok (.i2l, 1) := by decide +kernel
theorem dX2_leastFrom_109 : decode cX2_leastFrom 109 = .ok (.ladd, 1) := by decide +kernel
theorem dX2_leastFrom_110 : decode cX2_leastFrom 110 = .ok (.lreturn, 1) := by decide +kernel
set_option maxRecDepth 20000 in
theorem ggX2_saysNothingNew_X2_all : GoodIn wsX2_saysNothingNew wsX2_all := goodIn_r _ [6, 7, 15, 16, 17, 18, 19, 20] (by decide +kernel) (by decide +kernel)
set_option maxRecDepth 20000 in
theorem gX2_saysNothingNew_X2_all : GoodIn wsX2_saysNothingNew (wsV RX2 45 RX2 yX2_all wsX2_all) := goodIn_app (goodIn_of _ (by decide +kernel)) ggX2_saysNothingNew_X2_all
set_option maxRecDepth 20000 in
theorem ggX2_saysNothingNew_X2_wordOf : GoodIn wsX2_saysNothingNew wsX2_wordOf := goodIn_r _ [11, 12, 7, 13, 14, 15, 16, 17, 18, 19, 20] (by decide +kernel) (by decide +kernel)
set_option maxRecDepth 20000 in
theorem gX2_saysNothingNew_X2_wordOf : GoodIn wsX2_saysNothingNew (wsV RX2 49 RX2 yX2_wordOf wsX2_wordOf) := goodIn_app (goodIn_of _ (by decide +kernel)) ggX2_saysNothingNew_X2_wordOf
theorem dX2_saysNothingNew_0 : decode cX2_saysNothingNew 0 = .ok (.aload_n 0, 1) := by decide +kernel
theorem dX2_saysNothingNew_1 : decode cX2_saysNothingNew 1 = .ok (.invokevirtual 45, 3) := by decide +kernel
theorem dX2_saysNothingNew_4 : decode cX2_saysNothingNew 4 = .ok (.iconst 1, 1) := by decide +kernel
theorem dX2_saysNothingNew_5 : decode cX2_saysNothingNew 5 = .ok (.iload_n 1, 1) := by decide +kernel
theorem dX2_saysNothingNew_6 : decode cX2_saysNothingNew 6 = .ok (.ishl, 1) := by decide +kernel
theorem dX2_saysNothingNew_7 : decode cX2_saysNothingNew 7 = .ok (.iconst (-1), 1) := by decide +kernel
theorem dX2_saysNothingNew_8 : decode cX2_saysNothingNew 8 = .ok (.ixor, 1) := by decide +kernel
theorem dX2_saysNothingNew_9 : decode cX2_saysNothingNew 9 = .ok (.iand, 1) := by decide +kernel
theorem dX2_saysNothingNew_10 : decode cX2_saysNothingNew 10 = .ok (.istore_n 2, 1) := by decide +kernel
theorem dX2_saysNothingNew_11 : decode cX2_saysNothingNew 11 = .ok (.iconst 0, 1) := by decide +kernel
theorem dX2_saysNothingNew_12 : decode cX2_saysNothingNew 12 = .ok (.istore_n 3, 1) := by decide +kernel
theorem dX2_saysNothingNew_13 : decode cX2_saysNothingNew 13 = .ok (.bipush 64, 2) := by decide +kernel
theorem dX2_saysNothingNew_15 : decode cX2_saysNothingNew 15 = .ok (.iload_n 3, 1) := by decide +kernel
theorem dX2_saysNothingNew_16 : decode cX2_saysNothingNew 16 = .ok (.imul, 1) := by decide +kernel
theorem dX2_saysNothingNew_17 : decode cX2_saysNothingNew 17 = .ok (.aload_n 0, 1) := by decide +kernel
theorem dX2_saysNothingNew_18 : decode cX2_saysNothingNew 18 = .ok (.getfield 24, 3) := by decide +kernel
theorem dX2_saysNothingNew_21 : decode cX2_saysNothingNew 21 = .ok (.if_icmp .ge 32, 3) := by decide +kernel
theorem dX2_saysNothingNew_24 : decode cX2_saysNothingNew 24 = .ok (.aload_n 0, 1) := by decide +kernel
theorem dX2_saysNothingNew_25 : decode cX2_saysNothingNew 25 = .ok (.iload_n 3, 1) := by decide +kernel
theorem dX2_saysNothingNew_26 : decode cX2_saysNothingNew 26 = .ok (.i2l, 1) := by decide +kernel
theorem dX2_saysNothingNew_27 : decode cX2_saysNothingNew 27 = .ok (.iload_n 2, 1) := by decide +kernel
theorem dX2_saysNothingNew_28 : decode cX2_saysNothingNew 28 = .ok (.invokevirtual 49, 3) := by decide +kernel
theorem dX2_saysNothingNew_31 : decode cX2_saysNothingNew 31 = .ok (.aload_n 0, 1) := by decide +kernel
theorem dX2_saysNothingNew_32 : decode cX2_saysNothingNew 32 = .ok (.iload_n 3, 1) := by decide +kernel
theorem dX2_saysNothingNew_33 : decode cX2_saysNothingNew 33 = .ok (.i2l, 1) := by decide +kernel
theorem dX2_saysNothingNew_34 : decode cX2_saysNothingNew 34 = .ok (.aload_n 0, 1) := by decide +kernel
theorem dX2_saysNothingNew_35 : decode cX2_saysNothingNew 35 = .ok (.invokevirtual 45, 3) := by decide +kernel
theorem dX2_saysNothingNew_38 : decode cX2_saysNothingNew 38 = .ok (.invokevirtual 49, 3) := by decide +kernel
theorem dX2_saysNothingNew_41 : decode cX2_saysNothingNew 41 = .ok (.lcmp, 1) := by decide +kernel
theorem dX2_saysNothingNew_42 : decode cX2_saysNothingNew 42 = .ok (.ifCond .eq 5, 3) := by decide +kernel
theorem dX2_saysNothingNew_45 : decode cX2_saysNothingNew 45 = .ok (.iconst 0, 1) := by decide +kernel
theorem dX2_saysNothingNew_46 : decode cX2_saysNothingNew 46 = .ok (.ireturn, 1) := by decide +kernel
theorem dX2_saysNothingNew_47 : decode cX2_saysNothingNew 47 = .ok (.iinc 3 1, 3) := by decide +kernel
theorem dX2_saysNothingNew_50 : decode cX2_saysNothingNew 50 = .ok (.goto (-37), 3) := by decide +kernel
theorem dX2_saysNothingNew_53 : decode cX2_saysNothingNew 53 = .ok (.iconst 1, 1) := by decide +kernel
theorem dX2_saysNothingNew_54 : decode cX2_saysNothingNew 54 = .ok (.ireturn, 1) := by decide +kernel
set_option maxRecDepth 20000 in
theorem ggX2_leastEmptySet_X2_all : GoodIn wsX2_leastEmptySet wsX2_all := goodIn_r _ [7, 2, 37, 38, 39, 40, 41, 42] (by decide +kernel) (by decide +kernel)
set_option maxRecDepth 20000 in
theorem gX2_leastEmptySet_X2_all : GoodIn wsX2_leastEmptySet (wsV RX2 45 RX2 yX2_all wsX2_all) := goodIn_app (goodIn_of _ (by decide +kernel)) ggX2_leastEmptySet_X2_all
set_option maxRecDepth 20000 in
theorem ggX2_leastEmptySet_J6_bitCount_0f7a4 : GoodIn wsX2_leastEmptySet wsJ6_bitCount_0f7a4 := goodIn_r _ [11, 12, 13, 14] (by decide +kernel) (by decide +kernel)
set_option maxRecDepth 20000 in
theorem gX2_leastEmptySet_J6_bitCount_0f7a4 : GoodIn wsX2_leastEmptySet (va_wsS RX2 70 yJ6_bitCount_0f7a4 wsJ6_bitCount_0f7a4) := goodIn_app (goodIn_of _ (by decide +kernel)) ggX2_leastEmptySet_J6_bitCount_0f7a4
set_option maxRecDepth 20000 in
theorem ggX2_leastEmptySet_X2_leavesNothing : GoodIn wsX2_leastEmptySet wsX2_leavesNothing := goodIn_r _ [18, 19, 20, 21, 6, 22, 2, 23, 24, 25, 26, 27, 28, 29, 30, 31, 32, 33, 34, 35, 36, 37, 38, 39, 40, 41, 42] (by decide +kernel) (by decide +kernel)
set_option maxRecDepth 20000 in
theorem gX2_leastEmptySet_X2_leavesNothing : GoodIn wsX2_leastEmptySet (wsV RX2 75 RX2 yX2_leavesNothing wsX2_leavesNothing) := goodIn_app (goodIn_of _ (by decide +kernel)) ggX2_leastEmptySet_X2_leavesNothing
theorem dX2_leastEmptySet_0 : decode cX2_leastEmptySet 0 = .ok (.aload_n 0, 1) := by decide +kernel
theorem dX2_leastEmptySet_1 : decode cX2_leastEmptySet 1 = .ok (.getfield 28, 3) := by decide +kernel
theorem dX2_leastEmptySet_4 : decode cX2_leastEmptySet 4 = .ok (.ifCond .le 6, 3) := by decide +kernel
theorem dX2_leastEmptySet_7 : decode cX2_leastEmptySet 7 = .ok (.bipush (-4), 2) := by decide +kernel
theorem dX2_leastEmptySet_9 : decode cX2_leastEmptySet 9 = .ok (.ireturn, 1) := by decide +kernel
theorem dX2_leastEmptySet_10 : decode cX2_leastEmptySet 10 = .ok (.iconst 1, 1) := by decide +kernel
theorem dX2_leastEmptySet_11 : decode cX2_leastEmptySet 11 = .ok (.istore_n 1, 1) := by decide +kernel
theorem dX2_leastEmptySet_12 : decode cX2_leastEmptySet 12 = .ok (.iload_n 1, 1) := by decide +kernel
theorem dX2_leastEmptySet_13 : decode cX2_leastEmptySet 13 = .ok (.aload_n 0, 1) := by decide +kernel
theorem dX2_leastEmptySet_14 : decode cX2_leastEmptySet 14 = .ok (.getfield 31, 3) := by decide +kernel
theorem dX2_leastEmptySet_17 : decode cX2_leastEmptySet 17 = .ok (.if_icmp .gt 43, 3) := by decide +kernel
theorem dX2_leastEmptySet_20 : decode cX2_leastEmptySet 20 = .ok (.iconst 1, 1) := by decide +kernel
theorem dX2_leastEmptySet_21 : decode cX2_leastEmptySet 21 = .ok (.istore_n 2, 1) := by decide +kernel
theorem dX2_leastEmptySet_22 : decode cX2_leastEmptySet 22 = .ok (.iload_n 2, 1) := by decide +kernel
theorem dX2_leastEmptySet_23 : decode cX2_leastEmptySet 23 = .ok (.aload_n 0, 1) := by decide +kernel
theorem dX2_leastEmptySet_24 : decode cX2_leastEmptySet 24 = .ok (.invokevirtual 45, 3) := by decide +kernel
theorem dX2_leastEmptySet_27 : decode cX2_leastEmptySet 27 = .ok (.if_icmp .gt 27, 3) := by decide +kernel
theorem dX2_leastEmptySet_30 : decode cX2_leastEmptySet 30 = .ok (.iload_n 2, 1) := by decide +kernel
theorem dX2_leastEmptySet_31 : decode cX2_leastEmptySet 31 = .ok (.invokestatic 70, 3) := by decide +kernel
theorem dX2_leastEmptySet_34 : decode cX2_leastEmptySet 34 = .ok (.iload_n 1, 1) := by decide +kernel
theorem dX2_leastEmptySet_35 : decode cX2_leastEmptySet 35 = .ok (.if_icmp .ne 13, 3) := by decide +kernel
theorem dX2_leastEmptySet_38 : decode cX2_leastEmptySet 38 = .ok (.aload_n 0, 1) := by decide +kernel
theorem dX2_leastEmptySet_39 : decode cX2_leastEmptySet 39 = .ok (.iload_n 2, 1) := by decide +kernel
theorem dX2_leastEmptySet_40 : decode cX2_leastEmptySet 40 = .ok (.invokevirtual 75, 3) := by decide +kernel
theorem dX2_leastEmptySet_43 : decode cX2_leastEmptySet 43 = .ok (.ifCond .eq 5, 3) := by decide +kernel
theorem dX2_leastEmptySet_46 : decode cX2_leastEmptySet 46 = .ok (.iload_n 2, 1) := by decide +kernel
theorem dX2_leastEmptySet_47 : decode cX2_leastEmptySet 47 = .ok (.ireturn, 1) := by decide +kernel
theorem dX2_leastEmptySet_48 : decode cX2_leastEmptySet 48 = .ok (.iinc 2 1, 3) := by decide +kernel
theorem dX2_leastEmptySet_51 : decode cX2_leastEmptySet 51 = .ok (.goto (-29), 3) := by decide +kernel
theorem dX2_leastEmptySet_54 : decode cX2_leastEmptySet 54 = .ok (.iinc 1 1, 3) := by decide +kernel
theorem dX2_leastEmptySet_57 : decode cX2_leastEmptySet 57 = .ok (.goto (-45), 3) := by decide +kernel
theorem dX2_leastEmptySet_60 : decode cX2_leastEmptySet 60 = .ok (.bipush (-4), 2) := by decide +kernel
theorem dX2_leastEmptySet_62 : decode cX2_leastEmptySet 62 = .ok (.ireturn, 1) := by decide +kernel
set_option maxRecDepth 20000 in
theorem ggX2_leavesNothing_X2_periodOf : GoodIn wsX2_leavesNothing wsX2_periodOf := goodIn_r _ [5, 6, 7, 8, 9, 10, 11, 12, 13, 14, 21, 22, 23, 24, 25, 26] (by decide +kernel) (by decide +kernel)
set_option maxRecDepth 20000 in
theorem gX2_leavesNothing_X2_periodOf : GoodIn wsX2_leavesNothing (wsV RX2 78 RX2 yX2_periodOf wsX2_periodOf) := goodIn_app (goodIn_of _ (by decide +kernel)) ggX2_leavesNothing_X2_periodOf
set_option maxRecDepth 20000 in
theorem ggX2_leavesNothing_X2_wordOf : GoodIn wsX2_leavesNothing wsX2_wordOf := goodIn_r _ [18, 19, 6, 20, 7, 21, 22, 23, 24, 25, 26] (by decide +kernel) (by decide +kernel)
set_option maxRecDepth 20000 in
theorem gX2_leavesNothing_X2_wordOf : GoodIn wsX2_leavesNothing (wsV RX2 49 RX2 yX2_wordOf wsX2_wordOf) := goodIn_app (goodIn_of _ (by decide +kernel)) ggX2_leavesNothing_X2_wordOf
theorem dX2_leavesNothing_0 : decode cX2_leavesNothing 0 = .ok (.aload_n 0, 1) := by decide +kernel
theorem dX2_leavesNothing_1 : decode cX2_leavesNothing 1 = .ok (.iload_n 1, 1) := by decide +kernel
theorem dX2_leavesNothing_2 : decode cX2_leavesNothing 2 = .ok (.invokevirtual 78, 3) := by decide +kernel
theorem dX2_leavesNothing_5 : decode cX2_leavesNothing 5 = .ok (.istore_n 2, 1) := by decide +kernel
theorem dX2_leavesNothing_6 : decode cX2_leavesNothing 6 = .ok (.iconst 0, 1) := by decide +kernel
theorem dX2_leavesNothing_7 : decode cX2_leavesNothing 7 = .ok (.istore_n 3, 1) := by decide +kernel
theorem dX2_leavesNothing_8 : decode cX2_leavesNothing 8 = .ok (.bipush 64, 2) := by decide +kernel
theorem dX2_leavesNothing_10 : decode cX2_leavesNothing 10 = .ok (.iload_n 3, 1) := by decide +kernel
theorem dX2_leavesNothing_11 : decode cX2_leavesNothing 11 = .ok (.imul, 1) := by decide +kernel
theorem dX2_leavesNothing_12 : decode cX2_leavesNothing 12 = .ok (.iload_n 2, 1) := by decide +kernel
theorem dX2_leavesNothing_13 : decode cX2_leavesNothing 13 = .ok (.if_icmp .ge 23, 3) := by decide +kernel
theorem dX2_leavesNothing_16 : decode cX2_leavesNothing 16 = .ok (.aload_n 0, 1) := by decide +kernel
theorem dX2_leavesNothing_17 : decode cX2_leavesNothing 17 = .ok (.iload_n 3, 1) := by decide +kernel
theorem dX2_leavesNothing_18 : decode cX2_leavesNothing 18 = .ok (.i2l, 1) := by decide +kernel
theorem dX2_leavesNothing_19 : decode cX2_leavesNothing 19 = .ok (.iload_n 1, 1) := by decide +kernel
theorem dX2_leavesNothing_20 : decode cX2_leavesNothing 20 = .ok (.invokevirtual 49, 3) := by decide +kernel
theorem dX2_leavesNothing_23 : decode cX2_leavesNothing 23 = .ok (.lconst 0, 1) := by decide +kernel
theorem dX2_leavesNothing_24 : decode cX2_leavesNothing 24 = .ok (.lcmp, 1) := by decide +kernel
theorem dX2_leavesNothing_25 : decode cX2_leavesNothing 25 = .ok (.ifCond .eq 5, 3) := by decide +kernel
theorem dX2_leavesNothing_28 : decode cX2_leavesNothing 28 = .ok (.iconst 0, 1) := by decide +kernel
theorem dX2_leavesNothing_29 : decode cX2_leavesNothing 29 = .ok (.ireturn, 1) := by decide +kernel
theorem dX2_leavesNothing_30 : decode cX2_leavesNothing 30 = .ok (.iinc 3 1, 3) := by decide +kernel
theorem dX2_leavesNothing_33 : decode cX2_leavesNothing 33 = .ok (.goto (-25), 3) := by decide +kernel
theorem dX2_leavesNothing_36 : decode cX2_leavesNothing 36 = .ok (.iconst 1, 1) := by decide +kernel
theorem dX2_leavesNothing_37 : decode cX2_leavesNothing 37 = .ok (.ireturn, 1) := by decide +kernel
set_option maxRecDepth 20000 in
theorem ggX2_periodOf_X4_commonMultiple : GoodIn wsX2_periodOf wsX4_commonMultiple := goodIn_r _ [6, 7, 8, 5, 9] (by decide +kernel) (by decide +kernel)
set_option maxRecDepth 20000 in
theorem gX2_periodOf_X4_commonMultiple : GoodIn wsX2_periodOf (va_wsS RX2 81 yX4_commonMultiple wsX4_commonMultiple) := goodIn_app (goodIn_of _ (by decide +kernel)) ggX2_periodOf_X4_commonMultiple
theorem dX2_periodOf_0 : decode cX2_periodOf 0 = .ok (.iconst 1, 1) := by decide +kernel
theorem dX2_periodOf_1 : decode cX2_periodOf 1 = .ok (.istore_n 2, 1) := by decide +kernel
theorem dX2_periodOf_2 : decode cX2_periodOf 2 = .ok (.iconst 0, 1) := by decide +kernel
theorem dX2_periodOf_3 : decode cX2_periodOf 3 = .ok (.istore_n 3, 1) := by decide +kernel
theorem dX2_periodOf_4 : decode cX2_periodOf 4 = .ok (.iload_n 3, 1) := by decide +kernel
theorem dX2_periodOf_5 : decode cX2_periodOf 5 = .ok (.aload_n 0, 1) := by decide +kernel
theorem dX2_periodOf_6 : decode cX2_periodOf 6 = .ok (.getfield 31, 3) := by decide +kernel
theorem dX2_periodOf_9 : decode cX2_periodOf 9 = .ok (.if_icmp .ge 29, 3) := by decide +kernel
theorem dX2_periodOf_12 : decode cX2_periodOf 12 = .ok (.iload_n 1, 1) := by decide +kernel
theorem dX2_periodOf_13 : decode cX2_periodOf 13 = .ok (.iload_n 3, 1) := by decide +kernel
theorem dX2_periodOf_14 : decode cX2_periodOf 14 = .ok (.ishr, 1) := by decide +kernel
theorem dX2_periodOf_15 : decode cX2_periodOf 15 = .ok (.iconst 1, 1) := by decide +kernel
theorem dX2_periodOf_16 : decode cX2_periodOf 16 = .ok (.iand, 1) := by decide +kernel
theorem dX2_periodOf_17 : decode cX2_periodOf 17 = .ok (.iconst 1, 1) := by decide +kernel
theorem dX2_periodOf_18 : decode cX2_periodOf 18 = .ok (.if_icmp .ne 14, 3) := by decide +kernel
theorem dX2_periodOf_21 : decode cX2_periodOf 21 = .ok (.iload_n 2, 1) := by decide +kernel
theorem dX2_periodOf_22 : decode cX2_periodOf 22 = .ok (.aload_n 0, 1) := by decide +kernel
theorem dX2_periodOf_23 : decode cX2_periodOf 23 = .ok (.getfield 16, 3) := by decide +kernel
theorem dX2_periodOf_26 : decode cX2_periodOf 26 = .ok (.iload_n 3, 1) := by decide +kernel
theorem dX2_periodOf_27 : decode cX2_periodOf 27 = .ok (.iaload, 1) := by decide +kernel
theorem dX2_periodOf_28 : decode cX2_periodOf 28 = .ok (.invokestatic 81, 3) := by decide +kernel
theorem dX2_periodOf_31 : decode cX2_periodOf 31 = .ok (.istore_n 2, 1) := by decide +kernel
theorem dX2_periodOf_32 : decode cX2_periodOf 32 = .ok (.iinc 3 1, 3) := by decide +kernel
theorem dX2_periodOf_35 : decode cX2_periodOf 35 = .ok (.goto (-31), 3) := by decide +kernel
theorem dX2_periodOf_38 : decode cX2_periodOf 38 = .ok (.iload_n 2, 1) := by decide +kernel
theorem dX2_periodOf_39 : decode cX2_periodOf 39 = .ok (.ireturn, 1) := by decide +kernel
theorem dX3_init_0 : decode cX3_init 0 = .ok (.aload_n 0, 1) := by decide +kernel
theorem dX3_init_1 : decode cX3_init 1 = .ok (.invokespecial 3, 3) := by decide +kernel
theorem dX3_init_4 : decode cX3_init 4 = .ok (.aload_n 0, 1) := by decide +kernel
theorem dX3_init_5 : decode cX3_init 5 = .ok (.ldc 9, 2) := by decide +kernel
theorem dX3_init_7 : decode cX3_init 7 = .ok (.newarray .int, 2) := by decide +kernel
theorem dX3_init_9 : decode cX3_init 9 = .ok (.putfield 10, 3) := by decide +kernel
theorem dX3_init_12 : decode cX3_init 12 = .ok (.return_, 1) := by decide +kernel
theorem dX3_wipeAll_0 : decode cX3_wipeAll 0 = .ok (.aload_n 0, 1) := by decide +kernel
theorem dX3_wipeAll_1 : decode cX3_wipeAll 1 = .ok (.dup, 1) := by decide +kernel
theorem dX3_wipeAll_2 : decode cX3_wipeAll 2 = .ok (.getfield 16, 3) := by decide +kernel
theorem dX3_wipeAll_5 : decode cX3_wipeAll 5 = .ok (.iconst 1, 1) := by decide +kernel
theorem dX3_wipeAll_6 : decode cX3_wipeAll 6 = .ok (.iadd, 1) := by decide +kernel
theorem dX3_wipeAll_7 : decode cX3_wipeAll 7 = .ok (.putfield 16, 3) := by decide +kernel
theorem dX3_wipeAll_10 : decode cX3_wipeAll 10 = .ok (.return_, 1) := by decide +kernel
theorem dX3_put_0 : decode cX3_put 0 = .ok (.iload_n 1, 1) := by decide +kernel
theorem dX3_put_1 : decode cX3_put 1 = .ok (.ifCond .lt 22, 3) := by decide +kernel
theorem dX3_put_4 : decode cX3_put 4 = .ok (.iload_n 1, 1) := by decide +kernel
theorem dX3_put_5 : decode cX3_put 5 = .ok (.aload_n 0, 1) := by decide +kernel
theorem dX3_put_6 : decode cX3_put 6 = .ok (.getfield 10, 3) := by decide +kernel
theorem dX3_put_9 : decode cX3_put 9 = .ok (.arraylength, 1) := by decide +kernel
theorem dX3_put_10 : decode cX3_put 10 = .ok (.if_icmp .ge 13, 3) := by decide +kernel
theorem dX3_put_13 : decode cX3_put 13 = .ok (.aload_n 0, 1) := by decide +kernel
theorem dX3_put_14 : decode cX3_put 14 = .ok (.getfield 10, 3) := by decide +kernel
theorem dX3_put_17 : decode cX3_put 17 = .ok (.iload_n 1, 1) := by decide +kernel
theorem dX3_put_18 : decode cX3_put 18 = .ok (.aload_n 0, 1) := by decide +kernel
theorem dX3_put_19 : decode cX3_put 19 = .ok (.getfield 16, 3) := by decide +kernel
theorem dX3_put_22 : decode cX3_put 22 = .ok (.iastore, 1) := by decide +kernel
theorem dX3_put_23 : decode cX3_put 23 = .ok (.return_, 1) := by decide +kernel
theorem dX3_has_0 : decode cX3_has 0 = .ok (.iload_n 1, 1) := by decide +kernel
theorem dX3_has_1 : decode cX3_has 1 = .ok (.ifCond .lt 29, 3) := by decide +kernel
theorem dX3_has_4 : decode cX3_has 4 = .ok (.iload_n 1, 1) := by decide +kernel
theorem dX3_has_5 : decode cX3_has 5 = .ok (.aload_n 0, 1) := by decide +kernel
theorem dX3_has_6 : decode cX3_has 6 = .ok (.getfield 10, 3) := by decide +kernel
theorem dX3_has_9 : decode cX3_has 9 = .ok (.arraylength, 1) := by decide +kernel
theorem dX3_has_10 : decode cX3_has 10 = .ok (.if_icmp .ge 20, 3) := by decide +kernel
theorem dX3_has_13 : decode cX3_has 13 = .ok (.aload_n 0, 1) := by decide +kernel
theorem dX3_has_14 : decode cX3_has 14 = .ok (.getfield 10, 3) := by decide +kernel
theorem dX3_has_17 : decode cX3_has 17 = .ok (.iload_n 1, 1) := by decide +kernel
theorem dX3_has_18 : decode cX3_has 18 = .ok (.iaload, 1) := by decide +kernel
theorem dX3_has_19 : decode cX3_has 19 = .ok (.aload_n 0, 1) := by decide +kernel
theorem dX3_has_20 : decode cX3_has 20 = .ok (.getfield 16, 3) := by decide +kernel
theorem dX3_has_23 : decode cX3_has 23 = .ok (.if_icmp .ne 7, 3) := by decide +kernel
theorem dX3_has_26 : decode cX3_has 26 = .ok (.iconst 1, 1) := by decide +kernel
theorem dX3_has_27 : decode cX3_has 27 = .ok (.goto 4, 3) := by decide +kernel
theorem dX3_has_30 : decode cX3_has 30 = .ok (.iconst 0, 1) := by decide +kernel
theorem dX3_has_31 : decode cX3_has 31 = .ok (.ireturn, 1) := by decide +kernel
set_option maxRecDepth 20000 in
theorem ggX3_pick_X3_has : GoodIn wsX3_pick wsX3_has := goodIn_r _ [5, 6, 7, 8, 9] (by decide +kernel) (by decide +kernel)
set_option maxRecDepth 20000 in
theorem gX3_pick_X3_has : GoodIn wsX3_pick (wsV RX3 20 RX3 yX3_has wsX3_has) := goodIn_app (goodIn_of _ (by decide +kernel)) ggX3_pick_X3_has
theorem dX3_pick_0 : decode cX3_pick 0 = .ok (.iconst 0, 1) := by decide +kernel
theorem dX3_pick_1 : decode cX3_pick 1 = .ok (.istore_n 3, 1) := by decide +kernel
theorem dX3_pick_2 : decode cX3_pick 2 = .ok (.iconst 0, 1) := by decide +kernel
theorem dX3_pick_3 : decode cX3_pick 3 = .ok (.istore 4, 2) := by decide +kernel
theorem dX3_pick_5 : decode cX3_pick 5 = .ok (.iload 4, 2) := by decide +kernel
theorem dX3_pick_7 : decode cX3_pick 7 = .ok (.iload_n 2, 1) := by decide +kernel
theorem dX3_pick_8 : decode cX3_pick 8 = .ok (.if_icmp .ge 29, 3) := by decide +kernel
theorem dX3_pick_11 : decode cX3_pick 11 = .ok (.aload_n 0, 1) := by decide +kernel
theorem dX3_pick_12 : decode cX3_pick 12 = .ok (.iload 4, 2) := by decide +kernel
theorem dX3_pick_14 : decode cX3_pick 14 = .ok (.invokevirtual 20, 3) := by decide +kernel
theorem dX3_pick_17 : decode cX3_pick 17 = .ok (.ifCond .eq 14, 3) := by decide +kernel
theorem dX3_pick_20 : decode cX3_pick 20 = .ok (.iload_n 3, 1) := by decide +kernel
theorem dX3_pick_21 : decode cX3_pick 21 = .ok (.iload_n 1, 1) := by decide +kernel
theorem dX3_pick_22 : decode cX3_pick 22 = .ok (.if_icmp .ne 6, 3) := by decide +kernel
theorem dX3_pick_25 : decode cX3_pick 25 = .ok (.iload 4, 2) := by decide +kernel
theorem dX3_pick_27 : decode cX3_pick 27 = .ok (.ireturn, 1) := by decide +kernel
theorem dX3_pick_28 : decode cX3_pick 28 = .ok (.iinc 3 1, 3) := by decide +kernel
theorem dX3_pick_31 : decode cX3_pick 31 = .ok (.iinc 4 1, 3) := by decide +kernel
theorem dX3_pick_34 : decode cX3_pick 34 = .ok (.goto (-29), 3) := by decide +kernel
theorem dX3_pick_37 : decode cX3_pick 37 = .ok (.bipush (-4), 2) := by decide +kernel
theorem dX3_pick_39 : decode cX3_pick 39 = .ok (.ireturn, 1) := by decide +kernel
theorem dX4_raise_0 : decode cX4_raise 0 = .ok (.iload 4, 2) := by decide +kernel
theorem dX4_raise_2 : decode cX4_raise 2 = .ok (.iconst 1, 1) := by decide +kernel
theorem dX4_raise_3 : decode cX4_raise 3 = .ok (.if_icmp .ge 5, 3) := by decide +kernel
theorem dX4_raise_6 : decode cX4_raise 6 = .ok (.iconst 0, 1) := by decide +kernel
theorem dX4_raise_7 : decode cX4_raise 7 = .ok (.ireturn, 1) := by decide +kernel
theorem dX4_raise_8 : decode cX4_raise 8 = .ok (.iconst 1, 1) := by decide +kernel
theorem dX4_raise_9 : decode cX4_raise 9 = .ok (.iload 4, 2) := by decide +kernel
theorem dX4_raise_11 : decode cX4_raise 11 = .ok (.irem, 1) := by decide +kernel
theorem dX4_raise_12 : decode cX4_raise 12 = .ok (.i2l, 1) := by decide +kernel
theorem dX4_raise_13 : decode cX4_raise 13 = .ok (.lstore 5, 2) := by decide +kernel
theorem dX4_raise_15 : decode cX4_raise 15 = .ok (.lload_n 0, 1) := by decide +kernel
theorem dX4_raise_16 : decode cX4_raise 16 = .ok (.iload 4, 2) := by decide +kernel
theorem dX4_raise_18 : decode cX4_raise 18 = .ok (.i2l, 1) := by decide +kernel
theorem dX4_raise_19 : decode cX4_raise 19 = .ok (.lrem, 1) := by decide +kernel
theorem dX4_raise_20 : decode cX4_raise 20 = .ok (.lstore 7, 2) := by decide +kernel
theorem dX4_raise_22 : decode cX4_raise 22 = .ok (.lload_n 2, 1) := by decide +kernel
theorem dX4_raise_23 : decode cX4_raise 23 = .ok (.lstore 9, 2) := by decide +kernel
theorem dX4_raise_25 : decode cX4_raise 25 = .ok (.iconst 0, 1) := by decide +kernel
theorem dX4_raise_26 : decode cX4_raise 26 = .ok (.istore 11, 2) := by decide +kernel
theorem dX4_raise_28 : decode cX4_raise 28 = .ok (.iload 11, 2) := by decide +kernel
theorem dX4_raise_30 : decode cX4_raise 30 = .ok (.bipush 63, 2) := by decide +kernel
theorem dX4_raise_32 : decode cX4_raise 32 = .ok (.if_icmp .ge 53, 3) := by decide +kernel
theorem dX4_raise_35 : decode cX4_raise 35 = .ok (.lload 9, 2) := by decide +kernel
theorem dX4_raise_37 : decode cX4_raise 37 = .ok (.lconst 0, 1) := by decide +kernel
theorem dX4_raise_38 : decode cX4_raise 38 = .ok (.lcmp, 1) := by decide +kernel
theorem dX4_raise_39 : decode cX4_raise 39 = .ok (.ifCond .le 46, 3) := by decide +kernel
theorem dX4_raise_42 : decode cX4_raise 42 = .ok (.lload 9, 2) := by decide +kernel
theorem dX4_raise_44 : decode cX4_raise 44 = .ok (.lconst 1, 1) := by decide +kernel
theorem dX4_raise_45 : decode cX4_raise 45 = .ok (.land, 1) := by decide +kernel
theorem dX4_raise_46 : decode cX4_raise 46 = .ok (.lconst 1, 1) := by decide +kernel
theorem dX4_raise_47 : decode cX4_raise 47 = .ok (.lcmp, 1) := by decide +kernel
theorem dX4_raise_48 : decode cX4_raise 48 = .ok (.ifCond .ne 14, 3) := by decide +kernel
theorem dX4_raise_51 : decode cX4_raise 51 = .ok (.lload 5, 2) := by decide +kernel
theorem dX4_raise_53 : decode cX4_raise 53 = .ok (.lload 7, 2) := by decide +kernel
theorem dX4_raise_55 : decode cX4_raise 55 = .ok (.lmul, 1) := by decide +kernel
theorem dX4_raise_56 : decode cX4_raise 56 = .ok (.iload 4, 2) := by decide +kernel
theorem dX4_raise_58 : decode cX4_raise 58 = .ok (.i2l, 1) := by decide +kernel
theorem dX4_raise_59 : decode cX4_raise 59 = .ok (.lrem, 1) := by decide +kernel
theorem dX4_raise_60 : decode cX4_raise 60 = .ok (.lstore 5, 2) := by decide +kernel
theorem dX4_raise_62 : decode cX4_raise 62 = .ok (.lload 7, 2) := by decide +kernel
theorem dX4_raise_64 : decode cX4_raise 64 = .ok (.lload 7, 2) := by decide +kernel
theorem dX4_raise_66 : decode cX4_raise 66 = .ok (.lmul, 1) := by decide +kernel
theorem dX4_raise_67 : decode cX4_raise 67 = .ok (.iload 4, 2) := by decide +kernel
theorem dX4_raise_69 : decode cX4_raise 69 = .ok (.i2l, 1) := by decide +kernel
theorem dX4_raise_70 : decode cX4_raise 70 = .ok (.lrem, 1) := by decide +kernel
theorem dX4_raise_71 : decode cX4_raise 71 = .ok (.lstore 7, 2) := by decide +kernel
theorem dX4_raise_73 : decode cX4_raise 73 = .ok (.lload 9, 2) := by decide +kernel
theorem dX4_raise_75 : decode cX4_raise 75 = .ok (.iconst 1, 1) := by decide +kernel
theorem dX4_raise_76 : decode cX4_raise 76 = .ok (.lshr, 1) := by decide +kernel
theorem dX4_raise_77 : decode cX4_raise 77 = .ok (.lstore 9, 2) := by decide +kernel
theorem dX4_raise_79 : decode cX4_raise 79 = .ok (.iinc 11 1, 3) := by decide +kernel
theorem dX4_raise_82 : decode cX4_raise 82 = .ok (.goto (-54), 3) := by decide +kernel
theorem dX4_raise_85 : decode cX4_raise 85 = .ok (.lload 5, 2) := by decide +kernel
theorem dX4_raise_87 : decode cX4_raise 87 = .ok (.l2i, 1) := by decide +kernel
theorem dX4_raise_88 : decode cX4_raise 88 = .ok (.ireturn, 1) := by decide +kernel
theorem dX4_commonDivisor_0 : decode cX4_commonDivisor 0 = .ok (.iload_n 0, 1) := by decide +kernel
theorem dX4_commonDivisor_1 : decode cX4_commonDivisor 1 = .ok (.istore_n 2, 1) := by decide +kernel
theorem dX4_commonDivisor_2 : decode cX4_commonDivisor 2 = .ok (.iload_n 1, 1) := by decide +kernel
theorem dX4_commonDivisor_3 : decode cX4_commonDivisor 3 = .ok (.istore_n 3, 1) := by decide +kernel
theorem dX4_commonDivisor_4 : decode cX4_commonDivisor 4 = .ok (.iconst 0, 1) := by decide +kernel
theorem dX4_commonDivisor_5 : decode cX4_commonDivisor 5 = .ok (.istore 4, 2) := by decide +kernel
theorem dX4_commonDivisor_7 : decode cX4_commonDivisor 7 = .ok (.iload 4, 2) := by decide +kernel
theorem dX4_commonDivisor_9 : decode cX4_commonDivisor 9 = .ok (.bipush 64, 2) := by decide +kernel
theorem dX4_commonDivisor_11 : decode cX4_commonDivisor 11 = .ok (.if_icmp .ge 23, 3) := by decide +kernel
theorem dX4_commonDivisor_14 : decode cX4_commonDivisor 14 = .ok (.iload_n 3, 1) := by decide +kernel
theorem dX4_commonDivisor_15 : decode cX4_commonDivisor 15 = .ok (.ifCond .eq 19, 3) := by decide +kernel
theorem dX4_commonDivisor_18 : decode cX4_commonDivisor 18 = .ok (.iload_n 2, 1) := by decide +kernel
theorem dX4_commonDivisor_19 : decode cX4_commonDivisor 19 = .ok (.iload_n 3, 1) := by decide +kernel
theorem dX4_commonDivisor_20 : decode cX4_commonDivisor 20 = .ok (.irem, 1) := by decide +kernel
theorem dX4_commonDivisor_21 : decode cX4_commonDivisor 21 = .ok (.istore 5, 2) := by decide +kernel
theorem dX4_commonDivisor_23 : decode cX4_commonDivisor 23 = .ok (.iload_n 3, 1) := by decide +kernel
theorem dX4_commonDivisor_24 : decode cX4_commonDivisor 24 = .ok (.istore_n 2, 1) := by decide +kernel
theorem dX4_commonDivisor_25 : decode cX4_commonDivisor 25 = .ok (.iload 5, 2) := by decide +kernel
theorem dX4_commonDivisor_27 : decode cX4_commonDivisor 27 = .ok (.istore_n 3, 1) := by decide +kernel
theorem dX4_commonDivisor_28 : decode cX4_commonDivisor 28 = .ok (.iinc 4 1, 3) := by decide +kernel
theorem dX4_commonDivisor_31 : decode cX4_commonDivisor 31 = .ok (.goto (-24), 3) := by decide +kernel
theorem dX4_commonDivisor_34 : decode cX4_commonDivisor 34 = .ok (.iload_n 2, 1) := by decide +kernel
theorem dX4_commonDivisor_35 : decode cX4_commonDivisor 35 = .ok (.ireturn, 1) := by decide +kernel
set_option maxRecDepth 20000 in
theorem ggX4_commonMultiple_X4_commonDivisor : GoodIn wsX4_commonMultiple wsX4_commonDivisor := goodIn_r _ [4] (by decide +kernel) (by decide +kernel)
set_option maxRecDepth 20000 in
theorem gX4_commonMultiple_X4_commonDivisor : GoodIn wsX4_commonMultiple (va_wsS RX4 7 yX4_commonDivisor wsX4_commonDivisor) := goodIn_app (goodIn_of _ (by decide +kernel)) ggX4_commonMultiple_X4_commonDivisor
theorem dX4_commonMultiple_0 : decode cX4_commonMultiple 0 = .ok (.iload_n 0, 1) := by decide +kernel
theorem dX4_commonMultiple_1 : decode cX4_commonMultiple 1 = .ok (.iload_n 1, 1) := by decide +kernel
theorem dX4_commonMultiple_2 : decode cX4_commonMultiple 2 = .ok (.invokestatic 7, 3) := by decide +kernel
theorem dX4_commonMultiple_5 : decode cX4_commonMultiple 5 = .ok (.istore_n 2, 1) := by decide +kernel
theorem dX4_commonMultiple_6 : decode cX4_commonMultiple 6 = .ok (.iload_n 2, 1) := by decide +kernel
theorem dX4_commonMultiple_7 : decode cX4_commonMultiple 7 = .ok (.iconst 1, 1) := by decide +kernel
theorem dX4_commonMultiple_8 : decode cX4_commonMultiple 8 = .ok (.if_icmp .ge 7, 3) := by decide +kernel
theorem dX4_commonMultiple_11 : decode cX4_commonMultiple 11 = .ok (.iconst 0, 1) := by decide +kernel
theorem dX4_commonMultiple_12 : decode cX4_commonMultiple 12 = .ok (.goto 8, 3) := by decide +kernel
theorem dX4_commonMultiple_15 : decode cX4_commonMultiple 15 = .ok (.iload_n 0, 1) := by decide +kernel
theorem dX4_commonMultiple_16 : decode cX4_commonMultiple 16 = .ok (.iload_n 2, 1) := by decide +kernel
theorem dX4_commonMultiple_17 : decode cX4_commonMultiple 17 = .ok (.idiv, 1) := by decide +kernel
theorem dX4_commonMultiple_18 : decode cX4_commonMultiple 18 = .ok (.iload_n 1, 1) := by decide +kernel
theorem dX4_commonMultiple_19 : decode cX4_commonMultiple 19 = .ok (.imul, 1) := by decide +kernel
theorem dX4_commonMultiple_20 : decode cX4_commonMultiple 20 = .ok (.ireturn, 1) := by decide +kernel
theorem dX4_isPrime_0 : decode cX4_isPrime 0 = .ok (.iconst 2, 1) := by decide +kernel
theorem dX4_isPrime_1 : decode cX4_isPrime 1 = .ok (.istore_n 1, 1) := by decide +kernel
theorem dX4_isPrime_2 : decode cX4_isPrime 2 = .ok (.iload_n 1, 1) := by decide +kernel
theorem dX4_isPrime_3 : decode cX4_isPrime 3 = .ok (.sipush 1000, 3) := by decide +kernel
theorem dX4_isPrime_6 : decode cX4_isPrime 6 = .ok (.if_icmp .ge 24, 3) := by decide +kernel
theorem dX4_isPrime_9 : decode cX4_isPrime 9 = .ok (.iload_n 1, 1) := by decide +kernel
theorem dX4_isPrime_10 : decode cX4_isPrime 10 = .ok (.iload_n 1, 1) := by decide +kernel
theorem dX4_isPrime_11 : decode cX4_isPrime 11 = .ok (.imul, 1) := by decide +kernel
theorem dX4_isPrime_12 : decode cX4_isPrime 12 = .ok (.iload_n 0, 1) := by decide +kernel
theorem dX4_isPrime_13 : decode cX4_isPrime 13 = .ok (.if_icmp .gt 17, 3) := by decide +kernel
theorem dX4_isPrime_16 : decode cX4_isPrime 16 = .ok (.iload_n 0, 1) := by decide +kernel
theorem dX4_isPrime_17 : decode cX4_isPrime 17 = .ok (.iload_n 1, 1) := by decide +kernel
theorem dX4_isPrime_18 : decode cX4_isPrime 18 = .ok (.irem, 1) := by decide +kernel
theorem dX4_isPrime_19 : decode cX4_isPrime 19 = .ok (.ifCond .ne 5, 3) := by decide +kernel
theorem dX4_isPrime_22 : decode cX4_isPrime 22 = .ok (.iconst 0, 1) := by decide +kernel
theorem dX4_isPrime_23 : decode cX4_isPrime 23 = .ok (.ireturn, 1) := by decide +kernel
theorem dX4_isPrime_24 : decode cX4_isPrime 24 = .ok (.iinc 1 1, 3) := by decide +kernel
theorem dX4_isPrime_27 : decode cX4_isPrime 27 = .ok (.goto (-25), 3) := by decide +kernel
theorem dX4_isPrime_30 : decode cX4_isPrime 30 = .ok (.iload_n 0, 1) := by decide +kernel
theorem dX4_isPrime_31 : decode cX4_isPrime 31 = .ok (.iconst 1, 1) := by decide +kernel
theorem dX4_isPrime_32 : decode cX4_isPrime 32 = .ok (.if_icmp .le 7, 3) := by decide +kernel
theorem dX4_isPrime_35 : decode cX4_isPrime 35 = .ok (.iconst 1, 1) := by decide +kernel
theorem dX4_isPrime_36 : decode cX4_isPrime 36 = .ok (.goto 4, 3) := by decide +kernel
theorem dX4_isPrime_39 : decode cX4_isPrime 39 = .ok (.iconst 0, 1) := by decide +kernel
theorem dX4_isPrime_40 : decode cX4_isPrime 40 = .ok (.ireturn, 1) := by decide +kernel
theorem dX4_twosOf_0 : decode cX4_twosOf 0 = .ok (.iload_n 0, 1) := by decide +kernel
theorem dX4_twosOf_1 : decode cX4_twosOf 1 = .ok (.istore_n 1, 1) := by decide +kernel
theorem dX4_twosOf_2 : decode cX4_twosOf 2 = .ok (.iconst 0, 1) := by decide +kernel
theorem dX4_twosOf_3 : decode cX4_twosOf 3 = .ok (.istore_n 2, 1) := by decide +kernel
theorem dX4_twosOf_4 : decode cX4_twosOf 4 = .ok (.iload_n 2, 1) := by decide +kernel
theorem dX4_twosOf_5 : decode cX4_twosOf 5 = .ok (.bipush 31, 2) := by decide +kernel
theorem dX4_twosOf_7 : decode cX4_twosOf 7 = .ok (.if_icmp .ge 21, 3) := by decide +kernel
theorem dX4_twosOf_10 : decode cX4_twosOf 10 = .ok (.iload_n 1, 1) := by decide +kernel
theorem dX4_twosOf_11 : decode cX4_twosOf 11 = .ok (.iconst 2, 1) := by decide +kernel
theorem dX4_twosOf_12 : decode cX4_twosOf 12 = .ok (.irem, 1) := by decide +kernel
theorem dX4_twosOf_13 : decode cX4_twosOf 13 = .ok (.ifCond .eq 5, 3) := by decide +kernel
theorem dX4_twosOf_16 : decode cX4_twosOf 16 = .ok (.iload_n 2, 1) := by decide +kernel
theorem dX4_twosOf_17 : decode cX4_twosOf 17 = .ok (.ireturn, 1) := by decide +kernel
theorem dX4_twosOf_18 : decode cX4_twosOf 18 = .ok (.iload_n 1, 1) := by decide +kernel
theorem dX4_twosOf_19 : decode cX4_twosOf 19 = .ok (.iconst 2, 1) := by decide +kernel
theorem dX4_twosOf_20 : decode cX4_twosOf 20 = .ok (.idiv, 1) := by decide +kernel
theorem dX4_twosOf_21 : decode cX4_twosOf 21 = .ok (.istore_n 1, 1) := by decide +kernel
theorem dX4_twosOf_22 : decode cX4_twosOf 22 = .ok (.iinc 2 1, 3) := by decide +kernel
theorem dX4_twosOf_25 : decode cX4_twosOf 25 = .ok (.goto (-21), 3) := by decide +kernel
theorem dX4_twosOf_28 : decode cX4_twosOf 28 = .ok (.bipush 31, 2) := by decide +kernel
theorem dX4_twosOf_30 : decode cX4_twosOf 30 = .ok (.ireturn, 1) := by decide +kernel
set_option maxRecDepth 20000 in
theorem ggX4_oddPart_X4_twosOf : GoodIn wsX4_oddPart wsX4_twosOf := goodIn_r _ [4] (by decide +kernel) (by decide +kernel)
set_option maxRecDepth 20000 in
theorem gX4_oddPart_X4_twosOf : GoodIn wsX4_oddPart (va_wsS RX4 13 yX4_twosOf wsX4_twosOf) := goodIn_app (goodIn_of _ (by decide +kernel)) ggX4_oddPart_X4_twosOf
theorem dX4_oddPart_0 : decode cX4_oddPart 0 = .ok (.iload_n 0, 1) := by decide +kernel
theorem dX4_oddPart_1 : decode cX4_oddPart 1 = .ok (.iload_n 0, 1) := by decide +kernel
theorem dX4_oddPart_2 : decode cX4_oddPart 2 = .ok (.invokestatic 13, 3) := by decide +kernel
theorem dX4_oddPart_5 : decode cX4_oddPart 5 = .ok (.ishr, 1) := by decide +kernel
theorem dX4_oddPart_6 : decode cX4_oddPart 6 = .ok (.ireturn, 1) := by decide +kernel
set_option maxRecDepth 20000 in
theorem ggX4_looksStrongly_X4_twosOf : GoodIn wsX4_looksStrongly wsX4_twosOf := goodIn_r _ [4] (by decide +kernel) (by decide +kernel)
set_option maxRecDepth 20000 in
theorem gX4_looksStrongly_X4_twosOf : GoodIn wsX4_looksStrongly (va_wsS RX4 13 yX4_twosOf wsX4_twosOf) := goodIn_app (goodIn_of _ (by decide +kernel)) ggX4_looksStrongly_X4_twosOf
set_option maxRecDepth 20000 in
theorem ggX4_looksStrongly_X4_oddPart : GoodIn wsX4_looksStrongly wsX4_oddPart := goodIn_r _ [7, 1, 2, 3, 4] (by decide +kernel) (by decide +kernel)
set_option maxRecDepth 20000 in
theorem gX4_looksStrongly_X4_oddPart : GoodIn wsX4_looksStrongly (va_wsS RX4 17 yX4_oddPart wsX4_oddPart) := goodIn_app (goodIn_of _ (by decide +kernel)) ggX4_looksStrongly_X4_oddPart
set_option maxRecDepth 20000 in
theorem ggX4_looksStrongly_X4_raise : GoodIn wsX4_looksStrongly wsX4_raise := goodIn_r _ [10] (by decide +kernel) (by decide +kernel)
set_option maxRecDepth 20000 in
theorem gX4_looksStrongly_X4_raise : GoodIn wsX4_looksStrongly (va_wsS RX4 20 yX4_raise wsX4_raise) := goodIn_app (goodIn_of _ (by decide +kernel)) ggX4_looksStrongly_X4_raise
theorem dX4_looksStrongly_0 : decode cX4_looksStrongly 0 = .ok (.iload_n 0, 1) := by decide +kernel
theorem dX4_looksStrongly_1 : decode cX4_looksStrongly 1 = .ok (.iconst 1, 1) := by decide +kernel
theorem dX4_looksStrongly_2 : decode cX4_looksStrongly 2 = .ok (.isub, 1) := by decide +kernel
theorem dX4_looksStrongly_3 : decode cX4_looksStrongly 3 = .ok (.invokestatic 13, 3) := by decide +kernel
theorem dX4_looksStrongly_6 : decode cX4_looksStrongly 6 = .ok (.istore_n 2, 1) := by decide +kernel
theorem dX4_looksStrongly_7 : decode cX4_looksStrongly 7 = .ok (.iload_n 1, 1) := by decide +kernel
theorem dX4_looksStrongly_8 : decode cX4_looksStrongly 8 = .ok (.i2l, 1) := by decide +kernel
theorem dX4_looksStrongly_9 : decode cX4_looksStrongly 9 = .ok (.iload_n 0, 1) := by decide +kernel
theorem dX4_looksStrongly_10 : decode cX4_looksStrongly 10 = .ok (.iconst 1, 1) := by decide +kernel
theorem dX4_looksStrongly_11 : decode cX4_looksStrongly 11 = .ok (.isub, 1) := by decide +kernel
theorem dX4_looksStrongly_12 : decode cX4_looksStrongly 12 = .ok (.invokestatic 17, 3) := by decide +kernel
theorem dX4_looksStrongly_15 : decode cX4_looksStrongly 15 = .ok (.i2l, 1) := by decide +kernel
theorem dX4_looksStrongly_16 : decode cX4_looksStrongly 16 = .ok (.iload_n 0, 1) := by decide +kernel
theorem dX4_looksStrongly_17 : decode cX4_looksStrongly 17 = .ok (.invokestatic 20, 3) := by decide +kernel
theorem dX4_looksStrongly_20 : decode cX4_looksStrongly 20 = .ok (.i2l, 1) := by decide +kernel
theorem dX4_looksStrongly_21 : decode cX4_looksStrongly 21 = .ok (.lstore_n 3, 1) := by decide +kernel
theorem dX4_looksStrongly_22 : decode cX4_looksStrongly 22 = .ok (.lload_n 3, 1) := by decide +kernel
theorem dX4_looksStrongly_23 : decode cX4_looksStrongly 23 = .ok (.lconst 1, 1) := by decide +kernel
theorem dX4_looksStrongly_24 : decode cX4_looksStrongly 24 = .ok (.lcmp, 1) := by decide +kernel
theorem dX4_looksStrongly_25 : decode cX4_looksStrongly 25 = .ok (.ifCond .ne 5, 3) := by decide +kernel
theorem dX4_looksStrongly_28 : decode cX4_looksStrongly 28 = .ok (.iconst 1, 1) := by decide +kernel
theorem dX4_looksStrongly_29 : decode cX4_looksStrongly 29 = .ok (.ireturn, 1) := by decide +kernel
theorem dX4_looksStrongly_30 : decode cX4_looksStrongly 30 = .ok (.iconst 0, 1) := by decide +kernel
theorem dX4_looksStrongly_31 : decode cX4_looksStrongly 31 = .ok (.istore 5, 2) := by decide +kernel
theorem dX4_looksStrongly_33 : decode cX4_looksStrongly 33 = .ok (.iload 5, 2) := by decide +kernel
theorem dX4_looksStrongly_35 : decode cX4_looksStrongly 35 = .ok (.iload_n 2, 1) := by decide +kernel
theorem dX4_looksStrongly_36 : decode cX4_looksStrongly 36 = .ok (.if_icmp .ge 31, 3) := by decide +kernel
theorem dX4_looksStrongly_39 : decode cX4_looksStrongly 39 = .ok (.iload_n 0, 1) := by decide +kernel
theorem dX4_looksStrongly_40 : decode cX4_looksStrongly 40 = .ok (.ifCond .le 27, 3) := by decide +kernel
theorem dX4_looksStrongly_43 : decode cX4_looksStrongly 43 = .ok (.lload_n 3, 1) := by decide +kernel
theorem dX4_looksStrongly_44 : decode cX4_looksStrongly 44 = .ok (.iload_n 0, 1) := by decide +kernel
theorem dX4_looksStrongly_45 : decode cX4_looksStrongly 45 = .ok (.iconst 1, 1) := by decide +kernel
theorem dX4_looksStrongly_46 : decode cX4_looksStrongly 46 = .ok (.isub, 1) := by decide +kernel
theorem dX4_looksStrongly_47 : decode cX4_looksStrongly 47 = .ok (.i2l, 1) := by decide +kernel
theorem dX4_looksStrongly_48 : decode cX4_looksStrongly 48 = .ok (.lcmp, 1) := by decide +kernel
theorem dX4_looksStrongly_49 : decode cX4_looksStrongly 49 = .ok (.ifCond .ne 5, 3) := by decide +kernel
theorem dX4_looksStrongly_52 : decode cX4_looksStrongly 52 = .ok (.iconst 1, 1) := by decide +kernel
theorem dX4_looksStrongly_53 : decode cX4_looksStrongly 53 = .ok (.ireturn, 1) := by decide +kernel
theorem dX4_looksStrongly_54 : decode cX4_looksStrongly 54 = .ok (.lload_n 3, 1) := by decide +kernel
theorem dX4_looksStrongly_55 : decode cX4_looksStrongly 55 = .ok (.lload_n 3, 1) := by decide +kernel
theorem dX4_looksStrongly_56 : decode cX4_looksStrongly 56 = .ok (.lmul, 1) := by decide +kernel
theorem dX4_looksStrongly_57 : decode cX4_looksStrongly 57 = .ok (.iload_n 0, 1) := by decide +kernel
theorem dX4_looksStrongly_58 : decode cX4_looksStrongly 58 = .ok (.i2l, 1) := by decide +kernel
theorem dX4_looksStrongly_59 : decode cX4_looksStrongly 59 = .ok (.lrem, 1) := by decide +kernel
theorem dX4_looksStrongly_60 : decode cX4_looksStrongly 60 = .ok (.lstore_n 3, 1) := by decide +kernel
theorem dX4_looksStrongly_61 : decode cX4_looksStrongly 61 = .ok (.iinc 5 1, 3) := by decide +kernel
theorem dX4_looksStrongly_64 : decode cX4_looksStrongly 64 = .ok (.goto (-31), 3) := by decide +kernel
theorem dX4_looksStrongly_67 : decode cX4_looksStrongly 67 = .ok (.iconst 0, 1) := by decide +kernel
theorem dX4_looksStrongly_68 : decode cX4_looksStrongly 68 = .ok (.ireturn, 1) := by decide +kernel
theorem dX5_init_0 : decode cX5_init 0 = .ok (.aload_n 0, 1) := by decide +kernel
theorem dX5_init_1 : decode cX5_init 1 = .ok (.invokespecial 1, 3) := by decide +kernel
theorem dX5_init_4 : decode cX5_init 4 = .ok (.aload_n 0, 1) := by decide +kernel
theorem dX5_init_5 : decode cX5_init 5 = .ok (.sipush 200, 3) := by decide +kernel
theorem dX5_init_8 : decode cX5_init 8 = .ok (.newarray .int, 2) := by decide +kernel
theorem dX5_init_10 : decode cX5_init 10 = .ok (.putfield 7, 3) := by decide +kernel
theorem dX5_init_13 : decode cX5_init 13 = .ok (.return_, 1) := by decide +kernel
theorem dX5_hasRoom_0 : decode cX5_hasRoom 0 = .ok (.aload_n 0, 1) := by decide +kernel
theorem dX5_hasRoom_1 : decode cX5_hasRoom 1 = .ok (.getfield 13, 3) := by decide +kernel
theorem dX5_hasRoom_4 : decode cX5_hasRoom 4 = .ok (.iload_n 1, 1) := by decide +kernel
theorem dX5_hasRoom_5 : decode cX5_hasRoom 5 = .ok (.iadd, 1) := by decide +kernel
theorem dX5_hasRoom_6 : decode cX5_hasRoom 6 = .ok (.aload_n 0, 1) := by decide +kernel
theorem dX5_hasRoom_7 : decode cX5_hasRoom 7 = .ok (.getfield 7, 3) := by decide +kernel
theorem dX5_hasRoom_10 : decode cX5_hasRoom 10 = .ok (.arraylength, 1) := by decide +kernel
theorem dX5_hasRoom_11 : decode cX5_hasRoom 11 = .ok (.if_icmp .gt 7, 3) := by decide +kernel
theorem dX5_hasRoom_14 : decode cX5_hasRoom 14 = .ok (.iconst 1, 1) := by decide +kernel
theorem dX5_hasRoom_15 : decode cX5_hasRoom 15 = .ok (.goto 4, 3) := by decide +kernel
theorem dX5_hasRoom_18 : decode cX5_hasRoom 18 = .ok (.iconst 0, 1) := by decide +kernel
theorem dX5_hasRoom_19 : decode cX5_hasRoom 19 = .ok (.ireturn, 1) := by decide +kernel
theorem dX5_append_0 : decode cX5_append 0 = .ok (.iload_n 1, 1) := by decide +kernel
theorem dX5_append_1 : decode cX5_append 1 = .ok (.iconst 1, 1) := by decide +kernel
theorem dX5_append_2 : decode cX5_append 2 = .ok (.isub, 1) := by decide +kernel
theorem dX5_append_3 : decode cX5_append 3 = .ok (.istore 4, 2) := by decide +kernel
theorem dX5_append_5 : decode cX5_append 5 = .ok (.iload 4, 2) := by decide +kernel
theorem dX5_append_7 : decode cX5_append 7 = .ok (.ifCond .lt 52, 3) := by decide +kernel
theorem dX5_append_10 : decode cX5_append 10 = .ok (.aload_n 0, 1) := by decide +kernel
theorem dX5_append_11 : decode cX5_append 11 = .ok (.getfield 13, 3) := by decide +kernel
theorem dX5_append_14 : decode cX5_append 14 = .ok (.aload_n 0, 1) := by decide +kernel
theorem dX5_append_15 : decode cX5_append 15 = .ok (.getfield 7, 3) := by decide +kernel
theorem dX5_append_18 : decode cX5_append 18 = .ok (.arraylength, 1) := by decide +kernel
theorem dX5_append_19 : decode cX5_append 19 = .ok (.if_icmp .ge 40, 3) := by decide +kernel
theorem dX5_append_22 : decode cX5_append 22 = .ok (.aload_n 0, 1) := by decide +kernel
theorem dX5_append_23 : decode cX5_append 23 = .ok (.getfield 7, 3) := by decide +kernel
theorem dX5_append_26 : decode cX5_append 26 = .ok (.aload_n 0, 1) := by decide +kernel
theorem dX5_append_27 : decode cX5_append 27 = .ok (.getfield 13, 3) := by decide +kernel
theorem dX5_append_30 : decode cX5_append 30 = .ok (.lload_n 2, 1) := by decide +kernel
theorem dX5_append_31 : decode cX5_append 31 = .ok (.bipush 8, 2) := by decide +kernel
theorem dX5_append_33 : decode cX5_append 33 = .ok (.iload 4, 2) := by decide +kernel
theorem dX5_append_35 : decode cX5_append 35 = .ok (.imul, 1) := by decide +kernel
theorem dX5_append_36 : decode cX5_append 36 = .ok (.lushr, 1) := by decide +kernel
theorem dX5_append_37 : decode cX5_append 37 = .ok (.l2i, 1) := by decide +kernel
theorem dX5_append_38 : decode cX5_append 38 = .ok (.sipush 255, 3) := by decide +kernel
theorem dX5_append_41 : decode cX5_append 41 = .ok (.iand, 1) := by decide +kernel
theorem dX5_append_42 : decode cX5_append 42 = .ok (.iastore, 1) := by decide +kernel
theorem dX5_append_43 : decode cX5_append 43 = .ok (.aload_n 0, 1) := by decide +kernel
theorem dX5_append_44 : decode cX5_append 44 = .ok (.dup, 1) := by decide +kernel
theorem dX5_append_45 : decode cX5_append 45 = .ok (.getfield 13, 3) := by decide +kernel
theorem dX5_append_48 : decode cX5_append 48 = .ok (.iconst 1, 1) := by decide +kernel
theorem dX5_append_49 : decode cX5_append 49 = .ok (.iadd, 1) := by decide +kernel
theorem dX5_append_50 : decode cX5_append 50 = .ok (.putfield 13, 3) := by decide +kernel
theorem dX5_append_53 : decode cX5_append 53 = .ok (.iinc 4 (-1), 3) := by decide +kernel
theorem dX5_append_56 : decode cX5_append 56 = .ok (.goto (-51), 3) := by decide +kernel
theorem dX5_append_59 : decode cX5_append 59 = .ok (.return_, 1) := by decide +kernel
theorem dX5_at_0 : decode cX5_at 0 = .ok (.iload_n 1, 1) := by decide +kernel
theorem dX5_at_1 : decode cX5_at 1 = .ok (.ifCond .lt 20, 3) := by decide +kernel
theorem dX5_at_4 : decode cX5_at 4 = .ok (.iload_n 1, 1) := by decide +kernel
theorem dX5_at_5 : decode cX5_at 5 = .ok (.aload_n 0, 1) := by decide +kernel
theorem dX5_at_6 : decode cX5_at 6 = .ok (.getfield 13, 3) := by decide +kernel
theorem dX5_at_9 : decode cX5_at 9 = .ok (.if_icmp .ge 12, 3) := by decide +kernel
theorem dX5_at_12 : decode cX5_at 12 = .ok (.aload_n 0, 1) := by decide +kernel
theorem dX5_at_13 : decode cX5_at 13 = .ok (.getfield 7, 3) := by decide +kernel
theorem dX5_at_16 : decode cX5_at 16 = .ok (.iload_n 1, 1) := by decide +kernel
theorem dX5_at_17 : decode cX5_at 17 = .ok (.iaload, 1) := by decide +kernel
theorem dX5_at_18 : decode cX5_at 18 = .ok (.goto 4, 3) := by decide +kernel
theorem dX5_at_21 : decode cX5_at 21 = .ok (.iconst (-1), 1) := by decide +kernel
theorem dX5_at_22 : decode cX5_at 22 = .ok (.ireturn, 1) := by decide +kernel
set_option maxRecDepth 20000 in
theorem ggX6_init_X0_init : GoodIn wsX6_init wsX0_init := goodIn_r _ [29, 30, 2, 3, 25, 31, 32, 56, 57, 58] (by decide +kernel) (by decide +kernel)
set_option maxRecDepth 20000 in
theorem gX6_init_X0_init_n9 : GoodIn wsX6_init (wsX0_init) := ggX6_init_X0_init
set_option maxRecDepth 20000 in
theorem ggX6_init_X3_init : GoodIn wsX6_init wsX3_init := goodIn_r _ [34, 35, 2, 3, 36, 25, 37, 69, 70] (by decide +kernel) (by decide +kernel)
set_option maxRecDepth 20000 in
theorem gX6_init_X3_init_n21 : GoodIn wsX6_init (wsX3_init) := ggX6_init_X3_init
set_option maxRecDepth 20000 in
theorem ggX6_init_X5_init : GoodIn wsX6_init wsX5_init := goodIn_r _ [39, 40, 2, 3, 25, 41, 71, 72] (by decide +kernel) (by decide +kernel)
set_option maxRecDepth 20000 in
theorem gX6_init_X5_init_n28 : GoodIn wsX6_init (wsX5_init) := ggX6_init_X5_init
set_option maxRecDepth 20000 in
theorem ggX6_init_X1_init : GoodIn wsX6_init wsX1_init := goodIn_r _ [43, 44, 2, 3] (by decide +kernel) (by decide +kernel)
set_option maxRecDepth 20000 in
theorem gX6_init_X1_init_n35 : GoodIn wsX6_init (wsX1_init) := ggX6_init_X1_init
set_option maxRecDepth 20000 in
theorem ggX6_init_X2_init : GoodIn wsX6_init wsX2_init := goodIn_r _ [46, 47, 2, 3, 48, 49, 50, 25, 51, 52, 53, 54, 55, 78, 79, 80, 81, 82, 83] (by decide +kernel) (by decide +kernel)
set_option maxRecDepth 20000 in
theorem gX6_init_X2_init_n42 : GoodIn wsX6_init (wsX2_init) := ggX6_init_X2_init
theorem dX6_init_0 : decode cX6_init 0 = .ok (.aload_n 0, 1) := by decide +kernel
theorem dX6_init_1 : decode cX6_init 1 = .ok (.invokespecial 1, 3) := by decide +kernel
theorem dX6_init_4 : decode cX6_init 4 = .ok (.aload_n 0, 1) := by decide +kernel
end
section
theorem dX6_init_5 : decode cX6_init 5 = .ok (.new 7, 3) := by decide +kernel
theorem dX6_init_8 : decode cX6_init 8 = .ok (.dup, 1) := by decide +kernel
theorem dX6_init_9 : decode cX6_init 9 = .ok (.invokespecial 9, 3) := by decide +kernel
theorem dX6_init_12 : decode cX6_init 12 = .ok (.putfield 10, 3) := by decide +kernel
theorem dX6_init_15 : decode cX6_init 15 = .ok (.aload_n 0, 1) := by decide +kernel
theorem dX6_init_16 : decode cX6_init 16 = .ok (.new 7, 3) := by decide +kernel
theorem dX6_init_19 : decode cX6_init 19 = .ok (.dup, 1) := by decide +kernel
theorem dX6_init_20 : decode cX6_init 20 = .ok (.invokespecial 9, 3) := by decide +kernel
theorem dX6_init_23 : decode cX6_init 23 = .ok (.putfield 16, 3) := by decide +kernel
theorem dX6_init_26 : decode cX6_init 26 = .ok (.aload_n 0, 1) := by decide +kernel
theorem dX6_init_27 : decode cX6_init 27 = .ok (.new 19, 3) := by decide +kernel
theorem dX6_init_30 : decode cX6_init 30 = .ok (.dup, 1) := by decide +kernel
theorem dX6_init_31 : decode cX6_init 31 = .ok (.invokespecial 21, 3) := by decide +kernel
theorem dX6_init_34 : decode cX6_init 34 = .ok (.putfield 22, 3) := by decide +kernel
theorem dX6_init_37 : decode cX6_init 37 = .ok (.aload_n 0, 1) := by decide +kernel
theorem dX6_init_38 : decode cX6_init 38 = .ok (.new 26, 3) := by decide +kernel
theorem dX6_init_41 : decode cX6_init 41 = .ok (.dup, 1) := by decide +kernel
theorem dX6_init_42 : decode cX6_init 42 = .ok (.invokespecial 28, 3) := by decide +kernel
theorem dX6_init_45 : decode cX6_init 45 = .ok (.putfield 29, 3) := by decide +kernel
theorem dX6_init_48 : decode cX6_init 48 = .ok (.aload_n 0, 1) := by decide +kernel
theorem dX6_init_49 : decode cX6_init 49 = .ok (.new 33, 3) := by decide +kernel
theorem dX6_init_52 : decode cX6_init 52 = .ok (.dup, 1) := by decide +kernel
theorem dX6_init_53 : decode cX6_init 53 = .ok (.invokespecial 35, 3) := by decide +kernel
theorem dX6_init_56 : decode cX6_init 56 = .ok (.putfield 36, 3) := by decide +kernel
theorem dX6_init_59 : decode cX6_init 59 = .ok (.aload_n 0, 1) := by decide +kernel
theorem dX6_init_60 : decode cX6_init 60 = .ok (.new 40, 3) := by decide +kernel
theorem dX6_init_63 : decode cX6_init 63 = .ok (.dup, 1) := by decide +kernel
theorem dX6_init_64 : decode cX6_init 64 = .ok (.invokespecial 42, 3) := by decide +kernel
theorem dX6_init_67 : decode cX6_init 67 = .ok (.putfield 43, 3) := by decide +kernel
theorem dX6_init_70 : decode cX6_init 70 = .ok (.aload_n 0, 1) := by decide +kernel
theorem dX6_init_71 : decode cX6_init 71 = .ok (.bipush 7, 2) := by decide +kernel
theorem dX6_init_73 : decode cX6_init 73 = .ok (.newarray .int, 2) := by decide +kernel
theorem dX6_init_75 : decode cX6_init 75 = .ok (.putfield 47, 3) := by decide +kernel
theorem dX6_init_78 : decode cX6_init 78 = .ok (.aload_n 0, 1) := by decide +kernel
theorem dX6_init_79 : decode cX6_init 79 = .ok (.bipush 16, 2) := by decide +kernel
theorem dX6_init_81 : decode cX6_init 81 = .ok (.newarray .int, 2) := by decide +kernel
theorem dX6_init_83 : decode cX6_init 83 = .ok (.putfield 51, 3) := by decide +kernel
theorem dX6_init_86 : decode cX6_init 86 = .ok (.return_, 1) := by decide +kernel
set_option maxRecDepth 20000 in
theorem ggX6_units_X6_isDivisor : GoodIn wsX6_units wsX6_isDivisor := goodIn_r _ [5, 6] (by decide +kernel) (by decide +kernel)
set_option maxRecDepth 20000 in
theorem gX6_units_X6_isDivisor : GoodIn wsX6_units (va_wsS RX6 54 yX6_isDivisor wsX6_isDivisor) := goodIn_app (goodIn_of _ (by decide +kernel)) ggX6_units_X6_isDivisor
set_option maxRecDepth 20000 in
theorem ggX6_units_X0_split : GoodIn wsX6_units wsX0_split := goodIn_r _ [11, 12, 13, 14, 15, 10, 16, 17, 18, 45, 46, 47] (by decide +kernel) (by decide +kernel)
set_option maxRecDepth 20000 in
theorem gX6_units_X0_split : GoodIn wsX6_units (wsV RX6 58 RX0 yX0_split wsX0_split) := goodIn_app (goodIn_of _ (by decide +kernel)) ggX6_units_X0_split
set_option maxRecDepth 20000 in
theorem ggX6_units_X0_unitCount : GoodIn wsX6_units wsX0_unitCount := goodIn_r _ [22, 12, 23, 24, 25, 10, 26, 17, 27, 28, 29, 30, 18, 45, 46, 47] (by decide +kernel) (by decide +kernel)
set_option maxRecDepth 20000 in
theorem gX6_units_X0_unitCount : GoodIn wsX6_units (wsV RX6 62 RX0 yX0_unitCount wsX0_unitCount) := goodIn_app (goodIn_of _ (by decide +kernel)) ggX6_units_X0_unitCount
set_option maxRecDepth 20000 in
theorem ggX6_units_X0_sharesWith : GoodIn wsX6_units wsX0_sharesWith := goodIn_r _ [34, 12, 17, 45, 46, 47] (by decide +kernel) (by decide +kernel)
set_option maxRecDepth 20000 in
theorem gX6_units_X0_sharesWith : GoodIn wsX6_units (wsV RX6 66 RX0 yX0_sharesWith wsX0_sharesWith) := goodIn_app (goodIn_of _ (by decide +kernel)) ggX6_units_X0_sharesWith
theorem dX6_units_0 : decode cX6_units 0 = .ok (.iload_n 1, 1) := by decide +kernel
theorem dX6_units_1 : decode cX6_units 1 = .ok (.invokestatic 54, 3) := by decide +kernel
theorem dX6_units_4 : decode cX6_units 4 = .ok (.ifCond .eq 8, 3) := by decide +kernel
theorem dX6_units_7 : decode cX6_units 7 = .ok (.iload_n 2, 1) := by decide +kernel
theorem dX6_units_8 : decode cX6_units 8 = .ok (.iconst (-1), 1) := by decide +kernel
theorem dX6_units_9 : decode cX6_units 9 = .ok (.if_icmp .ge 5, 3) := by decide +kernel
theorem dX6_units_12 : decode cX6_units 12 = .ok (.iconst (-1), 1) := by decide +kernel
theorem dX6_units_13 : decode cX6_units 13 = .ok (.ireturn, 1) := by decide +kernel
theorem dX6_units_14 : decode cX6_units 14 = .ok (.aload_n 0, 1) := by decide +kernel
theorem dX6_units_15 : decode cX6_units 15 = .ok (.getfield 10, 3) := by decide +kernel
theorem dX6_units_18 : decode cX6_units 18 = .ok (.iload_n 1, 1) := by decide +kernel
theorem dX6_units_19 : decode cX6_units 19 = .ok (.invokevirtual 58, 3) := by decide +kernel
theorem dX6_units_22 : decode cX6_units 22 = .ok (.iload_n 2, 1) := by decide +kernel
theorem dX6_units_23 : decode cX6_units 23 = .ok (.iconst (-1), 1) := by decide +kernel
theorem dX6_units_24 : decode cX6_units 24 = .ok (.if_icmp .ne 11, 3) := by decide +kernel
theorem dX6_units_27 : decode cX6_units 27 = .ok (.aload_n 0, 1) := by decide +kernel
theorem dX6_units_28 : decode cX6_units 28 = .ok (.getfield 10, 3) := by decide +kernel
theorem dX6_units_31 : decode cX6_units 31 = .ok (.invokevirtual 62, 3) := by decide +kernel
theorem dX6_units_34 : decode cX6_units 34 = .ok (.ireturn, 1) := by decide +kernel
theorem dX6_units_35 : decode cX6_units 35 = .ok (.iconst 0, 1) := by decide +kernel
theorem dX6_units_36 : decode cX6_units 36 = .ok (.istore_n 3, 1) := by decide +kernel
theorem dX6_units_37 : decode cX6_units 37 = .ok (.iconst 1, 1) := by decide +kernel
theorem dX6_units_38 : decode cX6_units 38 = .ok (.istore 4, 2) := by decide +kernel
theorem dX6_units_40 : decode cX6_units 40 = .ok (.iload 4, 2) := by decide +kernel
theorem dX6_units_42 : decode cX6_units 42 = .ok (.iload_n 1, 1) := by decide +kernel
theorem dX6_units_43 : decode cX6_units 43 = .ok (.if_icmp .ge 32, 3) := by decide +kernel
theorem dX6_units_46 : decode cX6_units 46 = .ok (.aload_n 0, 1) := by decide +kernel
theorem dX6_units_47 : decode cX6_units 47 = .ok (.getfield 10, 3) := by decide +kernel
theorem dX6_units_50 : decode cX6_units 50 = .ok (.iload 4, 2) := by decide +kernel
theorem dX6_units_52 : decode cX6_units 52 = .ok (.invokevirtual 66, 3) := by decide +kernel
theorem dX6_units_55 : decode cX6_units 55 = .ok (.ifCond .ne 14, 3) := by decide +kernel
theorem dX6_units_58 : decode cX6_units 58 = .ok (.iload_n 3, 1) := by decide +kernel
theorem dX6_units_59 : decode cX6_units 59 = .ok (.iload_n 2, 1) := by decide +kernel
theorem dX6_units_60 : decode cX6_units 60 = .ok (.if_icmp .ne 6, 3) := by decide +kernel
theorem dX6_units_63 : decode cX6_units 63 = .ok (.iload 4, 2) := by decide +kernel
theorem dX6_units_65 : decode cX6_units 65 = .ok (.ireturn, 1) := by decide +kernel
theorem dX6_units_66 : decode cX6_units 66 = .ok (.iinc 3 1, 3) := by decide +kernel
theorem dX6_units_69 : decode cX6_units 69 = .ok (.iinc 4 1, 3) := by decide +kernel
theorem dX6_units_72 : decode cX6_units 72 = .ok (.goto (-32), 3) := by decide +kernel
theorem dX6_units_75 : decode cX6_units 75 = .ok (.bipush (-4), 2) := by decide +kernel
theorem dX6_units_77 : decode cX6_units 77 = .ok (.ireturn, 1) := by decide +kernel
set_option maxRecDepth 20000 in
theorem ggX6_order_X6_isDivisor : GoodIn wsX6_order wsX6_isDivisor := goodIn_r _ [5, 6] (by decide +kernel) (by decide +kernel)
set_option maxRecDepth 20000 in
theorem gX6_order_X6_isDivisor : GoodIn wsX6_order (va_wsS RX6 54 yX6_isDivisor wsX6_isDivisor) := goodIn_app (goodIn_of _ (by decide +kernel)) ggX6_order_X6_isDivisor
set_option maxRecDepth 20000 in
theorem ggX6_order_X6_isRest : GoodIn wsX6_order wsX6_isRest := goodIn_r _ [9] (by decide +kernel) (by decide +kernel)
set_option maxRecDepth 20000 in
theorem gX6_order_X6_isRest : GoodIn wsX6_order (va_wsS RX6 69 yX6_isRest wsX6_isRest) := goodIn_app (goodIn_of _ (by decide +kernel)) ggX6_order_X6_isRest
set_option maxRecDepth 20000 in
theorem ggX6_order_X0_split : GoodIn wsX6_order wsX0_split := goodIn_r _ [14, 15, 16, 17, 18, 13, 19, 20, 21, 67, 68, 69] (by decide +kernel) (by decide +kernel)
set_option maxRecDepth 20000 in
theorem gX6_order_X0_split : GoodIn wsX6_order (wsV RX6 58 RX0 yX0_split wsX0_split) := goodIn_app (goodIn_of _ (by decide +kernel)) ggX6_order_X0_split
set_option maxRecDepth 20000 in
theorem ggX6_order_X0_sharesWith : GoodIn wsX6_order wsX0_sharesWith := goodIn_r _ [25, 15, 20, 67, 68, 69] (by decide +kernel) (by decide +kernel)
set_option maxRecDepth 20000 in
theorem gX6_order_X0_sharesWith : GoodIn wsX6_order (wsV RX6 66 RX0 yX0_sharesWith wsX0_sharesWith) := goodIn_app (goodIn_of _ (by decide +kernel)) ggX6_order_X0_sharesWith
set_option maxRecDepth 20000 in
theorem ggX6_order_X6_leastExponent : GoodIn wsX6_order wsX6_leastExponent := goodIn_r _ [29, 1, 30, 10, 11, 12, 13, 14, 15, 16, 17, 18, 19, 20, 21, 31, 32, 33, 34, 35, 36, 37, 38, 39, 40, 41, 42, 43, 44, 45, 46, 47, 48, 49, 50, 51, 52, 53, 54, 55, 56, 57, 58, 59, 60, 61, 62, 63, 64, 65, 66, 67, 68, 69] (by decide +kernel) (by decide +kernel)
set_option maxRecDepth 20000 in
theorem gX6_order_X6_leastExponent : GoodIn wsX6_order (wsV RX6 73 RX6 yX6_leastExponent wsX6_leastExponent) := goodIn_app (goodIn_of _ (by decide +kernel)) ggX6_order_X6_leastExponent
theorem dX6_order_0 : decode cX6_order 0 = .ok (.iload_n 1, 1) := by decide +kernel
theorem dX6_order_1 : decode cX6_order 1 = .ok (.invokestatic 54, 3) := by decide +kernel
theorem dX6_order_4 : decode cX6_order 4 = .ok (.ifCond .eq 11, 3) := by decide +kernel
theorem dX6_order_7 : decode cX6_order 7 = .ok (.iload_n 2, 1) := by decide +kernel
theorem dX6_order_8 : decode cX6_order 8 = .ok (.iload_n 1, 1) := by decide +kernel
theorem dX6_order_9 : decode cX6_order 9 = .ok (.invokestatic 69, 3) := by decide +kernel
theorem dX6_order_12 : decode cX6_order 12 = .ok (.ifCond .ne 5, 3) := by decide +kernel
theorem dX6_order_15 : decode cX6_order 15 = .ok (.iconst (-1), 1) := by decide +kernel
theorem dX6_order_16 : decode cX6_order 16 = .ok (.ireturn, 1) := by decide +kernel
theorem dX6_order_17 : decode cX6_order 17 = .ok (.aload_n 0, 1) := by decide +kernel
theorem dX6_order_18 : decode cX6_order 18 = .ok (.getfield 10, 3) := by decide +kernel
theorem dX6_order_21 : decode cX6_order 21 = .ok (.iload_n 1, 1) := by decide +kernel
theorem dX6_order_22 : decode cX6_order 22 = .ok (.invokevirtual 58, 3) := by decide +kernel
theorem dX6_order_25 : decode cX6_order 25 = .ok (.aload_n 0, 1) := by decide +kernel
theorem dX6_order_26 : decode cX6_order 26 = .ok (.getfield 10, 3) := by decide +kernel
theorem dX6_order_29 : decode cX6_order 29 = .ok (.iload_n 2, 1) := by decide +kernel
theorem dX6_order_30 : decode cX6_order 30 = .ok (.invokevirtual 66, 3) := by decide +kernel
theorem dX6_order_33 : decode cX6_order 33 = .ok (.ifCond .eq 8, 3) := by decide +kernel
theorem dX6_order_36 : decode cX6_order 36 = .ok (.bipush (-2), 2) := by decide +kernel
theorem dX6_order_38 : decode cX6_order 38 = .ok (.goto 9, 3) := by decide +kernel
theorem dX6_order_41 : decode cX6_order 41 = .ok (.aload_n 0, 1) := by decide +kernel
theorem dX6_order_42 : decode cX6_order 42 = .ok (.iload_n 2, 1) := by decide +kernel
theorem dX6_order_43 : decode cX6_order 43 = .ok (.iload_n 1, 1) := by decide +kernel
theorem dX6_order_44 : decode cX6_order 44 = .ok (.invokevirtual 73, 3) := by decide +kernel
theorem dX6_order_47 : decode cX6_order 47 = .ok (.ireturn, 1) := by decide +kernel
set_option maxRecDepth 20000 in
theorem ggX6_orders_X6_isDivisor : GoodIn wsX6_orders wsX6_isDivisor := goodIn_r _ [6, 1] (by decide +kernel) (by decide +kernel)
set_option maxRecDepth 20000 in
theorem gX6_orders_X6_isDivisor : GoodIn wsX6_orders (va_wsS RX6 54 yX6_isDivisor wsX6_isDivisor) := goodIn_app (goodIn_of _ (by decide +kernel)) ggX6_orders_X6_isDivisor
set_option maxRecDepth 20000 in
theorem ggX6_orders_X0_split : GoodIn wsX6_orders wsX0_split := goodIn_r _ [11, 12, 13, 14, 15, 10, 16, 17, 18, 62, 63, 64] (by decide +kernel) (by decide +kernel)
set_option maxRecDepth 20000 in
theorem gX6_orders_X0_split : GoodIn wsX6_orders (wsV RX6 58 RX0 yX0_split wsX0_split) := goodIn_app (goodIn_of _ (by decide +kernel)) ggX6_orders_X0_split
set_option maxRecDepth 20000 in
theorem ggX6_orders_X0_greatestOrder : GoodIn wsX6_orders wsX0_greatestOrder := goodIn_r _ [22, 12, 23, 24, 25, 10, 26, 17, 18, 27, 28, 29, 30, 31, 32, 33, 34, 35, 36, 37, 38, 39, 40, 41, 62, 63, 64] (by decide +kernel) (by decide +kernel)
set_option maxRecDepth 20000 in
theorem gX6_orders_X0_greatestOrder : GoodIn wsX6_orders (wsV RX6 78 RX0 yX0_greatestOrder wsX0_greatestOrder) := goodIn_app (goodIn_of _ (by decide +kernel)) ggX6_orders_X0_greatestOrder
set_option maxRecDepth 20000 in
theorem ggX6_orders_X6_unitsOfOrder : GoodIn wsX6_orders wsX6_unitsOfOrder := goodIn_r _ [45, 46, 2, 7, 8, 9, 10, 11, 12, 13, 14, 15, 16, 17, 18, 47, 48, 49, 50, 23, 24, 25, 26, 51, 40, 37, 41, 27, 28, 29, 30, 31, 32, 33, 34, 52, 53, 54, 55, 56, 57, 58, 59, 60, 61, 62, 63, 64] (by decide +kernel) (by decide +kernel)
set_option maxRecDepth 20000 in
theorem gX6_orders_X6_unitsOfOrder : GoodIn wsX6_orders (wsV RX6 81 RX6 yX6_unitsOfOrder wsX6_unitsOfOrder) := goodIn_app (goodIn_of _ (by decide +kernel)) ggX6_orders_X6_unitsOfOrder
theorem dX6_orders_0 : decode cX6_orders 0 = .ok (.iload_n 1, 1) := by decide +kernel
theorem dX6_orders_1 : decode cX6_orders 1 = .ok (.invokestatic 54, 3) := by decide +kernel
theorem dX6_orders_4 : decode cX6_orders 4 = .ok (.ifCond .eq 12, 3) := by decide +kernel
theorem dX6_orders_7 : decode cX6_orders 7 = .ok (.iload_n 3, 1) := by decide +kernel
theorem dX6_orders_8 : decode cX6_orders 8 = .ok (.ifCond .lt 8, 3) := by decide +kernel
theorem dX6_orders_11 : decode cX6_orders 11 = .ok (.iload_n 3, 1) := by decide +kernel
theorem dX6_orders_12 : decode cX6_orders 12 = .ok (.iconst 1, 1) := by decide +kernel
theorem dX6_orders_13 : decode cX6_orders 13 = .ok (.if_icmp .le 5, 3) := by decide +kernel
theorem dX6_orders_16 : decode cX6_orders 16 = .ok (.iconst (-1), 1) := by decide +kernel
theorem dX6_orders_17 : decode cX6_orders 17 = .ok (.ireturn, 1) := by decide +kernel
theorem dX6_orders_18 : decode cX6_orders 18 = .ok (.iload_n 3, 1) := by decide +kernel
theorem dX6_orders_19 : decode cX6_orders 19 = .ok (.iconst 1, 1) := by decide +kernel
theorem dX6_orders_20 : decode cX6_orders 20 = .ok (.if_icmp .ne 16, 3) := by decide +kernel
theorem dX6_orders_23 : decode cX6_orders 23 = .ok (.iload_n 2, 1) := by decide +kernel
theorem dX6_orders_24 : decode cX6_orders 24 = .ok (.iconst 1, 1) := by decide +kernel
theorem dX6_orders_25 : decode cX6_orders 25 = .ok (.if_icmp .lt 9, 3) := by decide +kernel
theorem dX6_orders_28 : decode cX6_orders 28 = .ok (.iload_n 2, 1) := by decide +kernel
theorem dX6_orders_29 : decode cX6_orders 29 = .ok (.ldc 77, 2) := by decide +kernel
theorem dX6_orders_31 : decode cX6_orders 31 = .ok (.if_icmp .le 5, 3) := by decide +kernel
theorem dX6_orders_34 : decode cX6_orders 34 = .ok (.iconst (-1), 1) := by decide +kernel
theorem dX6_orders_35 : decode cX6_orders 35 = .ok (.ireturn, 1) := by decide +kernel
theorem dX6_orders_36 : decode cX6_orders 36 = .ok (.aload_n 0, 1) := by decide +kernel
theorem dX6_orders_37 : decode cX6_orders 37 = .ok (.getfield 10, 3) := by decide +kernel
theorem dX6_orders_40 : decode cX6_orders 40 = .ok (.iload_n 1, 1) := by decide +kernel
theorem dX6_orders_41 : decode cX6_orders 41 = .ok (.invokevirtual 58, 3) := by decide +kernel
theorem dX6_orders_44 : decode cX6_orders 44 = .ok (.iload_n 3, 1) := by decide +kernel
theorem dX6_orders_45 : decode cX6_orders 45 = .ok (.ifCond .ne 13, 3) := by decide +kernel
theorem dX6_orders_48 : decode cX6_orders 48 = .ok (.aload_n 0, 1) := by decide +kernel
theorem dX6_orders_49 : decode cX6_orders 49 = .ok (.getfield 10, 3) := by decide +kernel
theorem dX6_orders_52 : decode cX6_orders 52 = .ok (.invokevirtual 78, 3) := by decide +kernel
theorem dX6_orders_55 : decode cX6_orders 55 = .ok (.goto 8, 3) := by decide +kernel
theorem dX6_orders_58 : decode cX6_orders 58 = .ok (.aload_n 0, 1) := by decide +kernel
theorem dX6_orders_59 : decode cX6_orders 59 = .ok (.iload_n 2, 1) := by decide +kernel
theorem dX6_orders_60 : decode cX6_orders 60 = .ok (.invokevirtual 81, 3) := by decide +kernel
theorem dX6_orders_63 : decode cX6_orders 63 = .ok (.ireturn, 1) := by decide +kernel
set_option maxRecDepth 20000 in
theorem ggX6_makers_X6_isDivisor : GoodIn wsX6_makers wsX6_isDivisor := goodIn_r _ [7, 8] (by decide +kernel) (by decide +kernel)
set_option maxRecDepth 20000 in
theorem gX6_makers_X6_isDivisor : GoodIn wsX6_makers (va_wsS RX6 54 yX6_isDivisor wsX6_isDivisor) := goodIn_app (goodIn_of _ (by decide +kernel)) ggX6_makers_X6_isDivisor
set_option maxRecDepth 20000 in
theorem ggX6_makers_X0_split : GoodIn wsX6_makers wsX0_split := goodIn_r _ [13, 14, 15, 16, 17, 12, 18, 19, 20, 96, 97, 98] (by decide +kernel) (by decide +kernel)
set_option maxRecDepth 20000 in
theorem gX6_makers_X0_split : GoodIn wsX6_makers (wsV RX6 58 RX0 yX0_split wsX0_split) := goodIn_app (goodIn_of _ (by decide +kernel)) ggX6_makers_X0_split
set_option maxRecDepth 20000 in
theorem ggX6_makers_X0_unitCount : GoodIn wsX6_makers wsX0_unitCount := goodIn_r _ [24, 14, 25, 26, 27, 12, 28, 19, 29, 30, 31, 32, 20, 96, 97, 98] (by decide +kernel) (by decide +kernel)
set_option maxRecDepth 20000 in
theorem gX6_makers_X0_unitCount : GoodIn wsX6_makers (wsV RX6 62 RX0 yX0_unitCount wsX0_unitCount) := goodIn_app (goodIn_of _ (by decide +kernel)) ggX6_makers_X0_unitCount
set_option maxRecDepth 20000 in
theorem ggX6_makers_X0_greatestOrder : GoodIn wsX6_makers wsX0_greatestOrder := goodIn_r _ [36, 14, 37, 38, 39, 12, 40, 19, 20, 25, 26, 27, 28, 29, 30, 31, 32, 41, 42, 43, 44, 45, 46, 47, 96, 97, 98] (by decide +kernel) (by decide +kernel)
set_option maxRecDepth 20000 in
theorem gX6_makers_X0_greatestOrder : GoodIn wsX6_makers (wsV RX6 78 RX0 yX0_greatestOrder wsX0_greatestOrder) := goodIn_app (goodIn_of _ (by decide +kernel)) ggX6_makers_X0_greatestOrder
set_option maxRecDepth 20000 in
theorem ggX6_makers_X6_markMakers : GoodIn wsX6_makers wsX6_markMakers := goodIn_r _ [51, 3, 2, 52, 53, 54, 6, 55, 56, 57, 58, 59, 60, 61, 43, 62, 63, 64, 65, 66, 67, 68, 69, 70, 71, 12, 72, 14, 19, 73, 74, 75, 76, 77, 86, 87, 88, 89, 90, 91, 92, 93, 94, 95, 96, 97, 98, 99, 100] (by decide +kernel) (by decide +kernel)
set_option maxRecDepth 20000 in
theorem gX6_makers_X6_markMakers : GoodIn wsX6_makers (wsV RX6 85 RX6 yX6_markMakers wsX6_markMakers) := goodIn_app (goodIn_of _ (by decide +kernel)) ggX6_makers_X6_markMakers
set_option maxRecDepth 20000 in
theorem ggX6_makers_X3_pick : GoodIn wsX6_makers wsX3_pick := goodIn_r _ [81, 82, 83, 84, 66, 85, 77, 68, 99, 100] (by decide +kernel) (by decide +kernel)
set_option maxRecDepth 20000 in
theorem gX6_makers_X3_pick : GoodIn wsX6_makers (wsV RX6 89 RX3 yX3_pick wsX3_pick) := goodIn_app (goodIn_of _ (by decide +kernel)) ggX6_makers_X3_pick
theorem dX6_makers_0 : decode cX6_makers 0 = .ok (.iload_n 1, 1) := by decide +kernel
theorem dX6_makers_1 : decode cX6_makers 1 = .ok (.invokestatic 54, 3) := by decide +kernel
theorem dX6_makers_4 : decode cX6_makers 4 = .ok (.ifCond .eq 8, 3) := by decide +kernel
theorem dX6_makers_7 : decode cX6_makers 7 = .ok (.iload_n 2, 1) := by decide +kernel
theorem dX6_makers_8 : decode cX6_makers 8 = .ok (.iconst (-1), 1) := by decide +kernel
theorem dX6_makers_9 : decode cX6_makers 9 = .ok (.if_icmp .ge 5, 3) := by decide +kernel
theorem dX6_makers_12 : decode cX6_makers 12 = .ok (.iconst (-1), 1) := by decide +kernel
theorem dX6_makers_13 : decode cX6_makers 13 = .ok (.ireturn, 1) := by decide +kernel
theorem dX6_makers_14 : decode cX6_makers 14 = .ok (.aload_n 0, 1) := by decide +kernel
theorem dX6_makers_15 : decode cX6_makers 15 = .ok (.getfield 10, 3) := by decide +kernel
theorem dX6_makers_18 : decode cX6_makers 18 = .ok (.iload_n 1, 1) := by decide +kernel
theorem dX6_makers_19 : decode cX6_makers 19 = .ok (.invokevirtual 58, 3) := by decide +kernel
theorem dX6_makers_22 : decode cX6_makers 22 = .ok (.aload_n 0, 1) := by decide +kernel
theorem dX6_makers_23 : decode cX6_makers 23 = .ok (.getfield 10, 3) := by decide +kernel
theorem dX6_makers_26 : decode cX6_makers 26 = .ok (.invokevirtual 62, 3) := by decide +kernel
theorem dX6_makers_29 : decode cX6_makers 29 = .ok (.istore_n 3, 1) := by decide +kernel
theorem dX6_makers_30 : decode cX6_makers 30 = .ok (.aload_n 0, 1) := by decide +kernel
theorem dX6_makers_31 : decode cX6_makers 31 = .ok (.getfield 16, 3) := by decide +kernel
theorem dX6_makers_34 : decode cX6_makers 34 = .ok (.iload_n 3, 1) := by decide +kernel
theorem dX6_makers_35 : decode cX6_makers 35 = .ok (.invokevirtual 58, 3) := by decide +kernel
theorem dX6_makers_38 : decode cX6_makers 38 = .ok (.aload_n 0, 1) := by decide +kernel
theorem dX6_makers_39 : decode cX6_makers 39 = .ok (.getfield 10, 3) := by decide +kernel
theorem dX6_makers_42 : decode cX6_makers 42 = .ok (.invokevirtual 78, 3) := by decide +kernel
theorem dX6_makers_45 : decode cX6_makers 45 = .ok (.iload_n 3, 1) := by decide +kernel
theorem dX6_makers_46 : decode cX6_makers 46 = .ok (.if_icmp .ne 13, 3) := by decide +kernel
theorem dX6_makers_49 : decode cX6_makers 49 = .ok (.aload_n 0, 1) := by decide +kernel
theorem dX6_makers_50 : decode cX6_makers 50 = .ok (.getfield 16, 3) := by decide +kernel
theorem dX6_makers_53 : decode cX6_makers 53 = .ok (.invokevirtual 62, 3) := by decide +kernel
theorem dX6_makers_56 : decode cX6_makers 56 = .ok (.goto 4, 3) := by decide +kernel
theorem dX6_makers_59 : decode cX6_makers 59 = .ok (.iconst 0, 1) := by decide +kernel
theorem dX6_makers_60 : decode cX6_makers 60 = .ok (.istore 4, 2) := by decide +kernel
theorem dX6_makers_62 : decode cX6_makers 62 = .ok (.iload_n 2, 1) := by decide +kernel
theorem dX6_makers_63 : decode cX6_makers 63 = .ok (.iconst (-1), 1) := by decide +kernel
theorem dX6_makers_64 : decode cX6_makers 64 = .ok (.if_icmp .ne 6, 3) := by decide +kernel
theorem dX6_makers_67 : decode cX6_makers 67 = .ok (.iload 4, 2) := by decide +kernel
theorem dX6_makers_69 : decode cX6_makers 69 = .ok (.ireturn, 1) := by decide +kernel
theorem dX6_makers_70 : decode cX6_makers 70 = .ok (.iload_n 2, 1) := by decide +kernel
theorem dX6_makers_71 : decode cX6_makers 71 = .ok (.iload 4, 2) := by decide +kernel
theorem dX6_makers_73 : decode cX6_makers 73 = .ok (.if_icmp .lt 6, 3) := by decide +kernel
theorem dX6_makers_76 : decode cX6_makers 76 = .ok (.bipush (-4), 2) := by decide +kernel
theorem dX6_makers_78 : decode cX6_makers 78 = .ok (.ireturn, 1) := by decide +kernel
theorem dX6_makers_79 : decode cX6_makers 79 = .ok (.aload_n 0, 1) := by decide +kernel
theorem dX6_makers_80 : decode cX6_makers 80 = .ok (.iload_n 1, 1) := by decide +kernel
theorem dX6_makers_81 : decode cX6_makers 81 = .ok (.iload_n 3, 1) := by decide +kernel
theorem dX6_makers_82 : decode cX6_makers 82 = .ok (.invokevirtual 85, 3) := by decide +kernel
theorem dX6_makers_85 : decode cX6_makers 85 = .ok (.aload_n 0, 1) := by decide +kernel
theorem dX6_makers_86 : decode cX6_makers 86 = .ok (.getfield 22, 3) := by decide +kernel
theorem dX6_makers_89 : decode cX6_makers 89 = .ok (.iload_n 2, 1) := by decide +kernel
theorem dX6_makers_90 : decode cX6_makers 90 = .ok (.iload_n 1, 1) := by decide +kernel
theorem dX6_makers_91 : decode cX6_makers 91 = .ok (.invokevirtual 89, 3) := by decide +kernel
theorem dX6_makers_94 : decode cX6_makers 94 = .ok (.ireturn, 1) := by decide +kernel
set_option maxRecDepth 20000 in
theorem ggX6_power_X6_isDivisor : GoodIn wsX6_power wsX6_isDivisor := goodIn_r _ [5, 6] (by decide +kernel) (by decide +kernel)
set_option maxRecDepth 20000 in
theorem gX6_power_X6_isDivisor : GoodIn wsX6_power (va_wsS RX6 54 yX6_isDivisor wsX6_isDivisor) := goodIn_app (goodIn_of _ (by decide +kernel)) ggX6_power_X6_isDivisor
set_option maxRecDepth 20000 in
theorem ggX6_power_X6_isRest : GoodIn wsX6_power wsX6_isRest := goodIn_r _ [9] (by decide +kernel) (by decide +kernel)
set_option maxRecDepth 20000 in
theorem gX6_power_X6_isRest : GoodIn wsX6_power (va_wsS RX6 69 yX6_isRest wsX6_isRest) := goodIn_app (goodIn_of _ (by decide +kernel)) ggX6_power_X6_isRest
set_option maxRecDepth 20000 in
theorem ggX6_power_X4_raise : GoodIn wsX6_power wsX4_raise := goodIn_r _ [13] (by decide +kernel) (by decide +kernel)
set_option maxRecDepth 20000 in
theorem gX6_power_X4_raise : GoodIn wsX6_power (va_wsS RX6 94 yX4_raise wsX4_raise) := goodIn_app (goodIn_of _ (by decide +kernel)) ggX6_power_X4_raise
theorem dX6_power_0 : decode cX6_power 0 = .ok (.iload_n 1, 1) := by decide +kernel
theorem dX6_power_1 : decode cX6_power 1 = .ok (.invokestatic 54, 3) := by decide +kernel
theorem dX6_power_4 : decode cX6_power 4 = .ok (.ifCond .eq 25, 3) := by decide +kernel
theorem dX6_power_7 : decode cX6_power 7 = .ok (.iload_n 2, 1) := by decide +kernel
theorem dX6_power_8 : decode cX6_power 8 = .ok (.iload_n 1, 1) := by decide +kernel
theorem dX6_power_9 : decode cX6_power 9 = .ok (.invokestatic 69, 3) := by decide +kernel
theorem dX6_power_12 : decode cX6_power 12 = .ok (.ifCond .eq 17, 3) := by decide +kernel
theorem dX6_power_15 : decode cX6_power 15 = .ok (.lload_n 3, 1) := by decide +kernel
theorem dX6_power_16 : decode cX6_power 16 = .ok (.lconst 0, 1) := by decide +kernel
theorem dX6_power_17 : decode cX6_power 17 = .ok (.lcmp, 1) := by decide +kernel
theorem dX6_power_18 : decode cX6_power 18 = .ok (.ifCond .lt 11, 3) := by decide +kernel
theorem dX6_power_21 : decode cX6_power 21 = .ok (.lload_n 3, 1) := by decide +kernel
theorem dX6_power_22 : decode cX6_power 22 = .ok (.ldc2_w 92, 3) := by decide +kernel
theorem dX6_power_25 : decode cX6_power 25 = .ok (.lcmp, 1) := by decide +kernel
theorem dX6_power_26 : decode cX6_power 26 = .ok (.ifCond .le 5, 3) := by decide +kernel
theorem dX6_power_29 : decode cX6_power 29 = .ok (.iconst (-1), 1) := by decide +kernel
theorem dX6_power_30 : decode cX6_power 30 = .ok (.ireturn, 1) := by decide +kernel
theorem dX6_power_31 : decode cX6_power 31 = .ok (.iload_n 2, 1) := by decide +kernel
theorem dX6_power_32 : decode cX6_power 32 = .ok (.i2l, 1) := by decide +kernel
theorem dX6_power_33 : decode cX6_power 33 = .ok (.lload_n 3, 1) := by decide +kernel
theorem dX6_power_34 : decode cX6_power 34 = .ok (.iload_n 1, 1) := by decide +kernel
theorem dX6_power_35 : decode cX6_power 35 = .ok (.invokestatic 94, 3) := by decide +kernel
theorem dX6_power_38 : decode cX6_power 38 = .ok (.ireturn, 1) := by decide +kernel
set_option maxRecDepth 20000 in
theorem ggX6_log_X6_isDivisor : GoodIn wsX6_log wsX6_isDivisor := goodIn_r _ [4, 5] (by decide +kernel) (by decide +kernel)
set_option maxRecDepth 20000 in
theorem gX6_log_X6_isDivisor : GoodIn wsX6_log (va_wsS RX6 54 yX6_isDivisor wsX6_isDivisor) := goodIn_app (goodIn_of _ (by decide +kernel)) ggX6_log_X6_isDivisor
set_option maxRecDepth 20000 in
theorem ggX6_log_X6_isRest : GoodIn wsX6_log wsX6_isRest := goodIn_r _ [8] (by decide +kernel) (by decide +kernel)
set_option maxRecDepth 20000 in
theorem gX6_log_X6_isRest : GoodIn wsX6_log (va_wsS RX6 69 yX6_isRest wsX6_isRest) := goodIn_app (goodIn_of _ (by decide +kernel)) ggX6_log_X6_isRest
set_option maxRecDepth 20000 in
theorem ggX6_log_X6_leastLog : GoodIn wsX6_log wsX6_leastLog := goodIn_r _ [11] (by decide +kernel) (by decide +kernel)
set_option maxRecDepth 20000 in
theorem gX6_log_X6_leastLog : GoodIn wsX6_log (va_wsS RX6 100 yX6_leastLog wsX6_leastLog) := goodIn_app (goodIn_of _ (by decide +kernel)) ggX6_log_X6_leastLog
theorem dX6_log_0 : decode cX6_log 0 = .ok (.iload_n 1, 1) := by decide +kernel
theorem dX6_log_1 : decode cX6_log 1 = .ok (.invokestatic 54, 3) := by decide +kernel
theorem dX6_log_4 : decode cX6_log 4 = .ok (.ifCond .eq 19, 3) := by decide +kernel
theorem dX6_log_7 : decode cX6_log 7 = .ok (.iload_n 2, 1) := by decide +kernel
theorem dX6_log_8 : decode cX6_log 8 = .ok (.iload_n 1, 1) := by decide +kernel
theorem dX6_log_9 : decode cX6_log 9 = .ok (.invokestatic 69, 3) := by decide +kernel
theorem dX6_log_12 : decode cX6_log 12 = .ok (.ifCond .eq 11, 3) := by decide +kernel
theorem dX6_log_15 : decode cX6_log 15 = .ok (.iload_n 3, 1) := by decide +kernel
theorem dX6_log_16 : decode cX6_log 16 = .ok (.iload_n 1, 1) := by decide +kernel
theorem dX6_log_17 : decode cX6_log 17 = .ok (.invokestatic 69, 3) := by decide +kernel
theorem dX6_log_20 : decode cX6_log 20 = .ok (.ifCond .ne 5, 3) := by decide +kernel
theorem dX6_log_23 : decode cX6_log 23 = .ok (.iconst (-1), 1) := by decide +kernel
theorem dX6_log_24 : decode cX6_log 24 = .ok (.ireturn, 1) := by decide +kernel
theorem dX6_log_25 : decode cX6_log 25 = .ok (.iload_n 1, 1) := by decide +kernel
theorem dX6_log_26 : decode cX6_log 26 = .ok (.iload_n 2, 1) := by decide +kernel
theorem dX6_log_27 : decode cX6_log 27 = .ok (.iload_n 3, 1) := by decide +kernel
theorem dX6_log_28 : decode cX6_log 28 = .ok (.invokestatic 100, 3) := by decide +kernel
theorem dX6_log_31 : decode cX6_log 31 = .ok (.ireturn, 1) := by decide +kernel
set_option maxRecDepth 20000 in
theorem ggX6_roots_X6_isDivisor : GoodIn wsX6_roots wsX6_isDivisor := goodIn_r _ [4, 5] (by decide +kernel) (by decide +kernel)
set_option maxRecDepth 20000 in
theorem gX6_roots_X6_isDivisor : GoodIn wsX6_roots (va_wsS RX6 54 yX6_isDivisor wsX6_isDivisor) := goodIn_app (goodIn_of _ (by decide +kernel)) ggX6_roots_X6_isDivisor
set_option maxRecDepth 20000 in
theorem ggX6_roots_X6_isRest : GoodIn wsX6_roots wsX6_isRest := goodIn_r _ [8] (by decide +kernel) (by decide +kernel)
set_option maxRecDepth 20000 in
theorem gX6_roots_X6_isRest : GoodIn wsX6_roots (va_wsS RX6 69 yX6_isRest wsX6_isRest) := goodIn_app (goodIn_of _ (by decide +kernel)) ggX6_roots_X6_isRest
set_option maxRecDepth 20000 in
theorem ggX6_roots_X4_raise : GoodIn wsX6_roots wsX4_raise := goodIn_r _ [12] (by decide +kernel) (by decide +kernel)
set_option maxRecDepth 20000 in
theorem gX6_roots_X4_raise : GoodIn wsX6_roots (va_wsS RX6 94 yX4_raise wsX4_raise) := goodIn_app (goodIn_of _ (by decide +kernel)) ggX6_roots_X4_raise
theorem dX6_roots_0 : decode cX6_roots 0 = .ok (.iload_n 1, 1) := by decide +kernel
theorem dX6_roots_1 : decode cX6_roots 1 = .ok (.invokestatic 54, 3) := by decide +kernel
theorem dX6_roots_4 : decode cX6_roots 4 = .ok (.ifCond .eq 28, 3) := by decide +kernel
theorem dX6_roots_7 : decode cX6_roots 7 = .ok (.iload_n 2, 1) := by decide +kernel
theorem dX6_roots_8 : decode cX6_roots 8 = .ok (.iload_n 1, 1) := by decide +kernel
theorem dX6_roots_9 : decode cX6_roots 9 = .ok (.invokestatic 69, 3) := by decide +kernel
theorem dX6_roots_12 : decode cX6_roots 12 = .ok (.ifCond .eq 20, 3) := by decide +kernel
theorem dX6_roots_15 : decode cX6_roots 15 = .ok (.iload_n 3, 1) := by decide +kernel
theorem dX6_roots_16 : decode cX6_roots 16 = .ok (.iconst 1, 1) := by decide +kernel
theorem dX6_roots_17 : decode cX6_roots 17 = .ok (.if_icmp .lt 15, 3) := by decide +kernel
theorem dX6_roots_20 : decode cX6_roots 20 = .ok (.iload_n 3, 1) := by decide +kernel
theorem dX6_roots_21 : decode cX6_roots 21 = .ok (.bipush 100, 2) := by decide +kernel
theorem dX6_roots_23 : decode cX6_roots 23 = .ok (.if_icmp .gt 9, 3) := by decide +kernel
theorem dX6_roots_26 : decode cX6_roots 26 = .ok (.iload 4, 2) := by decide +kernel
theorem dX6_roots_28 : decode cX6_roots 28 = .ok (.iconst (-1), 1) := by decide +kernel
theorem dX6_roots_29 : decode cX6_roots 29 = .ok (.if_icmp .ge 5, 3) := by decide +kernel
theorem dX6_roots_32 : decode cX6_roots 32 = .ok (.iconst (-1), 1) := by decide +kernel
theorem dX6_roots_33 : decode cX6_roots 33 = .ok (.ireturn, 1) := by decide +kernel
theorem dX6_roots_34 : decode cX6_roots 34 = .ok (.iconst 0, 1) := by decide +kernel
theorem dX6_roots_35 : decode cX6_roots 35 = .ok (.istore 5, 2) := by decide +kernel
theorem dX6_roots_37 : decode cX6_roots 37 = .ok (.iconst 0, 1) := by decide +kernel
theorem dX6_roots_38 : decode cX6_roots 38 = .ok (.istore 6, 2) := by decide +kernel
theorem dX6_roots_40 : decode cX6_roots 40 = .ok (.iload 6, 2) := by decide +kernel
theorem dX6_roots_42 : decode cX6_roots 42 = .ok (.iload_n 1, 1) := by decide +kernel
theorem dX6_roots_43 : decode cX6_roots 43 = .ok (.if_icmp .ge 35, 3) := by decide +kernel
theorem dX6_roots_46 : decode cX6_roots 46 = .ok (.iload 6, 2) := by decide +kernel
theorem dX6_roots_48 : decode cX6_roots 48 = .ok (.i2l, 1) := by decide +kernel
theorem dX6_roots_49 : decode cX6_roots 49 = .ok (.iload_n 3, 1) := by decide +kernel
theorem dX6_roots_50 : decode cX6_roots 50 = .ok (.i2l, 1) := by decide +kernel
theorem dX6_roots_51 : decode cX6_roots 51 = .ok (.iload_n 1, 1) := by decide +kernel
theorem dX6_roots_52 : decode cX6_roots 52 = .ok (.invokestatic 94, 3) := by decide +kernel
theorem dX6_roots_55 : decode cX6_roots 55 = .ok (.iload_n 2, 1) := by decide +kernel
theorem dX6_roots_56 : decode cX6_roots 56 = .ok (.if_icmp .ne 16, 3) := by decide +kernel
theorem dX6_roots_59 : decode cX6_roots 59 = .ok (.iload 5, 2) := by decide +kernel
theorem dX6_roots_61 : decode cX6_roots 61 = .ok (.iload 4, 2) := by decide +kernel
theorem dX6_roots_63 : decode cX6_roots 63 = .ok (.if_icmp .ne 6, 3) := by decide +kernel
theorem dX6_roots_66 : decode cX6_roots 66 = .ok (.iload 6, 2) := by decide +kernel
theorem dX6_roots_68 : decode cX6_roots 68 = .ok (.ireturn, 1) := by decide +kernel
theorem dX6_roots_69 : decode cX6_roots 69 = .ok (.iinc 5 1, 3) := by decide +kernel
theorem dX6_roots_72 : decode cX6_roots 72 = .ok (.iinc 6 1, 3) := by decide +kernel
theorem dX6_roots_75 : decode cX6_roots 75 = .ok (.goto (-35), 3) := by decide +kernel
theorem dX6_roots_78 : decode cX6_roots 78 = .ok (.iload 4, 2) := by decide +kernel
theorem dX6_roots_80 : decode cX6_roots 80 = .ok (.iconst (-1), 1) := by decide +kernel
theorem dX6_roots_81 : decode cX6_roots 81 = .ok (.if_icmp .ne 8, 3) := by decide +kernel
theorem dX6_roots_84 : decode cX6_roots 84 = .ok (.iload 5, 2) := by decide +kernel
theorem dX6_roots_86 : decode cX6_roots 86 = .ok (.goto 5, 3) := by decide +kernel
theorem dX6_roots_89 : decode cX6_roots 89 = .ok (.bipush (-4), 2) := by decide +kernel
theorem dX6_roots_91 : decode cX6_roots 91 = .ok (.ireturn, 1) := by decide +kernel
set_option maxRecDepth 20000 in
theorem ggX6_squares_X6_isDivisor : GoodIn wsX6_squares wsX6_isDivisor := goodIn_r _ [5, 6] (by decide +kernel) (by decide +kernel)
set_option maxRecDepth 20000 in
theorem gX6_squares_X6_isDivisor : GoodIn wsX6_squares (va_wsS RX6 54 yX6_isDivisor wsX6_isDivisor) := goodIn_app (goodIn_of _ (by decide +kernel)) ggX6_squares_X6_isDivisor
set_option maxRecDepth 20000 in
theorem ggX6_squares_X0_split : GoodIn wsX6_squares wsX0_split := goodIn_r _ [11, 12, 13, 14, 15, 10, 16, 17, 18, 62, 63, 64] (by decide +kernel) (by decide +kernel)
set_option maxRecDepth 20000 in
theorem gX6_squares_X0_split : GoodIn wsX6_squares (wsV RX6 58 RX0 yX0_split wsX0_split) := goodIn_app (goodIn_of _ (by decide +kernel)) ggX6_squares_X0_split
set_option maxRecDepth 20000 in
theorem ggX6_squares_X6_markSquares : GoodIn wsX6_squares wsX6_markSquares := goodIn_r _ [22, 23, 24, 25, 26, 27, 28, 29, 30, 31, 32, 33, 34, 35, 52, 53, 54, 55, 56, 57, 58, 59, 60, 61, 65, 66] (by decide +kernel) (by decide +kernel)
set_option maxRecDepth 20000 in
theorem gX6_squares_X6_markSquares : GoodIn wsX6_squares (wsV RX6 104 RX6 yX6_markSquares wsX6_markSquares) := goodIn_app (goodIn_of _ (by decide +kernel)) ggX6_squares_X6_markSquares
set_option maxRecDepth 20000 in
theorem ggX6_squares_X6_firstNoSquare : GoodIn wsX6_squares wsX6_firstNoSquare := goodIn_r _ [39, 23, 1, 40, 41, 42, 28, 43, 35, 30, 44, 45, 46, 10, 47, 12, 17, 52, 53, 54, 55, 56, 57, 58, 59, 60, 61, 65, 66, 62, 63, 64] (by decide +kernel) (by decide +kernel)
set_option maxRecDepth 20000 in
theorem gX6_squares_X6_firstNoSquare : GoodIn wsX6_squares (wsV RX6 107 RX6 yX6_firstNoSquare wsX6_firstNoSquare) := goodIn_app (goodIn_of _ (by decide +kernel)) ggX6_squares_X6_firstNoSquare
set_option maxRecDepth 20000 in
theorem ggX6_squares_X6_runsOfSquares : GoodIn wsX6_squares wsX6_runsOfSquares := goodIn_r _ [51, 23, 1, 40, 41, 42, 28, 43, 35, 30, 44, 45, 46, 10, 47, 12, 17, 52, 53, 54, 55, 56, 57, 58, 59, 60, 61, 65, 66, 62, 63, 64] (by decide +kernel) (by decide +kernel)
set_option maxRecDepth 20000 in
theorem gX6_squares_X6_runsOfSquares : GoodIn wsX6_squares (wsV RX6 110 RX6 yX6_runsOfSquares wsX6_runsOfSquares) := goodIn_app (goodIn_of _ (by decide +kernel)) ggX6_squares_X6_runsOfSquares
theorem dX6_squares_0 : decode cX6_squares 0 = .ok (.iload_n 1, 1) := by decide +kernel
theorem dX6_squares_1 : decode cX6_squares 1 = .ok (.invokestatic 54, 3) := by decide +kernel
theorem dX6_squares_4 : decode cX6_squares 4 = .ok (.ifCond .eq 12, 3) := by decide +kernel
theorem dX6_squares_7 : decode cX6_squares 7 = .ok (.iload_n 2, 1) := by decide +kernel
theorem dX6_squares_8 : decode cX6_squares 8 = .ok (.ifCond .lt 8, 3) := by decide +kernel
theorem dX6_squares_11 : decode cX6_squares 11 = .ok (.iload_n 2, 1) := by decide +kernel
theorem dX6_squares_12 : decode cX6_squares 12 = .ok (.iconst 3, 1) := by decide +kernel
theorem dX6_squares_13 : decode cX6_squares 13 = .ok (.if_icmp .le 5, 3) := by decide +kernel
theorem dX6_squares_16 : decode cX6_squares 16 = .ok (.iconst (-1), 1) := by decide +kernel
theorem dX6_squares_17 : decode cX6_squares 17 = .ok (.ireturn, 1) := by decide +kernel
theorem dX6_squares_18 : decode cX6_squares 18 = .ok (.aload_n 0, 1) := by decide +kernel
theorem dX6_squares_19 : decode cX6_squares 19 = .ok (.getfield 10, 3) := by decide +kernel
theorem dX6_squares_22 : decode cX6_squares 22 = .ok (.iload_n 1, 1) := by decide +kernel
theorem dX6_squares_23 : decode cX6_squares 23 = .ok (.invokevirtual 58, 3) := by decide +kernel
theorem dX6_squares_26 : decode cX6_squares 26 = .ok (.aload_n 0, 1) := by decide +kernel
theorem dX6_squares_27 : decode cX6_squares 27 = .ok (.iload_n 1, 1) := by decide +kernel
theorem dX6_squares_28 : decode cX6_squares 28 = .ok (.invokevirtual 104, 3) := by decide +kernel
theorem dX6_squares_31 : decode cX6_squares 31 = .ok (.iload_n 2, 1) := by decide +kernel
theorem dX6_squares_32 : decode cX6_squares 32 = .ok (.iconst 3, 1) := by decide +kernel
theorem dX6_squares_33 : decode cX6_squares 33 = .ok (.if_icmp .ne 11, 3) := by decide +kernel
theorem dX6_squares_36 : decode cX6_squares 36 = .ok (.aload_n 0, 1) := by decide +kernel
theorem dX6_squares_37 : decode cX6_squares 37 = .ok (.iload_n 1, 1) := by decide +kernel
theorem dX6_squares_38 : decode cX6_squares 38 = .ok (.invokevirtual 107, 3) := by decide +kernel
theorem dX6_squares_41 : decode cX6_squares 41 = .ok (.goto 9, 3) := by decide +kernel
theorem dX6_squares_44 : decode cX6_squares 44 = .ok (.aload_n 0, 1) := by decide +kernel
theorem dX6_squares_45 : decode cX6_squares 45 = .ok (.iload_n 1, 1) := by decide +kernel
theorem dX6_squares_46 : decode cX6_squares 46 = .ok (.iload_n 2, 1) := by decide +kernel
theorem dX6_squares_47 : decode cX6_squares 47 = .ok (.invokevirtual 110, 3) := by decide +kernel
theorem dX6_squares_50 : decode cX6_squares 50 = .ok (.ireturn, 1) := by decide +kernel
set_option maxRecDepth 20000 in
theorem ggX6_sign_X0_split : GoodIn wsX6_sign wsX0_split := goodIn_r _ [8, 9, 10, 11, 12, 7, 13, 14, 15, 34, 35, 36] (by decide +kernel) (by decide +kernel)
set_option maxRecDepth 20000 in
theorem gX6_sign_X0_split : GoodIn wsX6_sign (wsV RX6 58 RX0 yX0_split wsX0_split) := goodIn_app (goodIn_of _ (by decide +kernel)) ggX6_sign_X0_split
set_option maxRecDepth 20000 in
theorem ggX6_sign_X6_signByPrime : GoodIn wsX6_sign wsX6_signByPrime := goodIn_r _ [19, 20, 21, 22, 23] (by decide +kernel) (by decide +kernel)
set_option maxRecDepth 20000 in
theorem gX6_sign_X6_signByPrime : GoodIn wsX6_sign (va_wsS RX6 122 yX6_signByPrime wsX6_signByPrime) := goodIn_app (goodIn_of _ (by decide +kernel)) ggX6_sign_X6_signByPrime
theorem dX6_sign_0 : decode cX6_sign 0 = .ok (.iload_n 1, 1) := by decide +kernel
theorem dX6_sign_1 : decode cX6_sign 1 = .ok (.ifCond .lt 26, 3) := by decide +kernel
theorem dX6_sign_4 : decode cX6_sign 4 = .ok (.iload_n 1, 1) := by decide +kernel
theorem dX6_sign_5 : decode cX6_sign 5 = .ok (.ldc 113, 2) := by decide +kernel
theorem dX6_sign_7 : decode cX6_sign 7 = .ok (.if_icmp .gt 20, 3) := by decide +kernel
theorem dX6_sign_10 : decode cX6_sign 10 = .ok (.iload_n 2, 1) := by decide +kernel
theorem dX6_sign_11 : decode cX6_sign 11 = .ok (.iconst 1, 1) := by decide +kernel
theorem dX6_sign_12 : decode cX6_sign 12 = .ok (.if_icmp .lt 15, 3) := by decide +kernel
theorem dX6_sign_15 : decode cX6_sign 15 = .ok (.iload_n 2, 1) := by decide +kernel
theorem dX6_sign_16 : decode cX6_sign 16 = .ok (.ldc 114, 2) := by decide +kernel
theorem dX6_sign_18 : decode cX6_sign 18 = .ok (.if_icmp .gt 9, 3) := by decide +kernel
theorem dX6_sign_21 : decode cX6_sign 21 = .ok (.iload_n 2, 1) := by decide +kernel
theorem dX6_sign_22 : decode cX6_sign 22 = .ok (.iconst 2, 1) := by decide +kernel
theorem dX6_sign_23 : decode cX6_sign 23 = .ok (.irem, 1) := by decide +kernel
theorem dX6_sign_24 : decode cX6_sign 24 = .ok (.ifCond .ne 6, 3) := by decide +kernel
theorem dX6_sign_27 : decode cX6_sign 27 = .ok (.bipush (-100), 2) := by decide +kernel
theorem dX6_sign_29 : decode cX6_sign 29 = .ok (.ireturn, 1) := by decide +kernel
theorem dX6_sign_30 : decode cX6_sign 30 = .ok (.aload_n 0, 1) := by decide +kernel
theorem dX6_sign_31 : decode cX6_sign 31 = .ok (.getfield 10, 3) := by decide +kernel
theorem dX6_sign_34 : decode cX6_sign 34 = .ok (.iload_n 2, 1) := by decide +kernel
theorem dX6_sign_35 : decode cX6_sign 35 = .ok (.invokevirtual 58, 3) := by decide +kernel
theorem dX6_sign_38 : decode cX6_sign 38 = .ok (.iconst 1, 1) := by decide +kernel
theorem dX6_sign_39 : decode cX6_sign 39 = .ok (.istore_n 3, 1) := by decide +kernel
theorem dX6_sign_40 : decode cX6_sign 40 = .ok (.iconst 0, 1) := by decide +kernel
theorem dX6_sign_41 : decode cX6_sign 41 = .ok (.istore 4, 2) := by decide +kernel
theorem dX6_sign_43 : decode cX6_sign 43 = .ok (.iload 4, 2) := by decide +kernel
theorem dX6_sign_45 : decode cX6_sign 45 = .ok (.aload_n 0, 1) := by decide +kernel
theorem dX6_sign_46 : decode cX6_sign 46 = .ok (.getfield 10, 3) := by decide +kernel
theorem dX6_sign_49 : decode cX6_sign 49 = .ok (.getfield 115, 3) := by decide +kernel
theorem dX6_sign_52 : decode cX6_sign 52 = .ok (.if_icmp .ge 57, 3) := by decide +kernel
theorem dX6_sign_55 : decode cX6_sign 55 = .ok (.aload_n 0, 1) := by decide +kernel
theorem dX6_sign_56 : decode cX6_sign 56 = .ok (.getfield 10, 3) := by decide +kernel
theorem dX6_sign_59 : decode cX6_sign 59 = .ok (.getfield 119, 3) := by decide +kernel
theorem dX6_sign_62 : decode cX6_sign 62 = .ok (.iload 4, 2) := by decide +kernel
theorem dX6_sign_64 : decode cX6_sign 64 = .ok (.iaload, 1) := by decide +kernel
theorem dX6_sign_65 : decode cX6_sign 65 = .ok (.istore 5, 2) := by decide +kernel
theorem dX6_sign_67 : decode cX6_sign 67 = .ok (.iload_n 1, 1) := by decide +kernel
theorem dX6_sign_68 : decode cX6_sign 68 = .ok (.iload 5, 2) := by decide +kernel
theorem dX6_sign_70 : decode cX6_sign 70 = .ok (.invokestatic 122, 3) := by decide +kernel
theorem dX6_sign_73 : decode cX6_sign 73 = .ok (.istore 6, 2) := by decide +kernel
theorem dX6_sign_75 : decode cX6_sign 75 = .ok (.iload_n 3, 1) := by decide +kernel
theorem dX6_sign_76 : decode cX6_sign 76 = .ok (.aload_n 0, 1) := by decide +kernel
theorem dX6_sign_77 : decode cX6_sign 77 = .ok (.getfield 10, 3) := by decide +kernel
theorem dX6_sign_80 : decode cX6_sign 80 = .ok (.getfield 125, 3) := by decide +kernel
theorem dX6_sign_83 : decode cX6_sign 83 = .ok (.iload 4, 2) := by decide +kernel
theorem dX6_sign_85 : decode cX6_sign 85 = .ok (.iaload, 1) := by decide +kernel
theorem dX6_sign_86 : decode cX6_sign 86 = .ok (.iconst 2, 1) := by decide +kernel
theorem dX6_sign_87 : decode cX6_sign 87 = .ok (.irem, 1) := by decide +kernel
theorem dX6_sign_88 : decode cX6_sign 88 = .ok (.ifCond .ne 11, 3) := by decide +kernel
theorem dX6_sign_91 : decode cX6_sign 91 = .ok (.iload 6, 2) := by decide +kernel
theorem dX6_sign_93 : decode cX6_sign 93 = .ok (.iload 6, 2) := by decide +kernel
theorem dX6_sign_95 : decode cX6_sign 95 = .ok (.imul, 1) := by decide +kernel
theorem dX6_sign_96 : decode cX6_sign 96 = .ok (.goto 5, 3) := by decide +kernel
theorem dX6_sign_99 : decode cX6_sign 99 = .ok (.iload 6, 2) := by decide +kernel
theorem dX6_sign_101 : decode cX6_sign 101 = .ok (.imul, 1) := by decide +kernel
theorem dX6_sign_102 : decode cX6_sign 102 = .ok (.istore_n 3, 1) := by decide +kernel
theorem dX6_sign_103 : decode cX6_sign 103 = .ok (.iinc 4 1, 3) := by decide +kernel
theorem dX6_sign_106 : decode cX6_sign 106 = .ok (.goto (-63), 3) := by decide +kernel
theorem dX6_sign_109 : decode cX6_sign 109 = .ok (.iload_n 3, 1) := by decide +kernel
theorem dX6_sign_110 : decode cX6_sign 110 = .ok (.ireturn, 1) := by decide +kernel
set_option maxRecDepth 20000 in
theorem ggX6_write_X5_hasRoom : GoodIn wsX6_write wsX5_hasRoom := goodIn_r _ [6, 7, 8, 23, 24] (by decide +kernel) (by decide +kernel)
set_option maxRecDepth 20000 in
theorem gX6_write_X5_hasRoom : GoodIn wsX6_write (wsV RX6 128 RX5 yX5_hasRoom wsX5_hasRoom) := goodIn_app (goodIn_of _ (by decide +kernel)) ggX6_write_X5_hasRoom
set_option maxRecDepth 20000 in
theorem ggX6_write_X5_append : GoodIn wsX6_write wsX5_append := goodIn_r _ [12, 7, 8, 23, 24] (by decide +kernel) (by decide +kernel)
set_option maxRecDepth 20000 in
theorem gX6_write_X5_append : GoodIn wsX6_write (wsV RX6 131 RX5 yX5_append wsX5_append) := goodIn_app (goodIn_of _ (by decide +kernel)) ggX6_write_X5_append
theorem dX6_write_0 : decode cX6_write 0 = .ok (.iload_n 1, 1) := by decide +kernel
theorem dX6_write_1 : decode cX6_write 1 = .ok (.iconst 1, 1) := by decide +kernel
theorem dX6_write_2 : decode cX6_write 2 = .ok (.if_icmp .lt 9, 3) := by decide +kernel
theorem dX6_write_5 : decode cX6_write 5 = .ok (.iload_n 1, 1) := by decide +kernel
theorem dX6_write_6 : decode cX6_write 6 = .ok (.bipush 8, 2) := by decide +kernel
theorem dX6_write_8 : decode cX6_write 8 = .ok (.if_icmp .le 5, 3) := by decide +kernel
theorem dX6_write_11 : decode cX6_write 11 = .ok (.iconst (-1), 1) := by decide +kernel
theorem dX6_write_12 : decode cX6_write 12 = .ok (.ireturn, 1) := by decide +kernel
theorem dX6_write_13 : decode cX6_write 13 = .ok (.aload_n 0, 1) := by decide +kernel
theorem dX6_write_14 : decode cX6_write 14 = .ok (.getfield 29, 3) := by decide +kernel
theorem dX6_write_17 : decode cX6_write 17 = .ok (.iload_n 1, 1) := by decide +kernel
theorem dX6_write_18 : decode cX6_write 18 = .ok (.invokevirtual 128, 3) := by decide +kernel
theorem dX6_write_21 : decode cX6_write 21 = .ok (.ifCond .ne 6, 3) := by decide +kernel
theorem dX6_write_24 : decode cX6_write 24 = .ok (.bipush (-3), 2) := by decide +kernel
theorem dX6_write_26 : decode cX6_write 26 = .ok (.ireturn, 1) := by decide +kernel
theorem dX6_write_27 : decode cX6_write 27 = .ok (.aload_n 0, 1) := by decide +kernel
theorem dX6_write_28 : decode cX6_write 28 = .ok (.getfield 29, 3) := by decide +kernel
theorem dX6_write_31 : decode cX6_write 31 = .ok (.iload_n 1, 1) := by decide +kernel
theorem dX6_write_32 : decode cX6_write 32 = .ok (.lload_n 2, 1) := by decide +kernel
theorem dX6_write_33 : decode cX6_write 33 = .ok (.invokevirtual 131, 3) := by decide +kernel
theorem dX6_write_36 : decode cX6_write 36 = .ok (.aload_n 0, 1) := by decide +kernel
theorem dX6_write_37 : decode cX6_write 37 = .ok (.getfield 29, 3) := by decide +kernel
theorem dX6_write_40 : decode cX6_write 40 = .ok (.getfield 135, 3) := by decide +kernel
theorem dX6_write_43 : decode cX6_write 43 = .ok (.ireturn, 1) := by decide +kernel
theorem dX6_wipe_0 : decode cX6_wipe 0 = .ok (.aload_n 0, 1) := by decide +kernel
theorem dX6_wipe_1 : decode cX6_wipe 1 = .ok (.getfield 29, 3) := by decide +kernel
theorem dX6_wipe_4 : decode cX6_wipe 4 = .ok (.getfield 135, 3) := by decide +kernel
theorem dX6_wipe_7 : decode cX6_wipe 7 = .ok (.istore_n 1, 1) := by decide +kernel
theorem dX6_wipe_8 : decode cX6_wipe 8 = .ok (.aload_n 0, 1) := by decide +kernel
theorem dX6_wipe_9 : decode cX6_wipe 9 = .ok (.getfield 29, 3) := by decide +kernel
theorem dX6_wipe_12 : decode cX6_wipe 12 = .ok (.iconst 0, 1) := by decide +kernel
theorem dX6_wipe_13 : decode cX6_wipe 13 = .ok (.putfield 135, 3) := by decide +kernel
theorem dX6_wipe_16 : decode cX6_wipe 16 = .ok (.iload_n 1, 1) := by decide +kernel
theorem dX6_wipe_17 : decode cX6_wipe 17 = .ok (.ireturn, 1) := by decide +kernel
set_option maxRecDepth 20000 in
theorem ggX6_fault_X1_read : GoodIn wsX6_fault wsX1_read := goodIn_r _ [7, 8, 9, 10, 11, 12, 13, 14, 15, 16, 17, 18, 19, 20, 21, 22, 6, 23, 24, 25, 26, 27, 40, 41, 42, 43, 44, 38, 39] (by decide +kernel) (by decide +kernel)
set_option maxRecDepth 20000 in
theorem gX6_fault_X1_read : GoodIn wsX6_fault (wsV RX6 138 RX1 yX1_read wsX1_read) := goodIn_app (goodIn_of _ (by decide +kernel)) ggX6_fault_X1_read
theorem dX6_fault_0 : decode cX6_fault 0 = .ok (.iconst 0, 1) := by decide +kernel
theorem dX6_fault_1 : decode cX6_fault 1 = .ok (.istore_n 1, 1) := by decide +kernel
theorem dX6_fault_2 : decode cX6_fault 2 = .ok (.iconst 0, 1) := by decide +kernel
theorem dX6_fault_3 : decode cX6_fault 3 = .ok (.istore_n 2, 1) := by decide +kernel
theorem dX6_fault_4 : decode cX6_fault 4 = .ok (.iload_n 2, 1) := by decide +kernel
theorem dX6_fault_5 : decode cX6_fault 5 = .ok (.bipush 8, 2) := by decide +kernel
theorem dX6_fault_7 : decode cX6_fault 7 = .ok (.if_icmp .ge 45, 3) := by decide +kernel
theorem dX6_fault_10 : decode cX6_fault 10 = .ok (.iload_n 1, 1) := by decide +kernel
theorem dX6_fault_11 : decode cX6_fault 11 = .ok (.aload_n 0, 1) := by decide +kernel
theorem dX6_fault_12 : decode cX6_fault 12 = .ok (.getfield 29, 3) := by decide +kernel
theorem dX6_fault_15 : decode cX6_fault 15 = .ok (.getfield 135, 3) := by decide +kernel
theorem dX6_fault_18 : decode cX6_fault 18 = .ok (.if_icmp .ge 34, 3) := by decide +kernel
theorem dX6_fault_21 : decode cX6_fault 21 = .ok (.aload_n 0, 1) := by decide +kernel
theorem dX6_fault_22 : decode cX6_fault 22 = .ok (.getfield 36, 3) := by decide +kernel
theorem dX6_fault_25 : decode cX6_fault 25 = .ok (.aload_n 0, 1) := by decide +kernel
theorem dX6_fault_26 : decode cX6_fault 26 = .ok (.getfield 29, 3) := by decide +kernel
theorem dX6_fault_29 : decode cX6_fault 29 = .ok (.iload_n 1, 1) := by decide +kernel
theorem dX6_fault_30 : decode cX6_fault 30 = .ok (.invokevirtual 138, 3) := by decide +kernel
theorem dX6_fault_33 : decode cX6_fault 33 = .ok (.ifCond .ne 5, 3) := by decide +kernel
theorem dX6_fault_36 : decode cX6_fault 36 = .ok (.iload_n 1, 1) := by decide +kernel
theorem dX6_fault_37 : decode cX6_fault 37 = .ok (.ireturn, 1) := by decide +kernel
theorem dX6_fault_38 : decode cX6_fault 38 = .ok (.aload_n 0, 1) := by decide +kernel
theorem dX6_fault_39 : decode cX6_fault 39 = .ok (.getfield 36, 3) := by decide +kernel
theorem dX6_fault_42 : decode cX6_fault 42 = .ok (.getfield 142, 3) := by decide +kernel
theorem dX6_fault_45 : decode cX6_fault 45 = .ok (.istore_n 1, 1) := by decide +kernel
theorem dX6_fault_46 : decode cX6_fault 46 = .ok (.iinc 2 1, 3) := by decide +kernel
theorem dX6_fault_49 : decode cX6_fault 49 = .ok (.goto (-45), 3) := by decide +kernel
theorem dX6_fault_52 : decode cX6_fault 52 = .ok (.iload_n 1, 1) := by decide +kernel
theorem dX6_fault_53 : decode cX6_fault 53 = .ok (.aload_n 0, 1) := by decide +kernel
theorem dX6_fault_54 : decode cX6_fault 54 = .ok (.getfield 29, 3) := by decide +kernel
theorem dX6_fault_57 : decode cX6_fault 57 = .ok (.getfield 135, 3) := by decide +kernel
theorem dX6_fault_60 : decode cX6_fault 60 = .ok (.if_icmp .ge 7, 3) := by decide +kernel
theorem dX6_fault_63 : decode cX6_fault 63 = .ok (.iload_n 1, 1) := by decide +kernel
theorem dX6_fault_64 : decode cX6_fault 64 = .ok (.goto 5, 3) := by decide +kernel
theorem dX6_fault_67 : decode cX6_fault 67 = .ok (.bipush (-4), 2) := by decide +kernel
theorem dX6_fault_69 : decode cX6_fault 69 = .ok (.ireturn, 1) := by decide +kernel
set_option maxRecDepth 20000 in
theorem ggX6_lay_X6_fault : GoodIn wsX6_lay wsX6_fault := goodIn_r _ [9, 4, 3, 10, 11, 12, 13, 14, 15, 16, 17, 18, 19, 20, 21, 22, 23, 24, 25, 26, 27, 28, 29, 30, 31, 32, 33, 34, 88, 89, 90, 91, 92, 93, 94, 95, 96, 97, 103, 104, 98, 99, 100, 101, 102] (by decide +kernel) (by decide +kernel)
set_option maxRecDepth 20000 in
theorem gX6_lay_X6_fault : GoodIn wsX6_lay (wsV RX6 145 RX6 yX6_fault wsX6_fault) := goodIn_app (goodIn_of _ (by decide +kernel)) ggX6_lay_X6_fault
set_option maxRecDepth 20000 in
theorem ggX6_lay_X6_periodOfText : GoodIn wsX6_lay wsX6_periodOfText := goodIn_r _ [38, 1, 3, 4, 10, 11, 12, 13, 14, 15, 16, 17, 18, 19, 20, 21, 22, 23, 24, 25, 26, 27, 28, 29, 30, 31, 32, 33, 34, 39, 40, 41, 42, 43, 44, 45, 88, 89, 90, 91, 92, 93, 94, 95, 96, 97, 98, 99, 100, 101, 102, 103, 104] (by decide +kernel) (by decide +kernel)
set_option maxRecDepth 20000 in
theorem gX6_lay_X6_periodOfText : GoodIn wsX6_lay (wsV RX6 148 RX6 yX6_periodOfText wsX6_periodOfText) := goodIn_app (goodIn_of _ (by decide +kernel)) ggX6_lay_X6_periodOfText
set_option maxRecDepth 20000 in
theorem ggX6_lay_X2_clear : GoodIn wsX6_lay wsX2_clear := goodIn_r _ [50, 51, 105, 106, 107, 108, 109, 110] (by decide +kernel) (by decide +kernel)
set_option maxRecDepth 20000 in
theorem gX6_lay_X2_clear : GoodIn wsX6_lay (wsV RX6 152 RX2 yX2_clear wsX2_clear) := goodIn_app (goodIn_of _ (by decide +kernel)) ggX6_lay_X2_clear
set_option maxRecDepth 20000 in
theorem ggX6_lay_X1_read : GoodIn wsX6_lay wsX1_read := goodIn_r _ [14, 15, 16, 17, 18, 19, 20, 21, 22, 23, 24, 25, 26, 27, 28, 29, 13, 30, 31, 32, 33, 34, 98, 99, 100, 101, 102, 103, 104] (by decide +kernel) (by decide +kernel)
set_option maxRecDepth 20000 in
theorem gX6_lay_X1_read : GoodIn wsX6_lay (wsV RX6 138 RX1 yX1_read wsX1_read) := goodIn_app (goodIn_of _ (by decide +kernel)) ggX6_lay_X1_read
set_option maxRecDepth 20000 in
theorem ggX6_lay_X2_add : GoodIn wsX6_lay wsX2_add := goodIn_r _ [55, 51, 56, 57, 58, 59, 60, 61, 13, 62, 15, 19, 17, 18, 63, 64, 41, 65, 105, 106, 107, 108, 109, 110, 98, 99, 100, 101, 102] (by decide +kernel) (by decide +kernel)
set_option maxRecDepth 20000 in
theorem gX6_lay_X2_add : GoodIn wsX6_lay (wsV RX6 155 RX2 yX2_add wsX2_add) := goodIn_app (goodIn_of _ (by decide +kernel)) ggX6_lay_X2_add
set_option maxRecDepth 20000 in
theorem ggX6_lay_X2_close : GoodIn wsX6_lay wsX2_close := goodIn_r _ [69, 70, 71, 72, 73, 74, 75, 49, 76, 51, 77, 78, 79, 80, 57, 58, 81, 82, 83, 84, 85, 86, 87, 105, 106, 107, 108, 109, 110] (by decide +kernel) (by decide +kernel)
set_option maxRecDepth 20000 in
theorem gX6_lay_X2_close : GoodIn wsX6_lay (wsV RX6 159 RX2 yX2_close wsX2_close) := goodIn_app (goodIn_of _ (by decide +kernel)) ggX6_lay_X2_close
theorem dX6_lay_0 : decode cX6_lay 0 = .ok (.aload_n 0, 1) := by decide +kernel
theorem dX6_lay_1 : decode cX6_lay 1 = .ok (.invokevirtual 145, 3) := by decide +kernel
theorem dX6_lay_4 : decode cX6_lay 4 = .ok (.bipush (-4), 2) := by decide +kernel
theorem dX6_lay_6 : decode cX6_lay 6 = .ok (.if_icmp .eq 6, 3) := by decide +kernel
theorem dX6_lay_9 : decode cX6_lay 9 = .ok (.bipush (-2), 2) := by decide +kernel
theorem dX6_lay_11 : decode cX6_lay 11 = .ok (.ireturn, 1) := by decide +kernel
theorem dX6_lay_12 : decode cX6_lay 12 = .ok (.aload_n 0, 1) := by decide +kernel
theorem dX6_lay_13 : decode cX6_lay 13 = .ok (.invokevirtual 148, 3) := by decide +kernel
theorem dX6_lay_16 : decode cX6_lay 16 = .ok (.istore_n 1, 1) := by decide +kernel
theorem dX6_lay_17 : decode cX6_lay 17 = .ok (.iload_n 1, 1) := by decide +kernel
theorem dX6_lay_18 : decode cX6_lay 18 = .ok (.ldc 151, 2) := by decide +kernel
theorem dX6_lay_20 : decode cX6_lay 20 = .ok (.if_icmp .le 6, 3) := by decide +kernel
theorem dX6_lay_23 : decode cX6_lay 23 = .ok (.bipush (-2), 2) := by decide +kernel
theorem dX6_lay_25 : decode cX6_lay 25 = .ok (.ireturn, 1) := by decide +kernel
theorem dX6_lay_26 : decode cX6_lay 26 = .ok (.aload_n 0, 1) := by decide +kernel
theorem dX6_lay_27 : decode cX6_lay 27 = .ok (.getfield 43, 3) := by decide +kernel
theorem dX6_lay_30 : decode cX6_lay 30 = .ok (.invokevirtual 152, 3) := by decide +kernel
theorem dX6_lay_33 : decode cX6_lay 33 = .ok (.iconst 0, 1) := by decide +kernel
theorem dX6_lay_34 : decode cX6_lay 34 = .ok (.istore_n 2, 1) := by decide +kernel
theorem dX6_lay_35 : decode cX6_lay 35 = .ok (.iconst 0, 1) := by decide +kernel
theorem dX6_lay_36 : decode cX6_lay 36 = .ok (.istore_n 3, 1) := by decide +kernel
theorem dX6_lay_37 : decode cX6_lay 37 = .ok (.iload_n 3, 1) := by decide +kernel
theorem dX6_lay_38 : decode cX6_lay 38 = .ok (.bipush 8, 2) := by decide +kernel
theorem dX6_lay_40 : decode cX6_lay 40 = .ok (.if_icmp .ge 43, 3) := by decide +kernel
theorem dX6_lay_43 : decode cX6_lay 43 = .ok (.aload_n 0, 1) := by decide +kernel
theorem dX6_lay_44 : decode cX6_lay 44 = .ok (.getfield 36, 3) := by decide +kernel
theorem dX6_lay_47 : decode cX6_lay 47 = .ok (.aload_n 0, 1) := by decide +kernel
theorem dX6_lay_48 : decode cX6_lay 48 = .ok (.getfield 29, 3) := by decide +kernel
theorem dX6_lay_51 : decode cX6_lay 51 = .ok (.iload_n 2, 1) := by decide +kernel
theorem dX6_lay_52 : decode cX6_lay 52 = .ok (.invokevirtual 138, 3) := by decide +kernel
theorem dX6_lay_55 : decode cX6_lay 55 = .ok (.ifCond .eq 28, 3) := by decide +kernel
theorem dX6_lay_58 : decode cX6_lay 58 = .ok (.aload_n 0, 1) := by decide +kernel
theorem dX6_lay_59 : decode cX6_lay 59 = .ok (.getfield 43, 3) := by decide +kernel
theorem dX6_lay_62 : decode cX6_lay 62 = .ok (.aload_n 0, 1) := by decide +kernel
theorem dX6_lay_63 : decode cX6_lay 63 = .ok (.getfield 36, 3) := by decide +kernel
theorem dX6_lay_66 : decode cX6_lay 66 = .ok (.invokevirtual 155, 3) := by decide +kernel
theorem dX6_lay_69 : decode cX6_lay 69 = .ok (.aload_n 0, 1) := by decide +kernel
theorem dX6_lay_70 : decode cX6_lay 70 = .ok (.getfield 36, 3) := by decide +kernel
theorem dX6_lay_73 : decode cX6_lay 73 = .ok (.getfield 142, 3) := by decide +kernel
theorem dX6_lay_76 : decode cX6_lay 76 = .ok (.istore_n 2, 1) := by decide +kernel
theorem dX6_lay_77 : decode cX6_lay 77 = .ok (.iinc 3 1, 3) := by decide +kernel
theorem dX6_lay_80 : decode cX6_lay 80 = .ok (.goto (-43), 3) := by decide +kernel
theorem dX6_lay_83 : decode cX6_lay 83 = .ok (.aload_n 0, 1) := by decide +kernel
theorem dX6_lay_84 : decode cX6_lay 84 = .ok (.getfield 43, 3) := by decide +kernel
theorem dX6_lay_87 : decode cX6_lay 87 = .ok (.iload_n 1, 1) := by decide +kernel
theorem dX6_lay_88 : decode cX6_lay 88 = .ok (.invokevirtual 159, 3) := by decide +kernel
theorem dX6_lay_91 : decode cX6_lay 91 = .ok (.iload_n 1, 1) := by decide +kernel
theorem dX6_lay_92 : decode cX6_lay 92 = .ok (.ireturn, 1) := by decide +kernel
theorem dX6_left_0 : decode cX6_left 0 = .ok (.aload_n 0, 1) := by decide +kernel
theorem dX6_left_1 : decode cX6_left 1 = .ok (.getfield 43, 3) := by decide +kernel
theorem dX6_left_4 : decode cX6_left 4 = .ok (.getfield 162, 3) := by decide +kernel
theorem dX6_left_7 : decode cX6_left 7 = .ok (.ireturn, 1) := by decide +kernel
set_option maxRecDepth 20000 in
theorem ggX6_ith_X2_leftAt : GoodIn wsX6_ith wsX2_leftAt := goodIn_r _ [8, 9, 10, 11, 12, 13, 14, 15, 7, 16, 17, 18, 19, 20, 21, 22, 23, 24, 25, 26, 27, 28, 29, 30, 31, 32, 33, 34, 35, 36, 37, 48, 49, 50, 51, 52, 53] (by decide +kernel) (by decide +kernel)
set_option maxRecDepth 20000 in
theorem gX6_ith_X2_leftAt : GoodIn wsX6_ith (wsV RX6 169 RX2 yX2_leftAt wsX2_leftAt) := goodIn_app (goodIn_of _ (by decide +kernel)) ggX6_ith_X2_leftAt
theorem dX6_ith_0 : decode cX6_ith 0 = .ok (.lload_n 1, 1) := by decide +kernel
theorem dX6_ith_1 : decode cX6_ith 1 = .ok (.lconst 0, 1) := by decide +kernel
theorem dX6_ith_2 : decode cX6_ith 2 = .ok (.lcmp, 1) := by decide +kernel
theorem dX6_ith_3 : decode cX6_ith 3 = .ok (.ifCond .lt 11, 3) := by decide +kernel
theorem dX6_ith_6 : decode cX6_ith 6 = .ok (.lload_n 1, 1) := by decide +kernel
theorem dX6_ith_7 : decode cX6_ith 7 = .ok (.ldc2_w 165, 3) := by decide +kernel
theorem dX6_ith_10 : decode cX6_ith 10 = .ok (.lcmp, 1) := by decide +kernel
theorem dX6_ith_11 : decode cX6_ith 11 = .ok (.ifCond .le 7, 3) := by decide +kernel
theorem dX6_ith_14 : decode cX6_ith 14 = .ok (.ldc2_w 167, 3) := by decide +kernel
theorem dX6_ith_17 : decode cX6_ith 17 = .ok (.lreturn, 1) := by decide +kernel
theorem dX6_ith_18 : decode cX6_ith 18 = .ok (.aload_n 0, 1) := by decide +kernel
theorem dX6_ith_19 : decode cX6_ith 19 = .ok (.getfield 43, 3) := by decide +kernel
theorem dX6_ith_22 : decode cX6_ith 22 = .ok (.lload_n 1, 1) := by decide +kernel
theorem dX6_ith_23 : decode cX6_ith 23 = .ok (.invokevirtual 169, 3) := by decide +kernel
theorem dX6_ith_26 : decode cX6_ith 26 = .ok (.lreturn, 1) := by decide +kernel
set_option maxRecDepth 20000 in
theorem ggX6_from_X2_leastFrom : GoodIn wsX6_from wsX2_leastFrom := goodIn_r _ [8, 9, 10, 11, 12, 13, 14, 15, 16, 7, 17, 18, 19, 20, 21, 22, 23, 24, 25, 26, 27, 28, 29, 30, 31, 32, 33, 34, 45, 46, 47, 48, 49, 50] (by decide +kernel) (by decide +kernel)
set_option maxRecDepth 20000 in
theorem gX6_from_X2_leastFrom : GoodIn wsX6_from (wsV RX6 175 RX2 yX2_leastFrom wsX2_leastFrom) := goodIn_app (goodIn_of _ (by decide +kernel)) ggX6_from_X2_leastFrom
theorem dX6_from_0 : decode cX6_from 0 = .ok (.lload_n 1, 1) := by decide +kernel
theorem dX6_from_1 : decode cX6_from 1 = .ok (.lconst 0, 1) := by decide +kernel
theorem dX6_from_2 : decode cX6_from 2 = .ok (.lcmp, 1) := by decide +kernel
theorem dX6_from_3 : decode cX6_from 3 = .ok (.ifCond .lt 11, 3) := by decide +kernel
theorem dX6_from_6 : decode cX6_from 6 = .ok (.lload_n 1, 1) := by decide +kernel
theorem dX6_from_7 : decode cX6_from 7 = .ok (.ldc2_w 173, 3) := by decide +kernel
theorem dX6_from_10 : decode cX6_from 10 = .ok (.lcmp, 1) := by decide +kernel
theorem dX6_from_11 : decode cX6_from 11 = .ok (.ifCond .le 7, 3) := by decide +kernel
theorem dX6_from_14 : decode cX6_from 14 = .ok (.ldc2_w 167, 3) := by decide +kernel
theorem dX6_from_17 : decode cX6_from 17 = .ok (.lreturn, 1) := by decide +kernel
theorem dX6_from_18 : decode cX6_from 18 = .ok (.aload_n 0, 1) := by decide +kernel
theorem dX6_from_19 : decode cX6_from 19 = .ok (.getfield 43, 3) := by decide +kernel
theorem dX6_from_22 : decode cX6_from 22 = .ok (.lload_n 1, 1) := by decide +kernel
theorem dX6_from_23 : decode cX6_from 23 = .ok (.invokevirtual 175, 3) := by decide +kernel
theorem dX6_from_26 : decode cX6_from 26 = .ok (.lreturn, 1) := by decide +kernel
set_option maxRecDepth 20000 in
theorem ggX6_needless_X2_saysNothingNew : GoodIn wsX6_needless wsX2_saysNothingNew := goodIn_r _ [6, 7, 8, 9, 10, 5, 11, 12, 13, 14, 15, 16, 17, 18, 19, 30, 31, 32, 33, 34, 35] (by decide +kernel) (by decide +kernel)
set_option maxRecDepth 20000 in
theorem gX6_needless_X2_saysNothingNew : GoodIn wsX6_needless (wsV RX6 181 RX2 yX2_saysNothingNew wsX2_saysNothingNew) := goodIn_app (goodIn_of _ (by decide +kernel)) ggX6_needless_X2_saysNothingNew
theorem dX6_needless_0 : decode cX6_needless 0 = .ok (.iload_n 1, 1) := by decide +kernel
theorem dX6_needless_1 : decode cX6_needless 1 = .ok (.ifCond .lt 14, 3) := by decide +kernel
theorem dX6_needless_4 : decode cX6_needless 4 = .ok (.iload_n 1, 1) := by decide +kernel
theorem dX6_needless_5 : decode cX6_needless 5 = .ok (.aload_n 0, 1) := by decide +kernel
theorem dX6_needless_6 : decode cX6_needless 6 = .ok (.getfield 43, 3) := by decide +kernel
theorem dX6_needless_9 : decode cX6_needless 9 = .ok (.getfield 178, 3) := by decide +kernel
theorem dX6_needless_12 : decode cX6_needless 12 = .ok (.if_icmp .lt 5, 3) := by decide +kernel
theorem dX6_needless_15 : decode cX6_needless 15 = .ok (.iconst (-1), 1) := by decide +kernel
theorem dX6_needless_16 : decode cX6_needless 16 = .ok (.ireturn, 1) := by decide +kernel
theorem dX6_needless_17 : decode cX6_needless 17 = .ok (.aload_n 0, 1) := by decide +kernel
theorem dX6_needless_18 : decode cX6_needless 18 = .ok (.getfield 43, 3) := by decide +kernel
theorem dX6_needless_21 : decode cX6_needless 21 = .ok (.iload_n 1, 1) := by decide +kernel
theorem dX6_needless_22 : decode cX6_needless 22 = .ok (.invokevirtual 181, 3) := by decide +kernel
theorem dX6_needless_25 : decode cX6_needless 25 = .ok (.ifCond .eq 7, 3) := by decide +kernel
theorem dX6_needless_28 : decode cX6_needless 28 = .ok (.iconst 1, 1) := by decide +kernel
theorem dX6_needless_29 : decode cX6_needless 29 = .ok (.goto 4, 3) := by decide +kernel
theorem dX6_needless_32 : decode cX6_needless 32 = .ok (.iconst 0, 1) := by decide +kernel
theorem dX6_needless_33 : decode cX6_needless 33 = .ok (.ireturn, 1) := by decide +kernel
set_option maxRecDepth 20000 in
theorem ggX6_lone_X2_leastEmptySet : GoodIn wsX6_lone wsX2_leastEmptySet := goodIn_r _ [6, 7, 8, 9, 10, 11, 5, 12, 13, 14, 15, 16, 17, 18, 19, 20, 21, 22, 23, 24, 25, 26, 27, 28, 29, 30, 31, 32, 33, 34, 35, 36, 37, 38, 39, 40, 41, 52, 53, 54, 55, 56, 57] (by decide +kernel) (by decide +kernel)
set_option maxRecDepth 20000 in
theorem gX6_lone_X2_leastEmptySet : GoodIn wsX6_lone (wsV RX6 184 RX2 yX2_leastEmptySet wsX2_leastEmptySet) := goodIn_app (goodIn_of _ (by decide +kernel)) ggX6_lone_X2_leastEmptySet
theorem dX6_lone_0 : decode cX6_lone 0 = .ok (.aload_n 0, 1) := by decide +kernel
theorem dX6_lone_1 : decode cX6_lone 1 = .ok (.getfield 43, 3) := by decide +kernel
theorem dX6_lone_4 : decode cX6_lone 4 = .ok (.invokevirtual 184, 3) := by decide +kernel
theorem dX6_lone_7 : decode cX6_lone 7 = .ok (.ireturn, 1) := by decide +kernel
set_option maxRecDepth 20000 in
theorem ggX6_looks_X6_isOddOne : GoodIn wsX6_looks wsX6_isOddOne := goodIn_r _ [4, 5] (by decide +kernel) (by decide +kernel)
set_option maxRecDepth 20000 in
theorem gX6_looks_X6_isOddOne : GoodIn wsX6_looks (va_wsS RX6 187 yX6_isOddOne wsX6_isOddOne) := goodIn_app (goodIn_of _ (by decide +kernel)) ggX6_looks_X6_isOddOne
set_option maxRecDepth 20000 in
theorem ggX6_looks_X4_looksStrongly : GoodIn wsX6_looks wsX4_looksStrongly := goodIn_r _ [9, 10, 11, 8, 12, 13, 14, 15, 16, 17, 18] (by decide +kernel) (by decide +kernel)
set_option maxRecDepth 20000 in
theorem gX6_looks_X4_looksStrongly : GoodIn wsX6_looks (va_wsS RX6 190 yX4_looksStrongly wsX4_looksStrongly) := goodIn_app (goodIn_of _ (by decide +kernel)) ggX6_looks_X4_looksStrongly
set_option maxRecDepth 20000 in
theorem ggX6_looks_X4_raise : GoodIn wsX6_looks wsX4_raise := goodIn_r _ [18] (by decide +kernel) (by decide +kernel)
set_option maxRecDepth 20000 in
theorem gX6_looks_X4_raise : GoodIn wsX6_looks (va_wsS RX6 94 yX4_raise wsX4_raise) := goodIn_app (goodIn_of _ (by decide +kernel)) ggX6_looks_X4_raise
set_option maxRecDepth 20000 in
theorem ggX6_looks_X4_isPrime : GoodIn wsX6_looks wsX4_isPrime := goodIn_r _ [22] (by decide +kernel) (by decide +kernel)
set_option maxRecDepth 20000 in
theorem gX6_looks_X4_isPrime : GoodIn wsX6_looks (va_wsS RX6 193 yX4_isPrime wsX4_isPrime) := goodIn_app (goodIn_of _ (by decide +kernel)) ggX6_looks_X4_isPrime
theorem dX6_looks_0 : decode cX6_looks 0 = .ok (.iload_n 1, 1) := by decide +kernel
theorem dX6_looks_1 : decode cX6_looks 1 = .ok (.invokestatic 187, 3) := by decide +kernel
theorem dX6_looks_4 : decode cX6_looks 4 = .ok (.ifCond .eq 22, 3) := by decide +kernel
theorem dX6_looks_7 : decode cX6_looks 7 = .ok (.iload_n 2, 1) := by decide +kernel
theorem dX6_looks_8 : decode cX6_looks 8 = .ok (.iconst 1, 1) := by decide +kernel
theorem dX6_looks_9 : decode cX6_looks 9 = .ok (.if_icmp .lt 17, 3) := by decide +kernel
theorem dX6_looks_12 : decode cX6_looks 12 = .ok (.iload_n 2, 1) := by decide +kernel
theorem dX6_looks_13 : decode cX6_looks 13 = .ok (.iload_n 1, 1) := by decide +kernel
theorem dX6_looks_14 : decode cX6_looks 14 = .ok (.if_icmp .ge 12, 3) := by decide +kernel
theorem dX6_looks_17 : decode cX6_looks 17 = .ok (.iload_n 3, 1) := by decide +kernel
theorem dX6_looks_18 : decode cX6_looks 18 = .ok (.ifCond .lt 8, 3) := by decide +kernel
theorem dX6_looks_21 : decode cX6_looks 21 = .ok (.iload_n 3, 1) := by decide +kernel
theorem dX6_looks_22 : decode cX6_looks 22 = .ok (.iconst 2, 1) := by decide +kernel
theorem dX6_looks_23 : decode cX6_looks 23 = .ok (.if_icmp .le 5, 3) := by decide +kernel
theorem dX6_looks_26 : decode cX6_looks 26 = .ok (.iconst (-1), 1) := by decide +kernel
theorem dX6_looks_27 : decode cX6_looks 27 = .ok (.ireturn, 1) := by decide +kernel
theorem dX6_looks_28 : decode cX6_looks 28 = .ok (.iload_n 3, 1) := by decide +kernel
theorem dX6_looks_29 : decode cX6_looks 29 = .ok (.iconst 1, 1) := by decide +kernel
theorem dX6_looks_30 : decode cX6_looks 30 = .ok (.if_icmp .ne 13, 3) := by decide +kernel
theorem dX6_looks_33 : decode cX6_looks 33 = .ok (.iload_n 1, 1) := by decide +kernel
theorem dX6_looks_34 : decode cX6_looks 34 = .ok (.iload_n 2, 1) := by decide +kernel
theorem dX6_looks_35 : decode cX6_looks 35 = .ok (.invokestatic 190, 3) := by decide +kernel
theorem dX6_looks_38 : decode cX6_looks 38 = .ok (.istore 4, 2) := by decide +kernel
theorem dX6_looks_40 : decode cX6_looks 40 = .ok (.goto 35, 3) := by decide +kernel
theorem dX6_looks_43 : decode cX6_looks 43 = .ok (.iload_n 2, 1) := by decide +kernel
theorem dX6_looks_44 : decode cX6_looks 44 = .ok (.i2l, 1) := by decide +kernel
theorem dX6_looks_45 : decode cX6_looks 45 = .ok (.iload_n 1, 1) := by decide +kernel
theorem dX6_looks_46 : decode cX6_looks 46 = .ok (.iconst 1, 1) := by decide +kernel
theorem dX6_looks_47 : decode cX6_looks 47 = .ok (.isub, 1) := by decide +kernel
theorem dX6_looks_48 : decode cX6_looks 48 = .ok (.i2l, 1) := by decide +kernel
theorem dX6_looks_49 : decode cX6_looks 49 = .ok (.iload_n 1, 1) := by decide +kernel
theorem dX6_looks_50 : decode cX6_looks 50 = .ok (.invokestatic 94, 3) := by decide +kernel
theorem dX6_looks_53 : decode cX6_looks 53 = .ok (.iconst 1, 1) := by decide +kernel
theorem dX6_looks_54 : decode cX6_looks 54 = .ok (.if_icmp .ne 18, 3) := by decide +kernel
theorem dX6_looks_57 : decode cX6_looks 57 = .ok (.iload_n 3, 1) := by decide +kernel
theorem dX6_looks_58 : decode cX6_looks 58 = .ok (.ifCond .eq 10, 3) := by decide +kernel
theorem dX6_looks_61 : decode cX6_looks 61 = .ok (.iload_n 1, 1) := by decide +kernel
theorem dX6_looks_62 : decode cX6_looks 62 = .ok (.invokestatic 193, 3) := by decide +kernel
theorem dX6_looks_65 : decode cX6_looks 65 = .ok (.ifCond .ne 7, 3) := by decide +kernel
theorem dX6_looks_68 : decode cX6_looks 68 = .ok (.iconst 1, 1) := by decide +kernel
theorem dX6_looks_69 : decode cX6_looks 69 = .ok (.goto 4, 3) := by decide +kernel
theorem dX6_looks_72 : decode cX6_looks 72 = .ok (.iconst 0, 1) := by decide +kernel
theorem dX6_looks_73 : decode cX6_looks 73 = .ok (.istore 4, 2) := by decide +kernel
theorem dX6_looks_75 : decode cX6_looks 75 = .ok (.iload 4, 2) := by decide +kernel
theorem dX6_looks_77 : decode cX6_looks 77 = .ok (.ifCond .eq 7, 3) := by decide +kernel
theorem dX6_looks_80 : decode cX6_looks 80 = .ok (.iconst 1, 1) := by decide +kernel
theorem dX6_looks_81 : decode cX6_looks 81 = .ok (.goto 4, 3) := by decide +kernel
theorem dX6_looks_84 : decode cX6_looks 84 = .ok (.iconst 0, 1) := by decide +kernel
theorem dX6_looks_85 : decode cX6_looks 85 = .ok (.ireturn, 1) := by decide +kernel
set_option maxRecDepth 20000 in
theorem ggX6_lied_X6_isOddOne : GoodIn wsX6_lied wsX6_isOddOne := goodIn_r _ [5, 6] (by decide +kernel) (by decide +kernel)
set_option maxRecDepth 20000 in
theorem gX6_lied_X6_isOddOne : GoodIn wsX6_lied (va_wsS RX6 187 yX6_isOddOne wsX6_isOddOne) := goodIn_app (goodIn_of _ (by decide +kernel)) ggX6_lied_X6_isOddOne
set_option maxRecDepth 20000 in
theorem ggX6_lied_X6_leastWitness : GoodIn wsX6_lied wsX6_leastWitness := goodIn_r _ [9, 10, 11, 12, 13, 14, 15, 16, 17, 18, 19, 20, 21, 22, 23, 24, 25] (by decide +kernel) (by decide +kernel)
set_option maxRecDepth 20000 in
theorem gX6_lied_X6_leastWitness : GoodIn wsX6_lied (va_wsS RX6 196 yX6_leastWitness wsX6_leastWitness) := goodIn_app (goodIn_of _ (by decide +kernel)) ggX6_lied_X6_leastWitness
set_option maxRecDepth 20000 in
theorem ggX6_lied_X0_split : GoodIn wsX6_lied wsX0_split := goodIn_r _ [30, 31, 32, 33, 34, 29, 35, 36, 37, 65, 66, 67] (by decide +kernel) (by decide +kernel)
set_option maxRecDepth 20000 in
theorem gX6_lied_X0_split : GoodIn wsX6_lied (wsV RX6 58 RX0 yX0_split wsX0_split) := goodIn_app (goodIn_of _ (by decide +kernel)) ggX6_lied_X0_split
set_option maxRecDepth 20000 in
theorem ggX6_lied_X6_looksPrimeTo : GoodIn wsX6_lied wsX6_looksPrimeTo := goodIn_r _ [41, 1, 42, 43, 12, 44, 55, 56, 57, 58, 59, 60, 61, 62, 63, 64, 65, 66, 67] (by decide +kernel) (by decide +kernel)
set_option maxRecDepth 20000 in
theorem gX6_lied_X6_looksPrimeTo : GoodIn wsX6_lied (wsV RX6 199 RX6 yX6_looksPrimeTo wsX6_looksPrimeTo) := goodIn_app (goodIn_of _ (by decide +kernel)) ggX6_lied_X6_looksPrimeTo
set_option maxRecDepth 20000 in
theorem ggX6_lied_X6_looksStronglyTo : GoodIn wsX6_lied wsX6_looksStronglyTo := goodIn_r _ [48, 1, 49, 50, 51, 52, 53, 21, 12, 22, 17, 18, 19, 42, 43, 44, 54, 55, 56, 57, 58, 59, 60, 61, 62, 63, 64, 65, 66, 67] (by decide +kernel) (by decide +kernel)
set_option maxRecDepth 20000 in
theorem gX6_lied_X6_looksStronglyTo : GoodIn wsX6_lied (wsV RX6 202 RX6 yX6_looksStronglyTo wsX6_looksStronglyTo) := goodIn_app (goodIn_of _ (by decide +kernel)) ggX6_lied_X6_looksStronglyTo
theorem dX6_lied_0 : decode cX6_lied 0 = .ok (.iload_n 1, 1) := by decide +kernel
theorem dX6_lied_1 : decode cX6_lied 1 = .ok (.invokestatic 187, 3) := by decide +kernel
theorem dX6_lied_4 : decode cX6_lied 4 = .ok (.ifCond .eq 12, 3) := by decide +kernel
theorem dX6_lied_7 : decode cX6_lied 7 = .ok (.iload_n 2, 1) := by decide +kernel
theorem dX6_lied_8 : decode cX6_lied 8 = .ok (.ifCond .lt 8, 3) := by decide +kernel
theorem dX6_lied_11 : decode cX6_lied 11 = .ok (.iload_n 2, 1) := by decide +kernel
theorem dX6_lied_12 : decode cX6_lied 12 = .ok (.iconst 2, 1) := by decide +kernel
theorem dX6_lied_13 : decode cX6_lied 13 = .ok (.if_icmp .le 5, 3) := by decide +kernel
theorem dX6_lied_16 : decode cX6_lied 16 = .ok (.iconst (-1), 1) := by decide +kernel
theorem dX6_lied_17 : decode cX6_lied 17 = .ok (.ireturn, 1) := by decide +kernel
theorem dX6_lied_18 : decode cX6_lied 18 = .ok (.iload_n 2, 1) := by decide +kernel
theorem dX6_lied_19 : decode cX6_lied 19 = .ok (.iconst 2, 1) := by decide +kernel
theorem dX6_lied_20 : decode cX6_lied 20 = .ok (.if_icmp .ne 8, 3) := by decide +kernel
theorem dX6_lied_23 : decode cX6_lied 23 = .ok (.iload_n 1, 1) := by decide +kernel
theorem dX6_lied_24 : decode cX6_lied 24 = .ok (.invokestatic 196, 3) := by decide +kernel
theorem dX6_lied_27 : decode cX6_lied 27 = .ok (.ireturn, 1) := by decide +kernel
theorem dX6_lied_28 : decode cX6_lied 28 = .ok (.aload_n 0, 1) := by decide +kernel
theorem dX6_lied_29 : decode cX6_lied 29 = .ok (.getfield 10, 3) := by decide +kernel
theorem dX6_lied_32 : decode cX6_lied 32 = .ok (.iload_n 1, 1) := by decide +kernel
theorem dX6_lied_33 : decode cX6_lied 33 = .ok (.invokevirtual 58, 3) := by decide +kernel
theorem dX6_lied_36 : decode cX6_lied 36 = .ok (.iload_n 2, 1) := by decide +kernel
theorem dX6_lied_37 : decode cX6_lied 37 = .ok (.ifCond .ne 11, 3) := by decide +kernel
theorem dX6_lied_40 : decode cX6_lied 40 = .ok (.aload_n 0, 1) := by decide +kernel
theorem dX6_lied_41 : decode cX6_lied 41 = .ok (.iload_n 1, 1) := by decide +kernel
theorem dX6_lied_42 : decode cX6_lied 42 = .ok (.invokevirtual 199, 3) := by decide +kernel
theorem dX6_lied_45 : decode cX6_lied 45 = .ok (.goto 8, 3) := by decide +kernel
theorem dX6_lied_48 : decode cX6_lied 48 = .ok (.aload_n 0, 1) := by decide +kernel
theorem dX6_lied_49 : decode cX6_lied 49 = .ok (.iload_n 1, 1) := by decide +kernel
theorem dX6_lied_50 : decode cX6_lied 50 = .ok (.invokevirtual 202, 3) := by decide +kernel
theorem dX6_lied_53 : decode cX6_lied 53 = .ok (.ireturn, 1) := by decide +kernel
set_option maxRecDepth 20000 in
theorem ggX6_falseOnes_X6_liesToAll : GoodIn wsX6_falseOnes wsX6_liesToAll := goodIn_r _ [5, 6, 7, 8, 9, 10, 11, 12, 13, 14, 15, 16, 17, 18, 19, 20, 21, 22, 23, 24, 25, 26, 27, 28, 29, 30, 31] (by decide +kernel) (by decide +kernel)
set_option maxRecDepth 20000 in
theorem gX6_falseOnes_X6_liesToAll : GoodIn wsX6_falseOnes (wsV RX6 205 RX6 yX6_liesToAll wsX6_liesToAll) := goodIn_app (goodIn_of _ (by decide +kernel)) ggX6_falseOnes_X6_liesToAll
theorem dX6_falseOnes_0 : decode cX6_falseOnes 0 = .ok (.iload_n 1, 1) := by decide +kernel
theorem dX6_falseOnes_1 : decode cX6_falseOnes 1 = .ok (.iconst 3, 1) := by decide +kernel
theorem dX6_falseOnes_2 : decode cX6_falseOnes 2 = .ok (.if_icmp .lt 15, 3) := by decide +kernel
theorem dX6_falseOnes_5 : decode cX6_falseOnes 5 = .ok (.iload_n 1, 1) := by decide +kernel
theorem dX6_falseOnes_6 : decode cX6_falseOnes 6 = .ok (.sipush 5000, 3) := by decide +kernel
theorem dX6_falseOnes_9 : decode cX6_falseOnes 9 = .ok (.if_icmp .gt 8, 3) := by decide +kernel
theorem dX6_falseOnes_12 : decode cX6_falseOnes 12 = .ok (.iload_n 2, 1) := by decide +kernel
theorem dX6_falseOnes_13 : decode cX6_falseOnes 13 = .ok (.iconst (-1), 1) := by decide +kernel
theorem dX6_falseOnes_14 : decode cX6_falseOnes 14 = .ok (.if_icmp .ge 5, 3) := by decide +kernel
theorem dX6_falseOnes_17 : decode cX6_falseOnes 17 = .ok (.iconst (-1), 1) := by decide +kernel
theorem dX6_falseOnes_18 : decode cX6_falseOnes 18 = .ok (.ireturn, 1) := by decide +kernel
theorem dX6_falseOnes_19 : decode cX6_falseOnes 19 = .ok (.iconst 0, 1) := by decide +kernel
theorem dX6_falseOnes_20 : decode cX6_falseOnes 20 = .ok (.istore_n 3, 1) := by decide +kernel
theorem dX6_falseOnes_21 : decode cX6_falseOnes 21 = .ok (.iconst 3, 1) := by decide +kernel
theorem dX6_falseOnes_22 : decode cX6_falseOnes 22 = .ok (.istore 4, 2) := by decide +kernel
theorem dX6_falseOnes_24 : decode cX6_falseOnes 24 = .ok (.iload 4, 2) := by decide +kernel
theorem dX6_falseOnes_26 : decode cX6_falseOnes 26 = .ok (.iload_n 1, 1) := by decide +kernel
theorem dX6_falseOnes_27 : decode cX6_falseOnes 27 = .ok (.if_icmp .gt 29, 3) := by decide +kernel
theorem dX6_falseOnes_30 : decode cX6_falseOnes 30 = .ok (.aload_n 0, 1) := by decide +kernel
theorem dX6_falseOnes_31 : decode cX6_falseOnes 31 = .ok (.iload 4, 2) := by decide +kernel
theorem dX6_falseOnes_33 : decode cX6_falseOnes 33 = .ok (.invokevirtual 205, 3) := by decide +kernel
theorem dX6_falseOnes_36 : decode cX6_falseOnes 36 = .ok (.ifCond .eq 14, 3) := by decide +kernel
theorem dX6_falseOnes_39 : decode cX6_falseOnes 39 = .ok (.iload_n 3, 1) := by decide +kernel
theorem dX6_falseOnes_40 : decode cX6_falseOnes 40 = .ok (.iload_n 2, 1) := by decide +kernel
theorem dX6_falseOnes_41 : decode cX6_falseOnes 41 = .ok (.if_icmp .ne 6, 3) := by decide +kernel
theorem dX6_falseOnes_44 : decode cX6_falseOnes 44 = .ok (.iload 4, 2) := by decide +kernel
theorem dX6_falseOnes_46 : decode cX6_falseOnes 46 = .ok (.ireturn, 1) := by decide +kernel
theorem dX6_falseOnes_47 : decode cX6_falseOnes 47 = .ok (.iinc 3 1, 3) := by decide +kernel
theorem dX6_falseOnes_50 : decode cX6_falseOnes 50 = .ok (.iinc 4 2, 3) := by decide +kernel
theorem dX6_falseOnes_53 : decode cX6_falseOnes 53 = .ok (.goto (-29), 3) := by decide +kernel
theorem dX6_falseOnes_56 : decode cX6_falseOnes 56 = .ok (.iload_n 2, 1) := by decide +kernel
theorem dX6_falseOnes_57 : decode cX6_falseOnes 57 = .ok (.iconst (-1), 1) := by decide +kernel
theorem dX6_falseOnes_58 : decode cX6_falseOnes 58 = .ok (.if_icmp .ne 7, 3) := by decide +kernel
theorem dX6_falseOnes_61 : decode cX6_falseOnes 61 = .ok (.iload_n 3, 1) := by decide +kernel
theorem dX6_falseOnes_62 : decode cX6_falseOnes 62 = .ok (.goto 5, 3) := by decide +kernel
theorem dX6_falseOnes_65 : decode cX6_falseOnes 65 = .ok (.bipush (-4), 2) := by decide +kernel
theorem dX6_falseOnes_67 : decode cX6_falseOnes 67 = .ok (.ireturn, 1) := by decide +kernel
set_option maxRecDepth 20000 in
theorem ggX6_fooled_X6_findLiarsToTwo : GoodIn wsX6_fooled wsX6_findLiarsToTwo := goodIn_r _ [8, 9, 1, 2, 3, 10, 11, 12, 13, 14, 15, 16, 17, 18, 19, 20, 21, 22, 23, 24, 25, 29, 30, 31, 32, 33, 34, 35, 36, 37, 38] (by decide +kernel) (by decide +kernel)
set_option maxRecDepth 20000 in
theorem gX6_fooled_X6_findLiarsToTwo : GoodIn wsX6_fooled (wsV RX6 209 RX6 yX6_findLiarsToTwo wsX6_findLiarsToTwo) := goodIn_app (goodIn_of _ (by decide +kernel)) ggX6_fooled_X6_findLiarsToTwo
set_option maxRecDepth 20000 in
theorem ggX6_fooled_X6_looksStronglyUpTo : GoodIn wsX6_fooled wsX6_looksStronglyUpTo := goodIn_r _ [28, 10, 11, 12, 13, 14, 15, 16, 17, 18, 19, 20, 21, 22] (by decide +kernel) (by decide +kernel)
set_option maxRecDepth 20000 in
theorem gX6_fooled_X6_looksStronglyUpTo : GoodIn wsX6_fooled (va_wsS RX6 215 yX6_looksStronglyUpTo wsX6_looksStronglyUpTo) := goodIn_app (goodIn_of _ (by decide +kernel)) ggX6_fooled_X6_looksStronglyUpTo
theorem dX6_fooled_0 : decode cX6_fooled 0 = .ok (.iload_n 1, 1) := by decide +kernel
theorem dX6_fooled_1 : decode cX6_fooled 1 = .ok (.iconst 2, 1) := by decide +kernel
theorem dX6_fooled_2 : decode cX6_fooled 2 = .ok (.if_icmp .lt 25, 3) := by decide +kernel
theorem dX6_fooled_5 : decode cX6_fooled 5 = .ok (.iload_n 1, 1) := by decide +kernel
theorem dX6_fooled_6 : decode cX6_fooled 6 = .ok (.bipush 7, 2) := by decide +kernel
theorem dX6_fooled_8 : decode cX6_fooled 8 = .ok (.if_icmp .gt 19, 3) := by decide +kernel
theorem dX6_fooled_11 : decode cX6_fooled 11 = .ok (.iload_n 2, 1) := by decide +kernel
theorem dX6_fooled_12 : decode cX6_fooled 12 = .ok (.iconst 3, 1) := by decide +kernel
theorem dX6_fooled_13 : decode cX6_fooled 13 = .ok (.if_icmp .lt 14, 3) := by decide +kernel
theorem dX6_fooled_16 : decode cX6_fooled 16 = .ok (.iload_n 2, 1) := by decide +kernel
theorem dX6_fooled_17 : decode cX6_fooled 17 = .ok (.ldc 208, 2) := by decide +kernel
theorem dX6_fooled_19 : decode cX6_fooled 19 = .ok (.if_icmp .gt 8, 3) := by decide +kernel
theorem dX6_fooled_22 : decode cX6_fooled 22 = .ok (.iload_n 3, 1) := by decide +kernel
theorem dX6_fooled_23 : decode cX6_fooled 23 = .ok (.iconst (-1), 1) := by decide +kernel
theorem dX6_fooled_24 : decode cX6_fooled 24 = .ok (.if_icmp .ge 5, 3) := by decide +kernel
theorem dX6_fooled_27 : decode cX6_fooled 27 = .ok (.iconst (-1), 1) := by decide +kernel
theorem dX6_fooled_28 : decode cX6_fooled 28 = .ok (.ireturn, 1) := by decide +kernel
theorem dX6_fooled_29 : decode cX6_fooled 29 = .ok (.aload_n 0, 1) := by decide +kernel
theorem dX6_fooled_30 : decode cX6_fooled 30 = .ok (.invokevirtual 209, 3) := by decide +kernel
theorem dX6_fooled_33 : decode cX6_fooled 33 = .ok (.iconst 0, 1) := by decide +kernel
theorem dX6_fooled_34 : decode cX6_fooled 34 = .ok (.istore 4, 2) := by decide +kernel
theorem dX6_fooled_36 : decode cX6_fooled 36 = .ok (.iconst 0, 1) := by decide +kernel
theorem dX6_fooled_37 : decode cX6_fooled 37 = .ok (.istore 5, 2) := by decide +kernel
theorem dX6_fooled_39 : decode cX6_fooled 39 = .ok (.iload 5, 2) := by decide +kernel
theorem dX6_fooled_41 : decode cX6_fooled 41 = .ok (.aload_n 0, 1) := by decide +kernel
theorem dX6_fooled_42 : decode cX6_fooled 42 = .ok (.getfield 212, 3) := by decide +kernel
theorem dX6_fooled_45 : decode cX6_fooled 45 = .ok (.if_icmp .ge 51, 3) := by decide +kernel
theorem dX6_fooled_48 : decode cX6_fooled 48 = .ok (.aload_n 0, 1) := by decide +kernel
theorem dX6_fooled_49 : decode cX6_fooled 49 = .ok (.getfield 51, 3) := by decide +kernel
theorem dX6_fooled_52 : decode cX6_fooled 52 = .ok (.iload 5, 2) := by decide +kernel
theorem dX6_fooled_54 : decode cX6_fooled 54 = .ok (.iaload, 1) := by decide +kernel
theorem dX6_fooled_55 : decode cX6_fooled 55 = .ok (.iload_n 2, 1) := by decide +kernel
theorem dX6_fooled_56 : decode cX6_fooled 56 = .ok (.if_icmp .gt 40, 3) := by decide +kernel
theorem dX6_fooled_59 : decode cX6_fooled 59 = .ok (.aload_n 0, 1) := by decide +kernel
theorem dX6_fooled_60 : decode cX6_fooled 60 = .ok (.getfield 51, 3) := by decide +kernel
theorem dX6_fooled_63 : decode cX6_fooled 63 = .ok (.iload 5, 2) := by decide +kernel
theorem dX6_fooled_65 : decode cX6_fooled 65 = .ok (.iaload, 1) := by decide +kernel
theorem dX6_fooled_66 : decode cX6_fooled 66 = .ok (.iload_n 1, 1) := by decide +kernel
theorem dX6_fooled_67 : decode cX6_fooled 67 = .ok (.invokestatic 215, 3) := by decide +kernel
theorem dX6_fooled_70 : decode cX6_fooled 70 = .ok (.ifCond .eq 20, 3) := by decide +kernel
theorem dX6_fooled_73 : decode cX6_fooled 73 = .ok (.iload 4, 2) := by decide +kernel
theorem dX6_fooled_75 : decode cX6_fooled 75 = .ok (.iload_n 3, 1) := by decide +kernel
theorem dX6_fooled_76 : decode cX6_fooled 76 = .ok (.if_icmp .ne 11, 3) := by decide +kernel
theorem dX6_fooled_79 : decode cX6_fooled 79 = .ok (.aload_n 0, 1) := by decide +kernel
theorem dX6_fooled_80 : decode cX6_fooled 80 = .ok (.getfield 51, 3) := by decide +kernel
theorem dX6_fooled_83 : decode cX6_fooled 83 = .ok (.iload 5, 2) := by decide +kernel
theorem dX6_fooled_85 : decode cX6_fooled 85 = .ok (.iaload, 1) := by decide +kernel
theorem dX6_fooled_86 : decode cX6_fooled 86 = .ok (.ireturn, 1) := by decide +kernel
theorem dX6_fooled_87 : decode cX6_fooled 87 = .ok (.iinc 4 1, 3) := by decide +kernel
theorem dX6_fooled_90 : decode cX6_fooled 90 = .ok (.iinc 5 1, 3) := by decide +kernel
theorem dX6_fooled_93 : decode cX6_fooled 93 = .ok (.goto (-54), 3) := by decide +kernel
theorem dX6_fooled_96 : decode cX6_fooled 96 = .ok (.iload_n 3, 1) := by decide +kernel
theorem dX6_fooled_97 : decode cX6_fooled 97 = .ok (.iconst (-1), 1) := by decide +kernel
theorem dX6_fooled_98 : decode cX6_fooled 98 = .ok (.if_icmp .ne 8, 3) := by decide +kernel
theorem dX6_fooled_101 : decode cX6_fooled 101 = .ok (.iload 4, 2) := by decide +kernel
theorem dX6_fooled_103 : decode cX6_fooled 103 = .ok (.goto 5, 3) := by decide +kernel
theorem dX6_fooled_106 : decode cX6_fooled 106 = .ok (.bipush (-4), 2) := by decide +kernel
theorem dX6_fooled_108 : decode cX6_fooled 108 = .ok (.ireturn, 1) := by decide +kernel
set_option maxRecDepth 20000 in
theorem ggX6_broken_X6_isBase : GoodIn wsX6_broken wsX6_isBase := goodIn_r _ [4] (by decide +kernel) (by decide +kernel)
set_option maxRecDepth 20000 in
theorem gX6_broken_X6_isBase : GoodIn wsX6_broken (va_wsS RX6 218 yX6_isBase wsX6_isBase) := goodIn_app (goodIn_of _ (by decide +kernel)) ggX6_broken_X6_isBase
set_option maxRecDepth 20000 in
theorem ggX6_broken_X6_isDivisor : GoodIn wsX6_broken wsX6_isDivisor := goodIn_r _ [7, 8] (by decide +kernel) (by decide +kernel)
set_option maxRecDepth 20000 in
theorem gX6_broken_X6_isDivisor : GoodIn wsX6_broken (va_wsS RX6 54 yX6_isDivisor wsX6_isDivisor) := goodIn_app (goodIn_of _ (by decide +kernel)) ggX6_broken_X6_isDivisor
set_option maxRecDepth 20000 in
theorem ggX6_broken_X6_aheadOf : GoodIn wsX6_broken wsX6_aheadOf := goodIn_r _ [11, 12, 13, 3, 14, 15, 16, 17, 18, 19, 20, 21] (by decide +kernel) (by decide +kernel)
set_option maxRecDepth 20000 in
theorem gX6_broken_X6_aheadOf : GoodIn wsX6_broken (va_wsS RX6 221 yX6_aheadOf wsX6_aheadOf) := goodIn_app (goodIn_of _ (by decide +kernel)) ggX6_broken_X6_aheadOf
set_option maxRecDepth 20000 in
theorem ggX6_broken_X6_roundOf : GoodIn wsX6_broken wsX6_roundOf := goodIn_r _ [25, 12, 13, 3, 14, 15, 16, 17, 18, 26, 27, 28, 29, 30, 31, 32, 33, 34, 35, 36, 37, 38, 39, 40, 41, 42, 43, 44, 45, 46, 47, 48, 49, 50, 51, 52, 53, 54, 55, 56, 57, 58, 59, 60, 61, 62, 63, 19, 20, 21, 64, 65, 66, 67, 68, 69, 70, 71, 72, 73, 74, 75, 76] (by decide +kernel) (by decide +kernel)
set_option maxRecDepth 20000 in
theorem gX6_broken_X6_roundOf : GoodIn wsX6_broken (wsV RX6 224 RX6 yX6_roundOf wsX6_roundOf) := goodIn_app (goodIn_of _ (by decide +kernel)) ggX6_broken_X6_roundOf
theorem dX6_broken_0 : decode cX6_broken 0 = .ok (.iload_n 1, 1) := by decide +kernel
theorem dX6_broken_1 : decode cX6_broken 1 = .ok (.invokestatic 218, 3) := by decide +kernel
theorem dX6_broken_4 : decode cX6_broken 4 = .ok (.ifCond .eq 19, 3) := by decide +kernel
theorem dX6_broken_7 : decode cX6_broken 7 = .ok (.iload_n 2, 1) := by decide +kernel
theorem dX6_broken_8 : decode cX6_broken 8 = .ok (.invokestatic 54, 3) := by decide +kernel
theorem dX6_broken_11 : decode cX6_broken 11 = .ok (.ifCond .eq 12, 3) := by decide +kernel
theorem dX6_broken_14 : decode cX6_broken 14 = .ok (.iload_n 3, 1) := by decide +kernel
theorem dX6_broken_15 : decode cX6_broken 15 = .ok (.ifCond .lt 8, 3) := by decide +kernel
theorem dX6_broken_18 : decode cX6_broken 18 = .ok (.iload_n 3, 1) := by decide +kernel
theorem dX6_broken_19 : decode cX6_broken 19 = .ok (.iconst 1, 1) := by decide +kernel
theorem dX6_broken_20 : decode cX6_broken 20 = .ok (.if_icmp .le 5, 3) := by decide +kernel
theorem dX6_broken_23 : decode cX6_broken 23 = .ok (.iconst (-1), 1) := by decide +kernel
theorem dX6_broken_24 : decode cX6_broken 24 = .ok (.ireturn, 1) := by decide +kernel
theorem dX6_broken_25 : decode cX6_broken 25 = .ok (.iload_n 3, 1) := by decide +kernel
theorem dX6_broken_26 : decode cX6_broken 26 = .ok (.ifCond .ne 11, 3) := by decide +kernel
theorem dX6_broken_29 : decode cX6_broken 29 = .ok (.iload_n 1, 1) := by decide +kernel
theorem dX6_broken_30 : decode cX6_broken 30 = .ok (.iload_n 2, 1) := by decide +kernel
theorem dX6_broken_31 : decode cX6_broken 31 = .ok (.invokestatic 221, 3) := by decide +kernel
theorem dX6_broken_34 : decode cX6_broken 34 = .ok (.goto 9, 3) := by decide +kernel
theorem dX6_broken_37 : decode cX6_broken 37 = .ok (.aload_n 0, 1) := by decide +kernel
theorem dX6_broken_38 : decode cX6_broken 38 = .ok (.iload_n 1, 1) := by decide +kernel
theorem dX6_broken_39 : decode cX6_broken 39 = .ok (.iload_n 2, 1) := by decide +kernel
theorem dX6_broken_40 : decode cX6_broken 40 = .ok (.invokevirtual 224, 3) := by decide +kernel
theorem dX6_broken_43 : decode cX6_broken 43 = .ok (.ireturn, 1) := by decide +kernel
set_option maxRecDepth 20000 in
theorem ggX6_figure_X6_isBase : GoodIn wsX6_figure wsX6_isBase := goodIn_r _ [5] (by decide +kernel) (by decide +kernel)
set_option maxRecDepth 20000 in
theorem gX6_figure_X6_isBase : GoodIn wsX6_figure (va_wsS RX6 218 yX6_isBase wsX6_isBase) := goodIn_app (goodIn_of _ (by decide +kernel)) ggX6_figure_X6_isBase
set_option maxRecDepth 20000 in
theorem ggX6_figure_X6_isDivisor : GoodIn wsX6_figure wsX6_isDivisor := goodIn_r _ [8, 9] (by decide +kernel) (by decide +kernel)
set_option maxRecDepth 20000 in
theorem gX6_figure_X6_isDivisor : GoodIn wsX6_figure (va_wsS RX6 54 yX6_isDivisor wsX6_isDivisor) := goodIn_app (goodIn_of _ (by decide +kernel)) ggX6_figure_X6_isDivisor
set_option maxRecDepth 20000 in
theorem ggX6_figure_X4_raise : GoodIn wsX6_figure wsX4_raise := goodIn_r _ [13] (by decide +kernel) (by decide +kernel)
set_option maxRecDepth 20000 in
theorem gX6_figure_X4_raise : GoodIn wsX6_figure (va_wsS RX6 94 yX4_raise wsX4_raise) := goodIn_app (goodIn_of _ (by decide +kernel)) ggX6_figure_X4_raise
theorem dX6_figure_0 : decode cX6_figure 0 = .ok (.iload_n 1, 1) := by decide +kernel
theorem dX6_figure_1 : decode cX6_figure 1 = .ok (.invokestatic 218, 3) := by decide +kernel
theorem dX6_figure_4 : decode cX6_figure 4 = .ok (.ifCond .eq 20, 3) := by decide +kernel
theorem dX6_figure_7 : decode cX6_figure 7 = .ok (.iload_n 2, 1) := by decide +kernel
theorem dX6_figure_8 : decode cX6_figure 8 = .ok (.invokestatic 54, 3) := by decide +kernel
theorem dX6_figure_11 : decode cX6_figure 11 = .ok (.ifCond .eq 13, 3) := by decide +kernel
theorem dX6_figure_14 : decode cX6_figure 14 = .ok (.iload_n 3, 1) := by decide +kernel
theorem dX6_figure_15 : decode cX6_figure 15 = .ok (.ifCond .lt 9, 3) := by decide +kernel
theorem dX6_figure_18 : decode cX6_figure 18 = .ok (.iload_n 3, 1) := by decide +kernel
theorem dX6_figure_19 : decode cX6_figure 19 = .ok (.ldc 113, 2) := by decide +kernel
theorem dX6_figure_21 : decode cX6_figure 21 = .ok (.if_icmp .le 5, 3) := by decide +kernel
theorem dX6_figure_24 : decode cX6_figure 24 = .ok (.iconst (-1), 1) := by decide +kernel
theorem dX6_figure_25 : decode cX6_figure 25 = .ok (.ireturn, 1) := by decide +kernel
theorem dX6_figure_26 : decode cX6_figure 26 = .ok (.iload_n 1, 1) := by decide +kernel
theorem dX6_figure_27 : decode cX6_figure 27 = .ok (.iload_n 1, 1) := by decide +kernel
theorem dX6_figure_28 : decode cX6_figure 28 = .ok (.i2l, 1) := by decide +kernel
theorem dX6_figure_29 : decode cX6_figure 29 = .ok (.iload_n 3, 1) := by decide +kernel
theorem dX6_figure_30 : decode cX6_figure 30 = .ok (.i2l, 1) := by decide +kernel
theorem dX6_figure_31 : decode cX6_figure 31 = .ok (.iload_n 2, 1) := by decide +kernel
theorem dX6_figure_32 : decode cX6_figure 32 = .ok (.invokestatic 94, 3) := by decide +kernel
theorem dX6_figure_35 : decode cX6_figure 35 = .ok (.imul, 1) := by decide +kernel
theorem dX6_figure_36 : decode cX6_figure 36 = .ok (.iload_n 2, 1) := by decide +kernel
theorem dX6_figure_37 : decode cX6_figure 37 = .ok (.idiv, 1) := by decide +kernel
theorem dX6_figure_38 : decode cX6_figure 38 = .ok (.ireturn, 1) := by decide +kernel
set_option maxRecDepth 20000 in
theorem ggX6_soLong_X6_isBase : GoodIn wsX6_soLong wsX6_isBase := goodIn_r _ [5] (by decide +kernel) (by decide +kernel)
set_option maxRecDepth 20000 in
theorem gX6_soLong_X6_isBase : GoodIn wsX6_soLong (va_wsS RX6 218 yX6_isBase wsX6_isBase) := goodIn_app (goodIn_of _ (by decide +kernel)) ggX6_soLong_X6_isBase
set_option maxRecDepth 20000 in
theorem ggX6_soLong_X0_split : GoodIn wsX6_soLong wsX0_split := goodIn_r _ [10, 11, 12, 13, 14, 9, 15, 16, 17, 46, 47, 48] (by decide +kernel) (by decide +kernel)
set_option maxRecDepth 20000 in
theorem gX6_soLong_X0_split : GoodIn wsX6_soLong (wsV RX6 58 RX0 yX0_split wsX0_split) := goodIn_app (goodIn_of _ (by decide +kernel)) ggX6_soLong_X0_split
set_option maxRecDepth 20000 in
theorem ggX6_soLong_X6_hasRound : GoodIn wsX6_soLong wsX6_hasRound := goodIn_r _ [21, 22, 23, 4, 24, 25, 26, 27, 28, 29, 30, 31, 32, 1, 33, 34, 35, 36, 37, 38, 39, 40, 41, 42, 43, 44, 45, 46, 47, 48] (by decide +kernel) (by decide +kernel)
set_option maxRecDepth 20000 in
theorem gX6_soLong_X6_hasRound : GoodIn wsX6_soLong (wsV RX6 227 RX6 yX6_hasRound wsX6_hasRound) := goodIn_app (goodIn_of _ (by decide +kernel)) ggX6_soLong_X6_hasRound
theorem dX6_soLong_0 : decode cX6_soLong 0 = .ok (.iload_n 1, 1) := by decide +kernel
theorem dX6_soLong_1 : decode cX6_soLong 1 = .ok (.invokestatic 218, 3) := by decide +kernel
theorem dX6_soLong_4 : decode cX6_soLong 4 = .ok (.ifCond .eq 32, 3) := by decide +kernel
theorem dX6_soLong_7 : decode cX6_soLong 7 = .ok (.iload_n 2, 1) := by decide +kernel
theorem dX6_soLong_8 : decode cX6_soLong 8 = .ok (.ifCond .lt 28, 3) := by decide +kernel
theorem dX6_soLong_11 : decode cX6_soLong 11 = .ok (.iload_n 2, 1) := by decide +kernel
theorem dX6_soLong_12 : decode cX6_soLong 12 = .ok (.sipush 3000, 3) := by decide +kernel
theorem dX6_soLong_15 : decode cX6_soLong 15 = .ok (.if_icmp .gt 21, 3) := by decide +kernel
theorem dX6_soLong_18 : decode cX6_soLong 18 = .ok (.iload_n 3, 1) := by decide +kernel
theorem dX6_soLong_19 : decode cX6_soLong 19 = .ok (.iconst 2, 1) := by decide +kernel
theorem dX6_soLong_20 : decode cX6_soLong 20 = .ok (.if_icmp .lt 16, 3) := by decide +kernel
theorem dX6_soLong_23 : decode cX6_soLong 23 = .ok (.iload_n 3, 1) := by decide +kernel
theorem dX6_soLong_24 : decode cX6_soLong 24 = .ok (.sipush 3000, 3) := by decide +kernel
theorem dX6_soLong_27 : decode cX6_soLong 27 = .ok (.if_icmp .gt 9, 3) := by decide +kernel
theorem dX6_soLong_30 : decode cX6_soLong 30 = .ok (.iload 4, 2) := by decide +kernel
theorem dX6_soLong_32 : decode cX6_soLong 32 = .ok (.iconst (-1), 1) := by decide +kernel
theorem dX6_soLong_33 : decode cX6_soLong 33 = .ok (.if_icmp .ge 5, 3) := by decide +kernel
theorem dX6_soLong_36 : decode cX6_soLong 36 = .ok (.iconst (-1), 1) := by decide +kernel
theorem dX6_soLong_37 : decode cX6_soLong 37 = .ok (.ireturn, 1) := by decide +kernel
theorem dX6_soLong_38 : decode cX6_soLong 38 = .ok (.aload_n 0, 1) := by decide +kernel
theorem dX6_soLong_39 : decode cX6_soLong 39 = .ok (.getfield 16, 3) := by decide +kernel
theorem dX6_soLong_42 : decode cX6_soLong 42 = .ok (.iload_n 2, 1) := by decide +kernel
theorem dX6_soLong_43 : decode cX6_soLong 43 = .ok (.invokevirtual 58, 3) := by decide +kernel
theorem dX6_soLong_46 : decode cX6_soLong 46 = .ok (.iconst 0, 1) := by decide +kernel
theorem dX6_soLong_47 : decode cX6_soLong 47 = .ok (.istore 5, 2) := by decide +kernel
theorem dX6_soLong_49 : decode cX6_soLong 49 = .ok (.iconst 2, 1) := by decide +kernel
theorem dX6_soLong_50 : decode cX6_soLong 50 = .ok (.istore 6, 2) := by decide +kernel
theorem dX6_soLong_52 : decode cX6_soLong 52 = .ok (.iload 6, 2) := by decide +kernel
theorem dX6_soLong_54 : decode cX6_soLong 54 = .ok (.iload_n 3, 1) := by decide +kernel
theorem dX6_soLong_55 : decode cX6_soLong 55 = .ok (.if_icmp .gt 33, 3) := by decide +kernel
theorem dX6_soLong_58 : decode cX6_soLong 58 = .ok (.aload_n 0, 1) := by decide +kernel
theorem dX6_soLong_59 : decode cX6_soLong 59 = .ok (.iload_n 1, 1) := by decide +kernel
theorem dX6_soLong_60 : decode cX6_soLong 60 = .ok (.iload 6, 2) := by decide +kernel
theorem dX6_soLong_62 : decode cX6_soLong 62 = .ok (.iload_n 2, 1) := by decide +kernel
theorem dX6_soLong_63 : decode cX6_soLong 63 = .ok (.invokevirtual 227, 3) := by decide +kernel
theorem dX6_soLong_66 : decode cX6_soLong 66 = .ok (.ifCond .eq 16, 3) := by decide +kernel
theorem dX6_soLong_69 : decode cX6_soLong 69 = .ok (.iload 5, 2) := by decide +kernel
theorem dX6_soLong_71 : decode cX6_soLong 71 = .ok (.iload 4, 2) := by decide +kernel
theorem dX6_soLong_73 : decode cX6_soLong 73 = .ok (.if_icmp .ne 6, 3) := by decide +kernel
theorem dX6_soLong_76 : decode cX6_soLong 76 = .ok (.iload 6, 2) := by decide +kernel
theorem dX6_soLong_78 : decode cX6_soLong 78 = .ok (.ireturn, 1) := by decide +kernel
theorem dX6_soLong_79 : decode cX6_soLong 79 = .ok (.iinc 5 1, 3) := by decide +kernel
theorem dX6_soLong_82 : decode cX6_soLong 82 = .ok (.iinc 6 1, 3) := by decide +kernel
theorem dX6_soLong_85 : decode cX6_soLong 85 = .ok (.goto (-33), 3) := by decide +kernel
theorem dX6_soLong_88 : decode cX6_soLong 88 = .ok (.iload 4, 2) := by decide +kernel
theorem dX6_soLong_90 : decode cX6_soLong 90 = .ok (.iconst (-1), 1) := by decide +kernel
theorem dX6_soLong_91 : decode cX6_soLong 91 = .ok (.if_icmp .ne 8, 3) := by decide +kernel
theorem dX6_soLong_94 : decode cX6_soLong 94 = .ok (.iload 5, 2) := by decide +kernel
theorem dX6_soLong_96 : decode cX6_soLong 96 = .ok (.goto 5, 3) := by decide +kernel
theorem dX6_soLong_99 : decode cX6_soLong 99 = .ok (.bipush (-4), 2) := by decide +kernel
theorem dX6_soLong_101 : decode cX6_soLong 101 = .ok (.ireturn, 1) := by decide +kernel
set_option maxRecDepth 20000 in
theorem ggX6_turning_X6_isBase : GoodIn wsX6_turning wsX6_isBase := goodIn_r _ [4] (by decide +kernel) (by decide +kernel)
set_option maxRecDepth 20000 in
theorem gX6_turning_X6_isBase : GoodIn wsX6_turning (va_wsS RX6 218 yX6_isBase wsX6_isBase) := goodIn_app (goodIn_of _ (by decide +kernel)) ggX6_turning_X6_isBase
set_option maxRecDepth 20000 in
theorem ggX6_turning_X6_isDivisor : GoodIn wsX6_turning wsX6_isDivisor := goodIn_r _ [7, 8] (by decide +kernel) (by decide +kernel)
set_option maxRecDepth 20000 in
theorem gX6_turning_X6_isDivisor : GoodIn wsX6_turning (va_wsS RX6 54 yX6_isDivisor wsX6_isDivisor) := goodIn_app (goodIn_of _ (by decide +kernel)) ggX6_turning_X6_isDivisor
set_option maxRecDepth 20000 in
theorem ggX6_turning_X4_isPrime : GoodIn wsX6_turning wsX4_isPrime := goodIn_r _ [12] (by decide +kernel) (by decide +kernel)
set_option maxRecDepth 20000 in
theorem gX6_turning_X4_isPrime : GoodIn wsX6_turning (va_wsS RX6 193 yX4_isPrime wsX4_isPrime) := goodIn_app (goodIn_of _ (by decide +kernel)) ggX6_turning_X4_isPrime
set_option maxRecDepth 20000 in
theorem ggX6_turning_X6_roundOf : GoodIn wsX6_turning wsX6_roundOf := goodIn_r _ [16, 17, 18, 3, 19, 20, 21, 11, 22, 23, 24, 25, 26, 27, 28, 29, 30, 31, 32, 33, 34, 35, 36, 37, 38, 39, 40, 41, 42, 43, 44, 45, 46, 47, 48, 49, 50, 51, 52, 53, 54, 55, 56, 57, 58, 59, 60, 61, 62, 63, 67, 68, 69, 70, 71, 72, 73, 74, 75, 76, 77, 78, 79] (by decide +kernel) (by decide +kernel)
set_option maxRecDepth 20000 in
theorem gX6_turning_X6_roundOf : GoodIn wsX6_turning (wsV RX6 224 RX6 yX6_roundOf wsX6_roundOf) := goodIn_app (goodIn_of _ (by decide +kernel)) ggX6_turning_X6_roundOf
set_option maxRecDepth 20000 in
theorem ggX6_turning_X6_leastLog : GoodIn wsX6_turning wsX6_leastLog := goodIn_r _ [66] (by decide +kernel) (by decide +kernel)
set_option maxRecDepth 20000 in
theorem gX6_turning_X6_leastLog : GoodIn wsX6_turning (va_wsS RX6 100 yX6_leastLog wsX6_leastLog) := goodIn_app (goodIn_of _ (by decide +kernel)) ggX6_turning_X6_leastLog
theorem dX6_turning_0 : decode cX6_turning 0 = .ok (.iload_n 1, 1) := by decide +kernel
theorem dX6_turning_1 : decode cX6_turning 1 = .ok (.invokestatic 218, 3) := by decide +kernel
theorem dX6_turning_4 : decode cX6_turning 4 = .ok (.ifCond .eq 20, 3) := by decide +kernel
theorem dX6_turning_7 : decode cX6_turning 7 = .ok (.iload_n 2, 1) := by decide +kernel
theorem dX6_turning_8 : decode cX6_turning 8 = .ok (.invokestatic 54, 3) := by decide +kernel
theorem dX6_turning_11 : decode cX6_turning 11 = .ok (.ifCond .eq 13, 3) := by decide +kernel
theorem dX6_turning_14 : decode cX6_turning 14 = .ok (.iload_n 3, 1) := by decide +kernel
theorem dX6_turning_15 : decode cX6_turning 15 = .ok (.iconst 1, 1) := by decide +kernel
theorem dX6_turning_16 : decode cX6_turning 16 = .ok (.if_icmp .lt 8, 3) := by decide +kernel
theorem dX6_turning_19 : decode cX6_turning 19 = .ok (.iload_n 3, 1) := by decide +kernel
theorem dX6_turning_20 : decode cX6_turning 20 = .ok (.iload_n 2, 1) := by decide +kernel
theorem dX6_turning_21 : decode cX6_turning 21 = .ok (.if_icmp .lt 5, 3) := by decide +kernel
theorem dX6_turning_24 : decode cX6_turning 24 = .ok (.iconst (-1), 1) := by decide +kernel
theorem dX6_turning_25 : decode cX6_turning 25 = .ok (.ireturn, 1) := by decide +kernel
theorem dX6_turning_26 : decode cX6_turning 26 = .ok (.iload_n 2, 1) := by decide +kernel
theorem dX6_turning_27 : decode cX6_turning 27 = .ok (.invokestatic 193, 3) := by decide +kernel
theorem dX6_turning_30 : decode cX6_turning 30 = .ok (.ifCond .eq 21, 3) := by decide +kernel
theorem dX6_turning_33 : decode cX6_turning 33 = .ok (.iload_n 1, 1) := by decide +kernel
theorem dX6_turning_34 : decode cX6_turning 34 = .ok (.iload_n 2, 1) := by decide +kernel
theorem dX6_turning_35 : decode cX6_turning 35 = .ok (.irem, 1) := by decide +kernel
theorem dX6_turning_36 : decode cX6_turning 36 = .ok (.ifCond .eq 15, 3) := by decide +kernel
theorem dX6_turning_39 : decode cX6_turning 39 = .ok (.aload_n 0, 1) := by decide +kernel
theorem dX6_turning_40 : decode cX6_turning 40 = .ok (.iload_n 1, 1) := by decide +kernel
theorem dX6_turning_41 : decode cX6_turning 41 = .ok (.iload_n 2, 1) := by decide +kernel
theorem dX6_turning_42 : decode cX6_turning 42 = .ok (.invokevirtual 224, 3) := by decide +kernel
theorem dX6_turning_45 : decode cX6_turning 45 = .ok (.iload_n 2, 1) := by decide +kernel
theorem dX6_turning_46 : decode cX6_turning 46 = .ok (.iconst 1, 1) := by decide +kernel
theorem dX6_turning_47 : decode cX6_turning 47 = .ok (.isub, 1) := by decide +kernel
theorem dX6_turning_48 : decode cX6_turning 48 = .ok (.if_icmp .eq 6, 3) := by decide +kernel
theorem dX6_turning_51 : decode cX6_turning 51 = .ok (.bipush (-2), 2) := by decide +kernel
theorem dX6_turning_53 : decode cX6_turning 53 = .ok (.ireturn, 1) := by decide +kernel
theorem dX6_turning_54 : decode cX6_turning 54 = .ok (.iload_n 2, 1) := by decide +kernel
theorem dX6_turning_55 : decode cX6_turning 55 = .ok (.iload_n 1, 1) := by decide +kernel
theorem dX6_turning_56 : decode cX6_turning 56 = .ok (.iload_n 2, 1) := by decide +kernel
theorem dX6_turning_57 : decode cX6_turning 57 = .ok (.irem, 1) := by decide +kernel
theorem dX6_turning_58 : decode cX6_turning 58 = .ok (.iload_n 3, 1) := by decide +kernel
theorem dX6_turning_59 : decode cX6_turning 59 = .ok (.invokestatic 100, 3) := by decide +kernel
theorem dX6_turning_62 : decode cX6_turning 62 = .ok (.ireturn, 1) := by decide +kernel
set_option maxRecDepth 20000 in
theorem ggX6_tower_X6_isDivisor : GoodIn wsX6_tower wsX6_isDivisor := goodIn_r _ [4, 5] (by decide +kernel) (by decide +kernel)
set_option maxRecDepth 20000 in
theorem gX6_tower_X6_isDivisor : GoodIn wsX6_tower (va_wsS RX6 54 yX6_isDivisor wsX6_isDivisor) := goodIn_app (goodIn_of _ (by decide +kernel)) ggX6_tower_X6_isDivisor
set_option maxRecDepth 20000 in
theorem ggX6_tower_X6_towerNumber : GoodIn wsX6_tower wsX6_towerNumber := goodIn_r _ [8] (by decide +kernel) (by decide +kernel)
set_option maxRecDepth 20000 in
theorem gX6_tower_X6_towerNumber : GoodIn wsX6_tower (va_wsS RX6 231 yX6_towerNumber wsX6_towerNumber) := goodIn_app (goodIn_of _ (by decide +kernel)) ggX6_tower_X6_towerNumber
set_option maxRecDepth 20000 in
theorem ggX6_tower_X6_towerRest : GoodIn wsX6_tower wsX6_towerRest := goodIn_r _ [12, 13, 14, 15, 16, 17, 3, 18, 19, 20, 21, 22, 23, 24, 25, 26, 27, 28, 29, 30, 31, 32, 33, 34, 35, 36, 37, 38, 39, 40, 41, 42, 43, 6, 7, 8, 44, 45, 46, 47, 48, 49, 50, 51, 52, 53, 54, 55, 56, 57, 58, 59, 60, 61, 62, 63, 64, 65, 66, 67] (by decide +kernel) (by decide +kernel)
set_option maxRecDepth 20000 in
theorem gX6_tower_X6_towerRest : GoodIn wsX6_tower (wsV RX6 235 RX6 yX6_towerRest wsX6_towerRest) := goodIn_app (goodIn_of _ (by decide +kernel)) ggX6_tower_X6_towerRest
theorem dX6_tower_0 : decode cX6_tower 0 = .ok (.iload_n 1, 1) := by decide +kernel
theorem dX6_tower_1 : decode cX6_tower 1 = .ok (.invokestatic 54, 3) := by decide +kernel
theorem dX6_tower_4 : decode cX6_tower 4 = .ok (.ifCond .eq 25, 3) := by decide +kernel
theorem dX6_tower_7 : decode cX6_tower 7 = .ok (.iload_n 2, 1) := by decide +kernel
theorem dX6_tower_8 : decode cX6_tower 8 = .ok (.iconst 1, 1) := by decide +kernel
theorem dX6_tower_9 : decode cX6_tower 9 = .ok (.if_icmp .lt 20, 3) := by decide +kernel
theorem dX6_tower_12 : decode cX6_tower 12 = .ok (.iload_n 2, 1) := by decide +kernel
theorem dX6_tower_13 : decode cX6_tower 13 = .ok (.bipush 6, 2) := by decide +kernel
theorem dX6_tower_15 : decode cX6_tower 15 = .ok (.if_icmp .gt 14, 3) := by decide +kernel
theorem dX6_tower_18 : decode cX6_tower 18 = .ok (.lload_n 3, 1) := by decide +kernel
theorem dX6_tower_19 : decode cX6_tower 19 = .ok (.bipush 10, 2) := by decide +kernel
theorem dX6_tower_21 : decode cX6_tower 21 = .ok (.iload_n 2, 1) := by decide +kernel
theorem dX6_tower_22 : decode cX6_tower 22 = .ok (.imul, 1) := by decide +kernel
theorem dX6_tower_23 : decode cX6_tower 23 = .ok (.lushr, 1) := by decide +kernel
theorem dX6_tower_24 : decode cX6_tower 24 = .ok (.lconst 0, 1) := by decide +kernel
theorem dX6_tower_25 : decode cX6_tower 25 = .ok (.lcmp, 1) := by decide +kernel
theorem dX6_tower_26 : decode cX6_tower 26 = .ok (.ifCond .eq 5, 3) := by decide +kernel
theorem dX6_tower_29 : decode cX6_tower 29 = .ok (.iconst (-1), 1) := by decide +kernel
theorem dX6_tower_30 : decode cX6_tower 30 = .ok (.ireturn, 1) := by decide +kernel
theorem dX6_tower_31 : decode cX6_tower 31 = .ok (.iconst 0, 1) := by decide +kernel
theorem dX6_tower_32 : decode cX6_tower 32 = .ok (.istore 5, 2) := by decide +kernel
theorem dX6_tower_34 : decode cX6_tower 34 = .ok (.iload 5, 2) := by decide +kernel
theorem dX6_tower_36 : decode cX6_tower 36 = .ok (.iload_n 2, 1) := by decide +kernel
theorem dX6_tower_37 : decode cX6_tower 37 = .ok (.if_icmp .ge 34, 3) := by decide +kernel
theorem dX6_tower_40 : decode cX6_tower 40 = .ok (.iload 5, 2) := by decide +kernel
theorem dX6_tower_42 : decode cX6_tower 42 = .ok (.iload_n 2, 1) := by decide +kernel
theorem dX6_tower_43 : decode cX6_tower 43 = .ok (.lload_n 3, 1) := by decide +kernel
theorem dX6_tower_44 : decode cX6_tower 44 = .ok (.invokestatic 231, 3) := by decide +kernel
theorem dX6_tower_47 : decode cX6_tower 47 = .ok (.istore 6, 2) := by decide +kernel
theorem dX6_tower_49 : decode cX6_tower 49 = .ok (.iload 6, 2) := by decide +kernel
theorem dX6_tower_51 : decode cX6_tower 51 = .ok (.iconst 1, 1) := by decide +kernel
theorem dX6_tower_52 : decode cX6_tower 52 = .ok (.if_icmp .lt 11, 3) := by decide +kernel
theorem dX6_tower_55 : decode cX6_tower 55 = .ok (.iload 6, 2) := by decide +kernel
theorem dX6_tower_57 : decode cX6_tower 57 = .ok (.sipush 1000, 3) := by decide +kernel
theorem dX6_tower_60 : decode cX6_tower 60 = .ok (.if_icmp .le 5, 3) := by decide +kernel
theorem dX6_tower_63 : decode cX6_tower 63 = .ok (.iconst (-1), 1) := by decide +kernel
theorem dX6_tower_64 : decode cX6_tower 64 = .ok (.ireturn, 1) := by decide +kernel
theorem dX6_tower_65 : decode cX6_tower 65 = .ok (.iinc 5 1, 3) := by decide +kernel
theorem dX6_tower_68 : decode cX6_tower 68 = .ok (.goto (-34), 3) := by decide +kernel
theorem dX6_tower_71 : decode cX6_tower 71 = .ok (.aload_n 0, 1) := by decide +kernel
theorem dX6_tower_72 : decode cX6_tower 72 = .ok (.iload_n 2, 1) := by decide +kernel
theorem dX6_tower_73 : decode cX6_tower 73 = .ok (.lload_n 3, 1) := by decide +kernel
theorem dX6_tower_74 : decode cX6_tower 74 = .ok (.iload_n 1, 1) := by decide +kernel
theorem dX6_tower_75 : decode cX6_tower 75 = .ok (.invokevirtual 235, 3) := by decide +kernel
theorem dX6_tower_78 : decode cX6_tower 78 = .ok (.ireturn, 1) := by decide +kernel
set_option maxRecDepth 20000 in
theorem ggX6_back_X6_areKeys : GoodIn wsX6_back wsX6_areKeys := goodIn_r _ [5, 6, 7, 8, 4, 9, 10, 11, 12, 13] (by decide +kernel) (by decide +kernel)
set_option maxRecDepth 20000 in
theorem gX6_back_X6_areKeys : GoodIn wsX6_back (va_wsS RX6 239 yX6_areKeys wsX6_areKeys) := goodIn_app (goodIn_of _ (by decide +kernel)) ggX6_back_X6_areKeys
set_option maxRecDepth 20000 in
theorem ggX6_back_X6_keySharesDivisor : GoodIn wsX6_back wsX6_keySharesDivisor := goodIn_r _ [16, 17, 18, 12, 19] (by decide +kernel) (by decide +kernel)
set_option maxRecDepth 20000 in
theorem gX6_back_X6_keySharesDivisor : GoodIn wsX6_back (va_wsS RX6 242 yX6_keySharesDivisor wsX6_keySharesDivisor) := goodIn_app (goodIn_of _ (by decide +kernel)) ggX6_back_X6_keySharesDivisor
set_option maxRecDepth 20000 in
theorem ggX6_back_X4_commonMultiple : GoodIn wsX6_back wsX4_commonMultiple := goodIn_r _ [22, 23, 18, 12, 19] (by decide +kernel) (by decide +kernel)
set_option maxRecDepth 20000 in
theorem gX6_back_X4_commonMultiple : GoodIn wsX6_back (va_wsS RX6 245 yX4_commonMultiple wsX4_commonMultiple) := goodIn_app (goodIn_of _ (by decide +kernel)) ggX6_back_X4_commonMultiple
set_option maxRecDepth 20000 in
theorem ggX6_back_X0_split : GoodIn wsX6_back wsX0_split := goodIn_r _ [28, 29, 30, 31, 32, 27, 33, 34, 35, 66, 67, 68] (by decide +kernel) (by decide +kernel)
set_option maxRecDepth 20000 in
theorem gX6_back_X0_split : GoodIn wsX6_back (wsV RX6 58 RX0 yX0_split wsX0_split) := goodIn_app (goodIn_of _ (by decide +kernel)) ggX6_back_X0_split
set_option maxRecDepth 20000 in
theorem ggX6_back_X0_greatestOrder : GoodIn wsX6_back wsX0_greatestOrder := goodIn_r _ [39, 29, 40, 41, 42, 27, 43, 34, 35, 44, 45, 46, 47, 48, 49, 50, 51, 52, 21, 12, 22, 23, 18, 19, 66, 67, 68] (by decide +kernel) (by decide +kernel)
set_option maxRecDepth 20000 in
theorem gX6_back_X0_greatestOrder : GoodIn wsX6_back (wsV RX6 78 RX0 yX0_greatestOrder wsX0_greatestOrder) := goodIn_app (goodIn_of _ (by decide +kernel)) ggX6_back_X0_greatestOrder
set_option maxRecDepth 20000 in
theorem ggX6_back_X4_raise : GoodIn wsX6_back wsX4_raise := goodIn_r _ [55] (by decide +kernel) (by decide +kernel)
set_option maxRecDepth 20000 in
theorem gX6_back_X4_raise : GoodIn wsX6_back (va_wsS RX6 94 yX4_raise wsX4_raise) := goodIn_app (goodIn_of _ (by decide +kernel)) ggX6_back_X4_raise
theorem dX6_back_0 : decode cX6_back 0 = .ok (.iload_n 1, 1) := by decide +kernel
theorem dX6_back_1 : decode cX6_back 1 = .ok (.iload_n 2, 1) := by decide +kernel
theorem dX6_back_2 : decode cX6_back 2 = .ok (.iload_n 3, 1) := by decide +kernel
theorem dX6_back_3 : decode cX6_back 3 = .ok (.invokestatic 239, 3) := by decide +kernel
theorem dX6_back_6 : decode cX6_back 6 = .ok (.ifCond .ne 5, 3) := by decide +kernel
theorem dX6_back_9 : decode cX6_back 9 = .ok (.iconst (-1), 1) := by decide +kernel
theorem dX6_back_10 : decode cX6_back 10 = .ok (.ireturn, 1) := by decide +kernel
theorem dX6_back_11 : decode cX6_back 11 = .ok (.iload_n 1, 1) := by decide +kernel
theorem dX6_back_12 : decode cX6_back 12 = .ok (.iload_n 2, 1) := by decide +kernel
theorem dX6_back_13 : decode cX6_back 13 = .ok (.iload_n 3, 1) := by decide +kernel
theorem dX6_back_14 : decode cX6_back 14 = .ok (.invokestatic 242, 3) := by decide +kernel
theorem dX6_back_17 : decode cX6_back 17 = .ok (.ifCond .eq 6, 3) := by decide +kernel
theorem dX6_back_20 : decode cX6_back 20 = .ok (.bipush (-2), 2) := by decide +kernel
theorem dX6_back_22 : decode cX6_back 22 = .ok (.ireturn, 1) := by decide +kernel
theorem dX6_back_23 : decode cX6_back 23 = .ok (.iload_n 1, 1) := by decide +kernel
theorem dX6_back_24 : decode cX6_back 24 = .ok (.iconst 1, 1) := by decide +kernel
theorem dX6_back_25 : decode cX6_back 25 = .ok (.isub, 1) := by decide +kernel
theorem dX6_back_26 : decode cX6_back 26 = .ok (.iload_n 2, 1) := by decide +kernel
theorem dX6_back_27 : decode cX6_back 27 = .ok (.iconst 1, 1) := by decide +kernel
theorem dX6_back_28 : decode cX6_back 28 = .ok (.isub, 1) := by decide +kernel
theorem dX6_back_29 : decode cX6_back 29 = .ok (.invokestatic 245, 3) := by decide +kernel
theorem dX6_back_32 : decode cX6_back 32 = .ok (.istore 4, 2) := by decide +kernel
theorem dX6_back_34 : decode cX6_back 34 = .ok (.aload_n 0, 1) := by decide +kernel
theorem dX6_back_35 : decode cX6_back 35 = .ok (.getfield 10, 3) := by decide +kernel
theorem dX6_back_38 : decode cX6_back 38 = .ok (.iload 4, 2) := by decide +kernel
theorem dX6_back_40 : decode cX6_back 40 = .ok (.invokevirtual 58, 3) := by decide +kernel
theorem dX6_back_43 : decode cX6_back 43 = .ok (.iload_n 3, 1) := by decide +kernel
theorem dX6_back_44 : decode cX6_back 44 = .ok (.i2l, 1) := by decide +kernel
theorem dX6_back_45 : decode cX6_back 45 = .ok (.aload_n 0, 1) := by decide +kernel
theorem dX6_back_46 : decode cX6_back 46 = .ok (.getfield 10, 3) := by decide +kernel
theorem dX6_back_49 : decode cX6_back 49 = .ok (.invokevirtual 78, 3) := by decide +kernel
theorem dX6_back_52 : decode cX6_back 52 = .ok (.iconst 1, 1) := by decide +kernel
theorem dX6_back_53 : decode cX6_back 53 = .ok (.isub, 1) := by decide +kernel
theorem dX6_back_54 : decode cX6_back 54 = .ok (.i2l, 1) := by decide +kernel
theorem dX6_back_55 : decode cX6_back 55 = .ok (.iload 4, 2) := by decide +kernel
theorem dX6_back_57 : decode cX6_back 57 = .ok (.invokestatic 94, 3) := by decide +kernel
theorem dX6_back_60 : decode cX6_back 60 = .ok (.ireturn, 1) := by decide +kernel
set_option maxRecDepth 20000 in
theorem ggX6_stay_X6_areKeys : GoodIn wsX6_stay wsX6_areKeys := goodIn_r _ [5, 6, 7, 8, 4, 9, 10, 11, 12, 13] (by decide +kernel) (by decide +kernel)
set_option maxRecDepth 20000 in
theorem gX6_stay_X6_areKeys : GoodIn wsX6_stay (va_wsS RX6 239 yX6_areKeys wsX6_areKeys) := goodIn_app (goodIn_of _ (by decide +kernel)) ggX6_stay_X6_areKeys
set_option maxRecDepth 20000 in
theorem ggX6_stay_X6_keySharesDivisor : GoodIn wsX6_stay wsX6_keySharesDivisor := goodIn_r _ [16, 17, 18, 12, 19] (by decide +kernel) (by decide +kernel)
set_option maxRecDepth 20000 in
theorem gX6_stay_X6_keySharesDivisor : GoodIn wsX6_stay (va_wsS RX6 242 yX6_keySharesDivisor wsX6_keySharesDivisor) := goodIn_app (goodIn_of _ (by decide +kernel)) ggX6_stay_X6_keySharesDivisor
set_option maxRecDepth 20000 in
theorem ggX6_stay_X3_wipeAll : GoodIn wsX6_stay wsX3_wipeAll := goodIn_r _ [24, 25, 56, 57] (by decide +kernel) (by decide +kernel)
set_option maxRecDepth 20000 in
theorem gX6_stay_X3_wipeAll : GoodIn wsX6_stay (wsV RX6 248 RX3 yX3_wipeAll wsX3_wipeAll) := goodIn_app (goodIn_of _ (by decide +kernel)) ggX6_stay_X3_wipeAll
set_option maxRecDepth 20000 in
theorem ggX6_stay_X6_markStaying : GoodIn wsX6_stay wsX6_markStaying := goodIn_r _ [29, 1, 30, 31, 12, 32, 33, 34, 35, 23, 36, 37, 25, 46, 47, 48, 49, 50, 51, 52, 53, 54, 55, 56, 57] (by decide +kernel) (by decide +kernel)
set_option maxRecDepth 20000 in
theorem gX6_stay_X6_markStaying : GoodIn wsX6_stay (wsV RX6 251 RX6 yX6_markStaying wsX6_markStaying) := goodIn_app (goodIn_of _ (by decide +kernel)) ggX6_stay_X6_markStaying
set_option maxRecDepth 20000 in
theorem ggX6_stay_X6_stayingLetter : GoodIn wsX6_stay wsX6_stayingLetter := goodIn_r _ [41, 1, 42, 43, 44, 23, 45, 37, 25, 46, 47, 48, 49, 50, 51, 52, 53, 54, 55, 56, 57] (by decide +kernel) (by decide +kernel)
set_option maxRecDepth 20000 in
theorem gX6_stay_X6_stayingLetter : GoodIn wsX6_stay (wsV RX6 254 RX6 yX6_stayingLetter wsX6_stayingLetter) := goodIn_app (goodIn_of _ (by decide +kernel)) ggX6_stay_X6_stayingLetter
theorem dX6_stay_0 : decode cX6_stay 0 = .ok (.iload_n 1, 1) := by decide +kernel
theorem dX6_stay_1 : decode cX6_stay 1 = .ok (.iload_n 2, 1) := by decide +kernel
theorem dX6_stay_2 : decode cX6_stay 2 = .ok (.iload_n 3, 1) := by decide +kernel
theorem dX6_stay_3 : decode cX6_stay 3 = .ok (.invokestatic 239, 3) := by decide +kernel
theorem dX6_stay_6 : decode cX6_stay 6 = .ok (.ifCond .eq 9, 3) := by decide +kernel
theorem dX6_stay_9 : decode cX6_stay 9 = .ok (.iload 4, 2) := by decide +kernel
theorem dX6_stay_11 : decode cX6_stay 11 = .ok (.iconst (-1), 1) := by decide +kernel
theorem dX6_stay_12 : decode cX6_stay 12 = .ok (.if_icmp .ge 5, 3) := by decide +kernel
theorem dX6_stay_15 : decode cX6_stay 15 = .ok (.iconst (-1), 1) := by decide +kernel
theorem dX6_stay_16 : decode cX6_stay 16 = .ok (.ireturn, 1) := by decide +kernel
theorem dX6_stay_17 : decode cX6_stay 17 = .ok (.iload_n 1, 1) := by decide +kernel
theorem dX6_stay_18 : decode cX6_stay 18 = .ok (.iload_n 2, 1) := by decide +kernel
theorem dX6_stay_19 : decode cX6_stay 19 = .ok (.iload_n 3, 1) := by decide +kernel
theorem dX6_stay_20 : decode cX6_stay 20 = .ok (.invokestatic 242, 3) := by decide +kernel
theorem dX6_stay_23 : decode cX6_stay 23 = .ok (.ifCond .eq 6, 3) := by decide +kernel
theorem dX6_stay_26 : decode cX6_stay 26 = .ok (.bipush (-2), 2) := by decide +kernel
theorem dX6_stay_28 : decode cX6_stay 28 = .ok (.ireturn, 1) := by decide +kernel
theorem dX6_stay_29 : decode cX6_stay 29 = .ok (.aload_n 0, 1) := by decide +kernel
theorem dX6_stay_30 : decode cX6_stay 30 = .ok (.getfield 22, 3) := by decide +kernel
theorem dX6_stay_33 : decode cX6_stay 33 = .ok (.invokevirtual 248, 3) := by decide +kernel
theorem dX6_stay_36 : decode cX6_stay 36 = .ok (.aload_n 0, 1) := by decide +kernel
theorem dX6_stay_37 : decode cX6_stay 37 = .ok (.iload_n 1, 1) := by decide +kernel
theorem dX6_stay_38 : decode cX6_stay 38 = .ok (.iload_n 3, 1) := by decide +kernel
theorem dX6_stay_39 : decode cX6_stay 39 = .ok (.iconst 0, 1) := by decide +kernel
theorem dX6_stay_40 : decode cX6_stay 40 = .ok (.invokevirtual 251, 3) := by decide +kernel
theorem dX6_stay_43 : decode cX6_stay 43 = .ok (.aload_n 0, 1) := by decide +kernel
theorem dX6_stay_44 : decode cX6_stay 44 = .ok (.iload_n 2, 1) := by decide +kernel
theorem dX6_stay_45 : decode cX6_stay 45 = .ok (.iload_n 3, 1) := by decide +kernel
theorem dX6_stay_46 : decode cX6_stay 46 = .ok (.iload_n 1, 1) := by decide +kernel
theorem dX6_stay_47 : decode cX6_stay 47 = .ok (.invokevirtual 251, 3) := by decide +kernel
theorem dX6_stay_50 : decode cX6_stay 50 = .ok (.imul, 1) := by decide +kernel
theorem dX6_stay_51 : decode cX6_stay 51 = .ok (.istore 5, 2) := by decide +kernel
theorem dX6_stay_53 : decode cX6_stay 53 = .ok (.iload 4, 2) := by decide +kernel
theorem dX6_stay_55 : decode cX6_stay 55 = .ok (.iconst (-1), 1) := by decide +kernel
theorem dX6_stay_56 : decode cX6_stay 56 = .ok (.if_icmp .ne 6, 3) := by decide +kernel
theorem dX6_stay_59 : decode cX6_stay 59 = .ok (.iload 5, 2) := by decide +kernel
theorem dX6_stay_61 : decode cX6_stay 61 = .ok (.ireturn, 1) := by decide +kernel
theorem dX6_stay_62 : decode cX6_stay 62 = .ok (.iload 4, 2) := by decide +kernel
theorem dX6_stay_64 : decode cX6_stay 64 = .ok (.iload 5, 2) := by decide +kernel
theorem dX6_stay_66 : decode cX6_stay 66 = .ok (.if_icmp .ge 14, 3) := by decide +kernel
theorem dX6_stay_69 : decode cX6_stay 69 = .ok (.aload_n 0, 1) := by decide +kernel
theorem dX6_stay_70 : decode cX6_stay 70 = .ok (.iload_n 1, 1) := by decide +kernel
theorem dX6_stay_71 : decode cX6_stay 71 = .ok (.iload_n 2, 1) := by decide +kernel
theorem dX6_stay_72 : decode cX6_stay 72 = .ok (.iload 4, 2) := by decide +kernel
theorem dX6_stay_74 : decode cX6_stay 74 = .ok (.invokevirtual 254, 3) := by decide +kernel
theorem dX6_stay_77 : decode cX6_stay 77 = .ok (.goto 5, 3) := by decide +kernel
theorem dX6_stay_80 : decode cX6_stay 80 = .ok (.bipush (-4), 2) := by decide +kernel
theorem dX6_stay_82 : decode cX6_stay 82 = .ok (.ireturn, 1) := by decide +kernel
set_option maxRecDepth 20000 in
theorem ggX6_rounds_X6_areKeys : GoodIn wsX6_rounds wsX6_areKeys := goodIn_r _ [4, 5, 6, 7, 3, 8, 9, 10, 11, 12] (by decide +kernel) (by decide +kernel)
set_option maxRecDepth 20000 in
theorem gX6_rounds_X6_areKeys : GoodIn wsX6_rounds (va_wsS RX6 239 yX6_areKeys wsX6_areKeys) := goodIn_app (goodIn_of _ (by decide +kernel)) ggX6_rounds_X6_areKeys
set_option maxRecDepth 20000 in
theorem ggX6_rounds_X6_keySharesDivisor : GoodIn wsX6_rounds wsX6_keySharesDivisor := goodIn_r _ [15, 16, 17, 11, 18] (by decide +kernel) (by decide +kernel)
set_option maxRecDepth 20000 in
theorem gX6_rounds_X6_keySharesDivisor : GoodIn wsX6_rounds (va_wsS RX6 242 yX6_keySharesDivisor wsX6_keySharesDivisor) := goodIn_app (goodIn_of _ (by decide +kernel)) ggX6_rounds_X6_keySharesDivisor
set_option maxRecDepth 20000 in
theorem ggX6_rounds_X6_turnBy : GoodIn wsX6_rounds wsX6_turnBy := goodIn_r _ [22, 23, 24, 25, 3, 26, 27, 28, 29, 30, 31, 32, 33, 34, 35, 36, 37, 38, 39, 40, 41, 42, 43, 44, 45, 46, 47, 48, 49, 50, 51, 52, 53, 54, 55, 56, 57, 58, 11, 59, 60, 17, 18, 61, 62, 63, 65, 66, 67, 68, 69, 70, 71, 72, 73, 74, 75, 76, 77] (by decide +kernel) (by decide +kernel)
set_option maxRecDepth 20000 in
theorem gX6_rounds_X6_turnBy : GoodIn wsX6_rounds (wsV RX6 257 RX6 yX6_turnBy wsX6_turnBy) := goodIn_app (goodIn_of _ (by decide +kernel)) ggX6_rounds_X6_turnBy
set_option maxRecDepth 20000 in
theorem ggX6_rounds_X4_commonMultiple : GoodIn wsX6_rounds wsX4_commonMultiple := goodIn_r _ [59, 60, 17, 11, 18] (by decide +kernel) (by decide +kernel)
set_option maxRecDepth 20000 in
theorem gX6_rounds_X4_commonMultiple : GoodIn wsX6_rounds (va_wsS RX6 245 yX4_commonMultiple wsX4_commonMultiple) := goodIn_app (goodIn_of _ (by decide +kernel)) ggX6_rounds_X4_commonMultiple
set_option maxRecDepth 20000 in
theorem ggX6_rounds_X6_leastExponent : GoodIn wsX6_rounds wsX6_leastExponent := goodIn_r _ [26, 27, 28, 29, 30, 31, 32, 33, 34, 35, 36, 37, 38, 39, 40, 41, 42, 43, 44, 45, 46, 47, 48, 49, 50, 51, 52, 53, 54, 55, 56, 57, 58, 11, 59, 60, 17, 18, 61, 62, 63, 65, 66, 67, 68, 69, 70, 71, 72, 73, 74, 75, 76, 77] (by decide +kernel) (by decide +kernel)
set_option maxRecDepth 20000 in
theorem gX6_rounds_X6_leastExponent : GoodIn wsX6_rounds (wsV RX6 73 RX6 yX6_leastExponent wsX6_leastExponent) := goodIn_app (goodIn_of _ (by decide +kernel)) ggX6_rounds_X6_leastExponent
theorem dX6_rounds_0 : decode cX6_rounds 0 = .ok (.iload_n 1, 1) := by decide +kernel
theorem dX6_rounds_1 : decode cX6_rounds 1 = .ok (.iload_n 2, 1) := by decide +kernel
theorem dX6_rounds_2 : decode cX6_rounds 2 = .ok (.iload_n 3, 1) := by decide +kernel
theorem dX6_rounds_3 : decode cX6_rounds 3 = .ok (.invokestatic 239, 3) := by decide +kernel
theorem dX6_rounds_6 : decode cX6_rounds 6 = .ok (.ifCond .eq 17, 3) := by decide +kernel
theorem dX6_rounds_9 : decode cX6_rounds 9 = .ok (.iload 4, 2) := by decide +kernel
theorem dX6_rounds_11 : decode cX6_rounds 11 = .ok (.iconst (-1), 1) := by decide +kernel
theorem dX6_rounds_12 : decode cX6_rounds 12 = .ok (.if_icmp .lt 11, 3) := by decide +kernel
theorem dX6_rounds_15 : decode cX6_rounds 15 = .ok (.iload 4, 2) := by decide +kernel
theorem dX6_rounds_17 : decode cX6_rounds 17 = .ok (.iload_n 1, 1) := by decide +kernel
theorem dX6_rounds_18 : decode cX6_rounds 18 = .ok (.iload_n 2, 1) := by decide +kernel
theorem dX6_rounds_19 : decode cX6_rounds 19 = .ok (.imul, 1) := by decide +kernel
theorem dX6_rounds_20 : decode cX6_rounds 20 = .ok (.if_icmp .lt 5, 3) := by decide +kernel
theorem dX6_rounds_23 : decode cX6_rounds 23 = .ok (.iconst (-1), 1) := by decide +kernel
theorem dX6_rounds_24 : decode cX6_rounds 24 = .ok (.ireturn, 1) := by decide +kernel
theorem dX6_rounds_25 : decode cX6_rounds 25 = .ok (.iload_n 1, 1) := by decide +kernel
theorem dX6_rounds_26 : decode cX6_rounds 26 = .ok (.iload_n 2, 1) := by decide +kernel
theorem dX6_rounds_27 : decode cX6_rounds 27 = .ok (.iload_n 3, 1) := by decide +kernel
theorem dX6_rounds_28 : decode cX6_rounds 28 = .ok (.invokestatic 242, 3) := by decide +kernel
theorem dX6_rounds_31 : decode cX6_rounds 31 = .ok (.ifCond .eq 6, 3) := by decide +kernel
theorem dX6_rounds_34 : decode cX6_rounds 34 = .ok (.bipush (-2), 2) := by decide +kernel
theorem dX6_rounds_36 : decode cX6_rounds 36 = .ok (.ireturn, 1) := by decide +kernel
theorem dX6_rounds_37 : decode cX6_rounds 37 = .ok (.aload_n 0, 1) := by decide +kernel
theorem dX6_rounds_38 : decode cX6_rounds 38 = .ok (.iload_n 1, 1) := by decide +kernel
theorem dX6_rounds_39 : decode cX6_rounds 39 = .ok (.iload 4, 2) := by decide +kernel
theorem dX6_rounds_41 : decode cX6_rounds 41 = .ok (.invokevirtual 257, 3) := by decide +kernel
theorem dX6_rounds_44 : decode cX6_rounds 44 = .ok (.aload_n 0, 1) := by decide +kernel
theorem dX6_rounds_45 : decode cX6_rounds 45 = .ok (.iload_n 2, 1) := by decide +kernel
theorem dX6_rounds_46 : decode cX6_rounds 46 = .ok (.iload 4, 2) := by decide +kernel
theorem dX6_rounds_48 : decode cX6_rounds 48 = .ok (.invokevirtual 257, 3) := by decide +kernel
theorem dX6_rounds_51 : decode cX6_rounds 51 = .ok (.invokestatic 245, 3) := by decide +kernel
theorem dX6_rounds_54 : decode cX6_rounds 54 = .ok (.istore 5, 2) := by decide +kernel
theorem dX6_rounds_56 : decode cX6_rounds 56 = .ok (.aload_n 0, 1) := by decide +kernel
theorem dX6_rounds_57 : decode cX6_rounds 57 = .ok (.iload_n 3, 1) := by decide +kernel
theorem dX6_rounds_58 : decode cX6_rounds 58 = .ok (.iload 5, 2) := by decide +kernel
theorem dX6_rounds_60 : decode cX6_rounds 60 = .ok (.invokevirtual 73, 3) := by decide +kernel
theorem dX6_rounds_63 : decode cX6_rounds 63 = .ok (.ireturn, 1) := by decide +kernel
theorem dX6_count_0 : decode cX6_count 0 = .ok (.iload_n 1, 1) := by decide +kernel
theorem dX6_count_1 : decode cX6_count 1 = .ok (.tableswitch 51 0 2 #[27, 35, 43], 27) := by decide +kernel
theorem dX6_count_28 : decode cX6_count 28 = .ok (.aload_n 0, 1) := by decide +kernel
theorem dX6_count_29 : decode cX6_count 29 = .ok (.getfield 29, 3) := by decide +kernel
theorem dX6_count_32 : decode cX6_count 32 = .ok (.getfield 135, 3) := by decide +kernel
theorem dX6_count_35 : decode cX6_count 35 = .ok (.ireturn, 1) := by decide +kernel
theorem dX6_count_36 : decode cX6_count 36 = .ok (.aload_n 0, 1) := by decide +kernel
theorem dX6_count_37 : decode cX6_count 37 = .ok (.getfield 43, 3) := by decide +kernel
theorem dX6_count_40 : decode cX6_count 40 = .ok (.getfield 178, 3) := by decide +kernel
theorem dX6_count_43 : decode cX6_count 43 = .ok (.ireturn, 1) := by decide +kernel
theorem dX6_count_44 : decode cX6_count 44 = .ok (.aload_n 0, 1) := by decide +kernel
theorem dX6_count_45 : decode cX6_count 45 = .ok (.getfield 43, 3) := by decide +kernel
theorem dX6_count_48 : decode cX6_count 48 = .ok (.getfield 260, 3) := by decide +kernel
theorem dX6_count_51 : decode cX6_count 51 = .ok (.ireturn, 1) := by decide +kernel
theorem dX6_count_52 : decode cX6_count 52 = .ok (.iconst (-1), 1) := by decide +kernel
theorem dX6_count_53 : decode cX6_count 53 = .ok (.ireturn, 1) := by decide +kernel
theorem dX6_isDivisor_0 : decode cX6_isDivisor 0 = .ok (.iload_n 0, 1) := by decide +kernel
theorem dX6_isDivisor_1 : decode cX6_isDivisor 1 = .ok (.iconst 2, 1) := by decide +kernel
theorem dX6_isDivisor_2 : decode cX6_isDivisor 2 = .ok (.if_icmp .lt 13, 3) := by decide +kernel
theorem dX6_isDivisor_5 : decode cX6_isDivisor 5 = .ok (.iload_n 0, 1) := by decide +kernel
theorem dX6_isDivisor_6 : decode cX6_isDivisor 6 = .ok (.ldc 77, 2) := by decide +kernel
theorem dX6_isDivisor_8 : decode cX6_isDivisor 8 = .ok (.if_icmp .gt 7, 3) := by decide +kernel
theorem dX6_isDivisor_11 : decode cX6_isDivisor 11 = .ok (.iconst 1, 1) := by decide +kernel
theorem dX6_isDivisor_12 : decode cX6_isDivisor 12 = .ok (.goto 4, 3) := by decide +kernel
theorem dX6_isDivisor_15 : decode cX6_isDivisor 15 = .ok (.iconst 0, 1) := by decide +kernel
theorem dX6_isDivisor_16 : decode cX6_isDivisor 16 = .ok (.ireturn, 1) := by decide +kernel
theorem dX6_isRest_0 : decode cX6_isRest 0 = .ok (.iload_n 0, 1) := by decide +kernel
theorem dX6_isRest_1 : decode cX6_isRest 1 = .ok (.ifCond .lt 12, 3) := by decide +kernel
theorem dX6_isRest_4 : decode cX6_isRest 4 = .ok (.iload_n 0, 1) := by decide +kernel
theorem dX6_isRest_5 : decode cX6_isRest 5 = .ok (.iload_n 1, 1) := by decide +kernel
theorem dX6_isRest_6 : decode cX6_isRest 6 = .ok (.if_icmp .ge 7, 3) := by decide +kernel
theorem dX6_isRest_9 : decode cX6_isRest 9 = .ok (.iconst 1, 1) := by decide +kernel
theorem dX6_isRest_10 : decode cX6_isRest 10 = .ok (.goto 4, 3) := by decide +kernel
theorem dX6_isRest_13 : decode cX6_isRest 13 = .ok (.iconst 0, 1) := by decide +kernel
theorem dX6_isRest_14 : decode cX6_isRest 14 = .ok (.ireturn, 1) := by decide +kernel
theorem dX6_isOddOne_0 : decode cX6_isOddOne 0 = .ok (.iload_n 0, 1) := by decide +kernel
theorem dX6_isOddOne_1 : decode cX6_isOddOne 1 = .ok (.iconst 3, 1) := by decide +kernel
theorem dX6_isOddOne_2 : decode cX6_isOddOne 2 = .ok (.if_icmp .lt 20, 3) := by decide +kernel
theorem dX6_isOddOne_5 : decode cX6_isOddOne 5 = .ok (.iload_n 0, 1) := by decide +kernel
theorem dX6_isOddOne_6 : decode cX6_isOddOne 6 = .ok (.ldc 208, 2) := by decide +kernel
theorem dX6_isOddOne_8 : decode cX6_isOddOne 8 = .ok (.if_icmp .gt 14, 3) := by decide +kernel
theorem dX6_isOddOne_11 : decode cX6_isOddOne 11 = .ok (.iload_n 0, 1) := by decide +kernel
theorem dX6_isOddOne_12 : decode cX6_isOddOne 12 = .ok (.iconst 2, 1) := by decide +kernel
theorem dX6_isOddOne_13 : decode cX6_isOddOne 13 = .ok (.irem, 1) := by decide +kernel
theorem dX6_isOddOne_14 : decode cX6_isOddOne 14 = .ok (.iconst 1, 1) := by decide +kernel
theorem dX6_isOddOne_15 : decode cX6_isOddOne 15 = .ok (.if_icmp .ne 7, 3) := by decide +kernel
theorem dX6_isOddOne_18 : decode cX6_isOddOne 18 = .ok (.iconst 1, 1) := by decide +kernel
theorem dX6_isOddOne_19 : decode cX6_isOddOne 19 = .ok (.goto 4, 3) := by decide +kernel
theorem dX6_isOddOne_22 : decode cX6_isOddOne 22 = .ok (.iconst 0, 1) := by decide +kernel
theorem dX6_isOddOne_23 : decode cX6_isOddOne 23 = .ok (.ireturn, 1) := by decide +kernel
theorem dX6_isBase_0 : decode cX6_isBase 0 = .ok (.iload_n 0, 1) := by decide +kernel
theorem dX6_isBase_1 : decode cX6_isBase 1 = .ok (.iconst 2, 1) := by decide +kernel
theorem dX6_isBase_2 : decode cX6_isBase 2 = .ok (.if_icmp .lt 13, 3) := by decide +kernel
theorem dX6_isBase_5 : decode cX6_isBase 5 = .ok (.iload_n 0, 1) := by decide +kernel
theorem dX6_isBase_6 : decode cX6_isBase 6 = .ok (.bipush 36, 2) := by decide +kernel
theorem dX6_isBase_8 : decode cX6_isBase 8 = .ok (.if_icmp .gt 7, 3) := by decide +kernel
theorem dX6_isBase_11 : decode cX6_isBase 11 = .ok (.iconst 1, 1) := by decide +kernel
theorem dX6_isBase_12 : decode cX6_isBase 12 = .ok (.goto 4, 3) := by decide +kernel
theorem dX6_isBase_15 : decode cX6_isBase 15 = .ok (.iconst 0, 1) := by decide +kernel
theorem dX6_isBase_16 : decode cX6_isBase 16 = .ok (.ireturn, 1) := by decide +kernel
set_option maxRecDepth 20000 in
theorem ggX6_areKeys_X6_isKeyPrime : GoodIn wsX6_areKeys wsX6_isKeyPrime := goodIn_r _ [5, 6, 7, 8, 9] (by decide +kernel) (by decide +kernel)
set_option maxRecDepth 20000 in
theorem gX6_areKeys_X6_isKeyPrime : GoodIn wsX6_areKeys (va_wsS RX6 263 yX6_isKeyPrime wsX6_isKeyPrime) := goodIn_app (goodIn_of _ (by decide +kernel)) ggX6_areKeys_X6_isKeyPrime
theorem dX6_areKeys_0 : decode cX6_areKeys 0 = .ok (.iload_n 0, 1) := by decide +kernel
theorem dX6_areKeys_1 : decode cX6_areKeys 1 = .ok (.invokestatic 263, 3) := by decide +kernel
theorem dX6_areKeys_4 : decode cX6_areKeys 4 = .ok (.ifCond .eq 31, 3) := by decide +kernel
theorem dX6_areKeys_7 : decode cX6_areKeys 7 = .ok (.iload_n 1, 1) := by decide +kernel
theorem dX6_areKeys_8 : decode cX6_areKeys 8 = .ok (.invokestatic 263, 3) := by decide +kernel
theorem dX6_areKeys_11 : decode cX6_areKeys 11 = .ok (.ifCond .eq 24, 3) := by decide +kernel
theorem dX6_areKeys_14 : decode cX6_areKeys 14 = .ok (.iload_n 0, 1) := by decide +kernel
theorem dX6_areKeys_15 : decode cX6_areKeys 15 = .ok (.iload_n 1, 1) := by decide +kernel
theorem dX6_areKeys_16 : decode cX6_areKeys 16 = .ok (.if_icmp .eq 19, 3) := by decide +kernel
theorem dX6_areKeys_19 : decode cX6_areKeys 19 = .ok (.iload_n 2, 1) := by decide +kernel
theorem dX6_areKeys_20 : decode cX6_areKeys 20 = .ok (.iconst 1, 1) := by decide +kernel
theorem dX6_areKeys_21 : decode cX6_areKeys 21 = .ok (.if_icmp .lt 14, 3) := by decide +kernel
theorem dX6_areKeys_24 : decode cX6_areKeys 24 = .ok (.iload_n 2, 1) := by decide +kernel
theorem dX6_areKeys_25 : decode cX6_areKeys 25 = .ok (.ldc_w 266, 3) := by decide +kernel
theorem dX6_areKeys_28 : decode cX6_areKeys 28 = .ok (.if_icmp .gt 7, 3) := by decide +kernel
theorem dX6_areKeys_31 : decode cX6_areKeys 31 = .ok (.iconst 1, 1) := by decide +kernel
theorem dX6_areKeys_32 : decode cX6_areKeys 32 = .ok (.goto 4, 3) := by decide +kernel
theorem dX6_areKeys_35 : decode cX6_areKeys 35 = .ok (.iconst 0, 1) := by decide +kernel
theorem dX6_areKeys_36 : decode cX6_areKeys 36 = .ok (.ireturn, 1) := by decide +kernel
set_option maxRecDepth 20000 in
theorem ggX6_isKeyPrime_X4_isPrime : GoodIn wsX6_isKeyPrime wsX4_isPrime := goodIn_r _ [4] (by decide +kernel) (by decide +kernel)
set_option maxRecDepth 20000 in
theorem gX6_isKeyPrime_X4_isPrime : GoodIn wsX6_isKeyPrime (va_wsS RX6 193 yX4_isPrime wsX4_isPrime) := goodIn_app (goodIn_of _ (by decide +kernel)) ggX6_isKeyPrime_X4_isPrime
theorem dX6_isKeyPrime_0 : decode cX6_isKeyPrime 0 = .ok (.iload_n 0, 1) := by decide +kernel
theorem dX6_isKeyPrime_1 : decode cX6_isKeyPrime 1 = .ok (.sipush 199, 3) := by decide +kernel
theorem dX6_isKeyPrime_4 : decode cX6_isKeyPrime 4 = .ok (.if_icmp .gt 14, 3) := by decide +kernel
theorem dX6_isKeyPrime_7 : decode cX6_isKeyPrime 7 = .ok (.iload_n 0, 1) := by decide +kernel
theorem dX6_isKeyPrime_8 : decode cX6_isKeyPrime 8 = .ok (.invokestatic 193, 3) := by decide +kernel
theorem dX6_isKeyPrime_11 : decode cX6_isKeyPrime 11 = .ok (.ifCond .eq 7, 3) := by decide +kernel
theorem dX6_isKeyPrime_14 : decode cX6_isKeyPrime 14 = .ok (.iconst 1, 1) := by decide +kernel
theorem dX6_isKeyPrime_15 : decode cX6_isKeyPrime 15 = .ok (.goto 4, 3) := by decide +kernel
theorem dX6_isKeyPrime_18 : decode cX6_isKeyPrime 18 = .ok (.iconst 0, 1) := by decide +kernel
theorem dX6_isKeyPrime_19 : decode cX6_isKeyPrime 19 = .ok (.ireturn, 1) := by decide +kernel
set_option maxRecDepth 20000 in
theorem ggX6_keySharesDivisor_X4_commonDivisor : GoodIn wsX6_keySharesDivisor wsX4_commonDivisor := goodIn_r _ [4] (by decide +kernel) (by decide +kernel)
set_option maxRecDepth 20000 in
theorem gX6_keySharesDivisor_X4_commonDivisor : GoodIn wsX6_keySharesDivisor (va_wsS RX6 267 yX4_commonDivisor wsX4_commonDivisor) := goodIn_app (goodIn_of _ (by decide +kernel)) ggX6_keySharesDivisor_X4_commonDivisor
theorem dX6_keySharesDivisor_0 : decode cX6_keySharesDivisor 0 = .ok (.iload_n 0, 1) := by decide +kernel
theorem dX6_keySharesDivisor_1 : decode cX6_keySharesDivisor 1 = .ok (.iconst 1, 1) := by decide +kernel
theorem dX6_keySharesDivisor_2 : decode cX6_keySharesDivisor 2 = .ok (.isub, 1) := by decide +kernel
end
section
theorem dX6_keySharesDivisor_3 : decode cX6_keySharesDivisor 3 = .ok (.iload_n 1, 1) := by decide +kernel
theorem dX6_keySharesDivisor_4 : decode cX6_keySharesDivisor 4 = .ok (.iconst 1, 1) := by decide +kernel
theorem dX6_keySharesDivisor_5 : decode cX6_keySharesDivisor 5 = .ok (.isub, 1) := by decide +kernel
theorem dX6_keySharesDivisor_6 : decode cX6_keySharesDivisor 6 = .ok (.imul, 1) := by decide +kernel
theorem dX6_keySharesDivisor_7 : decode cX6_keySharesDivisor 7 = .ok (.iload_n 2, 1) := by decide +kernel
theorem dX6_keySharesDivisor_8 : decode cX6_keySharesDivisor 8 = .ok (.invokestatic 267, 3) := by decide +kernel
theorem dX6_keySharesDivisor_11 : decode cX6_keySharesDivisor 11 = .ok (.iconst 1, 1) := by decide +kernel
theorem dX6_keySharesDivisor_12 : decode cX6_keySharesDivisor 12 = .ok (.if_icmp .eq 7, 3) := by decide +kernel
theorem dX6_keySharesDivisor_15 : decode cX6_keySharesDivisor 15 = .ok (.iconst 1, 1) := by decide +kernel
theorem dX6_keySharesDivisor_16 : decode cX6_keySharesDivisor 16 = .ok (.goto 4, 3) := by decide +kernel
theorem dX6_keySharesDivisor_19 : decode cX6_keySharesDivisor 19 = .ok (.iconst 0, 1) := by decide +kernel
theorem dX6_keySharesDivisor_20 : decode cX6_keySharesDivisor 20 = .ok (.ireturn, 1) := by decide +kernel
set_option maxRecDepth 20000 in
theorem ggX6_leastExponent_X0_split : GoodIn wsX6_leastExponent wsX0_split := goodIn_r _ [7, 8, 9, 10, 11, 6, 12, 13, 14, 51, 52, 53] (by decide +kernel) (by decide +kernel)
set_option maxRecDepth 20000 in
theorem gX6_leastExponent_X0_split : GoodIn wsX6_leastExponent (wsV RX6 58 RX0 yX0_split wsX0_split) := goodIn_app (goodIn_of _ (by decide +kernel)) ggX6_leastExponent_X0_split
set_option maxRecDepth 20000 in
theorem ggX6_leastExponent_X0_greatestOrder : GoodIn wsX6_leastExponent wsX0_greatestOrder := goodIn_r _ [18, 8, 19, 20, 21, 6, 22, 13, 14, 23, 24, 25, 26, 27, 28, 29, 30, 31, 32, 33, 34, 35, 36, 37, 51, 52, 53] (by decide +kernel) (by decide +kernel)
set_option maxRecDepth 20000 in
theorem gX6_leastExponent_X0_greatestOrder : GoodIn wsX6_leastExponent (wsV RX6 78 RX0 yX0_greatestOrder wsX0_greatestOrder) := goodIn_app (goodIn_of _ (by decide +kernel)) ggX6_leastExponent_X0_greatestOrder
set_option maxRecDepth 20000 in
theorem ggX6_leastExponent_X4_raise : GoodIn wsX6_leastExponent wsX4_raise := goodIn_r _ [40] (by decide +kernel) (by decide +kernel)
set_option maxRecDepth 20000 in
theorem gX6_leastExponent_X4_raise : GoodIn wsX6_leastExponent (va_wsS RX6 94 yX4_raise wsX4_raise) := goodIn_app (goodIn_of _ (by decide +kernel)) ggX6_leastExponent_X4_raise
theorem dX6_leastExponent_0 : decode cX6_leastExponent 0 = .ok (.aload_n 0, 1) := by decide +kernel
theorem dX6_leastExponent_1 : decode cX6_leastExponent 1 = .ok (.getfield 10, 3) := by decide +kernel
theorem dX6_leastExponent_4 : decode cX6_leastExponent 4 = .ok (.iload_n 2, 1) := by decide +kernel
theorem dX6_leastExponent_5 : decode cX6_leastExponent 5 = .ok (.invokevirtual 58, 3) := by decide +kernel
theorem dX6_leastExponent_8 : decode cX6_leastExponent 8 = .ok (.aload_n 0, 1) := by decide +kernel
theorem dX6_leastExponent_9 : decode cX6_leastExponent 9 = .ok (.getfield 10, 3) := by decide +kernel
theorem dX6_leastExponent_12 : decode cX6_leastExponent 12 = .ok (.invokevirtual 78, 3) := by decide +kernel
theorem dX6_leastExponent_15 : decode cX6_leastExponent 15 = .ok (.istore_n 3, 1) := by decide +kernel
theorem dX6_leastExponent_16 : decode cX6_leastExponent 16 = .ok (.aload_n 0, 1) := by decide +kernel
theorem dX6_leastExponent_17 : decode cX6_leastExponent 17 = .ok (.getfield 16, 3) := by decide +kernel
theorem dX6_leastExponent_20 : decode cX6_leastExponent 20 = .ok (.iload_n 3, 1) := by decide +kernel
theorem dX6_leastExponent_21 : decode cX6_leastExponent 21 = .ok (.invokevirtual 58, 3) := by decide +kernel
theorem dX6_leastExponent_24 : decode cX6_leastExponent 24 = .ok (.iconst 0, 1) := by decide +kernel
theorem dX6_leastExponent_25 : decode cX6_leastExponent 25 = .ok (.istore 4, 2) := by decide +kernel
theorem dX6_leastExponent_27 : decode cX6_leastExponent 27 = .ok (.iload 4, 2) := by decide +kernel
theorem dX6_leastExponent_29 : decode cX6_leastExponent 29 = .ok (.aload_n 0, 1) := by decide +kernel
theorem dX6_leastExponent_30 : decode cX6_leastExponent 30 = .ok (.getfield 16, 3) := by decide +kernel
theorem dX6_leastExponent_33 : decode cX6_leastExponent 33 = .ok (.getfield 115, 3) := by decide +kernel
theorem dX6_leastExponent_36 : decode cX6_leastExponent 36 = .ok (.if_icmp .ge 65, 3) := by decide +kernel
theorem dX6_leastExponent_39 : decode cX6_leastExponent 39 = .ok (.aload_n 0, 1) := by decide +kernel
theorem dX6_leastExponent_40 : decode cX6_leastExponent 40 = .ok (.getfield 16, 3) := by decide +kernel
theorem dX6_leastExponent_43 : decode cX6_leastExponent 43 = .ok (.getfield 119, 3) := by decide +kernel
theorem dX6_leastExponent_46 : decode cX6_leastExponent 46 = .ok (.iload 4, 2) := by decide +kernel
theorem dX6_leastExponent_48 : decode cX6_leastExponent 48 = .ok (.iaload, 1) := by decide +kernel
theorem dX6_leastExponent_49 : decode cX6_leastExponent 49 = .ok (.istore 5, 2) := by decide +kernel
theorem dX6_leastExponent_51 : decode cX6_leastExponent 51 = .ok (.iconst 0, 1) := by decide +kernel
theorem dX6_leastExponent_52 : decode cX6_leastExponent 52 = .ok (.istore 6, 2) := by decide +kernel
theorem dX6_leastExponent_54 : decode cX6_leastExponent 54 = .ok (.iload 6, 2) := by decide +kernel
theorem dX6_leastExponent_56 : decode cX6_leastExponent 56 = .ok (.aload_n 0, 1) := by decide +kernel
theorem dX6_leastExponent_57 : decode cX6_leastExponent 57 = .ok (.getfield 16, 3) := by decide +kernel
theorem dX6_leastExponent_60 : decode cX6_leastExponent 60 = .ok (.getfield 125, 3) := by decide +kernel
theorem dX6_leastExponent_63 : decode cX6_leastExponent 63 = .ok (.iload 4, 2) := by decide +kernel
theorem dX6_leastExponent_65 : decode cX6_leastExponent 65 = .ok (.iaload, 1) := by decide +kernel
theorem dX6_leastExponent_66 : decode cX6_leastExponent 66 = .ok (.if_icmp .ge 29, 3) := by decide +kernel
theorem dX6_leastExponent_69 : decode cX6_leastExponent 69 = .ok (.iload_n 1, 1) := by decide +kernel
theorem dX6_leastExponent_70 : decode cX6_leastExponent 70 = .ok (.i2l, 1) := by decide +kernel
theorem dX6_leastExponent_71 : decode cX6_leastExponent 71 = .ok (.iload_n 3, 1) := by decide +kernel
theorem dX6_leastExponent_72 : decode cX6_leastExponent 72 = .ok (.iload 5, 2) := by decide +kernel
theorem dX6_leastExponent_74 : decode cX6_leastExponent 74 = .ok (.idiv, 1) := by decide +kernel
theorem dX6_leastExponent_75 : decode cX6_leastExponent 75 = .ok (.i2l, 1) := by decide +kernel
theorem dX6_leastExponent_76 : decode cX6_leastExponent 76 = .ok (.iload_n 2, 1) := by decide +kernel
theorem dX6_leastExponent_77 : decode cX6_leastExponent 77 = .ok (.invokestatic 94, 3) := by decide +kernel
theorem dX6_leastExponent_80 : decode cX6_leastExponent 80 = .ok (.iconst 1, 1) := by decide +kernel
theorem dX6_leastExponent_81 : decode cX6_leastExponent 81 = .ok (.if_icmp .ne 14, 3) := by decide +kernel
theorem dX6_leastExponent_84 : decode cX6_leastExponent 84 = .ok (.iload_n 3, 1) := by decide +kernel
theorem dX6_leastExponent_85 : decode cX6_leastExponent 85 = .ok (.iload 5, 2) := by decide +kernel
theorem dX6_leastExponent_87 : decode cX6_leastExponent 87 = .ok (.idiv, 1) := by decide +kernel
theorem dX6_leastExponent_88 : decode cX6_leastExponent 88 = .ok (.istore_n 3, 1) := by decide +kernel
theorem dX6_leastExponent_89 : decode cX6_leastExponent 89 = .ok (.iinc 6 1, 3) := by decide +kernel
theorem dX6_leastExponent_92 : decode cX6_leastExponent 92 = .ok (.goto (-38), 3) := by decide +kernel
theorem dX6_leastExponent_95 : decode cX6_leastExponent 95 = .ok (.iinc 4 1, 3) := by decide +kernel
theorem dX6_leastExponent_98 : decode cX6_leastExponent 98 = .ok (.goto (-71), 3) := by decide +kernel
theorem dX6_leastExponent_101 : decode cX6_leastExponent 101 = .ok (.iload_n 3, 1) := by decide +kernel
theorem dX6_leastExponent_102 : decode cX6_leastExponent 102 = .ok (.ireturn, 1) := by decide +kernel
set_option maxRecDepth 20000 in
theorem ggX6_unitsOfOrder_X0_split : GoodIn wsX6_unitsOfOrder wsX0_split := goodIn_r _ [7, 8, 9, 10, 11, 6, 12, 13, 14, 45, 46, 47] (by decide +kernel) (by decide +kernel)
set_option maxRecDepth 20000 in
theorem gX6_unitsOfOrder_X0_split : GoodIn wsX6_unitsOfOrder (wsV RX6 58 RX0 yX0_split wsX0_split) := goodIn_app (goodIn_of _ (by decide +kernel)) ggX6_unitsOfOrder_X0_split
set_option maxRecDepth 20000 in
theorem ggX6_unitsOfOrder_X0_rootsOfOne : GoodIn wsX6_unitsOfOrder wsX0_rootsOfOne := goodIn_r _ [18, 8, 19, 20, 21, 6, 22, 13, 14, 23, 24, 25, 26, 27, 28, 29, 30, 31, 32, 33, 34, 45, 46, 47] (by decide +kernel) (by decide +kernel)
set_option maxRecDepth 20000 in
theorem gX6_unitsOfOrder_X0_rootsOfOne : GoodIn wsX6_unitsOfOrder (wsV RX6 270 RX0 yX0_rootsOfOne wsX0_rootsOfOne) := goodIn_app (goodIn_of _ (by decide +kernel)) ggX6_unitsOfOrder_X0_rootsOfOne
theorem dX6_unitsOfOrder_0 : decode cX6_unitsOfOrder 0 = .ok (.aload_n 0, 1) := by decide +kernel
theorem dX6_unitsOfOrder_1 : decode cX6_unitsOfOrder 1 = .ok (.getfield 16, 3) := by decide +kernel
theorem dX6_unitsOfOrder_4 : decode cX6_unitsOfOrder 4 = .ok (.iload_n 1, 1) := by decide +kernel
theorem dX6_unitsOfOrder_5 : decode cX6_unitsOfOrder 5 = .ok (.invokevirtual 58, 3) := by decide +kernel
theorem dX6_unitsOfOrder_8 : decode cX6_unitsOfOrder 8 = .ok (.iconst 1, 1) := by decide +kernel
theorem dX6_unitsOfOrder_9 : decode cX6_unitsOfOrder 9 = .ok (.istore_n 2, 1) := by decide +kernel
theorem dX6_unitsOfOrder_10 : decode cX6_unitsOfOrder 10 = .ok (.iconst 0, 1) := by decide +kernel
theorem dX6_unitsOfOrder_11 : decode cX6_unitsOfOrder 11 = .ok (.istore_n 3, 1) := by decide +kernel
theorem dX6_unitsOfOrder_12 : decode cX6_unitsOfOrder 12 = .ok (.iload_n 3, 1) := by decide +kernel
theorem dX6_unitsOfOrder_13 : decode cX6_unitsOfOrder 13 = .ok (.aload_n 0, 1) := by decide +kernel
theorem dX6_unitsOfOrder_14 : decode cX6_unitsOfOrder 14 = .ok (.getfield 16, 3) := by decide +kernel
theorem dX6_unitsOfOrder_17 : decode cX6_unitsOfOrder 17 = .ok (.getfield 115, 3) := by decide +kernel
theorem dX6_unitsOfOrder_20 : decode cX6_unitsOfOrder 20 = .ok (.if_icmp .ge 81, 3) := by decide +kernel
theorem dX6_unitsOfOrder_23 : decode cX6_unitsOfOrder 23 = .ok (.iconst 1, 1) := by decide +kernel
theorem dX6_unitsOfOrder_24 : decode cX6_unitsOfOrder 24 = .ok (.istore 4, 2) := by decide +kernel
theorem dX6_unitsOfOrder_26 : decode cX6_unitsOfOrder 26 = .ok (.iconst 1, 1) := by decide +kernel
theorem dX6_unitsOfOrder_27 : decode cX6_unitsOfOrder 27 = .ok (.istore 5, 2) := by decide +kernel
theorem dX6_unitsOfOrder_29 : decode cX6_unitsOfOrder 29 = .ok (.iload 5, 2) := by decide +kernel
theorem dX6_unitsOfOrder_31 : decode cX6_unitsOfOrder 31 = .ok (.aload_n 0, 1) := by decide +kernel
theorem dX6_unitsOfOrder_32 : decode cX6_unitsOfOrder 32 = .ok (.getfield 16, 3) := by decide +kernel
theorem dX6_unitsOfOrder_35 : decode cX6_unitsOfOrder 35 = .ok (.getfield 125, 3) := by decide +kernel
theorem dX6_unitsOfOrder_38 : decode cX6_unitsOfOrder 38 = .ok (.iload_n 3, 1) := by decide +kernel
theorem dX6_unitsOfOrder_39 : decode cX6_unitsOfOrder 39 = .ok (.iaload, 1) := by decide +kernel
theorem dX6_unitsOfOrder_40 : decode cX6_unitsOfOrder 40 = .ok (.if_icmp .ge 23, 3) := by decide +kernel
theorem dX6_unitsOfOrder_43 : decode cX6_unitsOfOrder 43 = .ok (.iload 4, 2) := by decide +kernel
theorem dX6_unitsOfOrder_45 : decode cX6_unitsOfOrder 45 = .ok (.aload_n 0, 1) := by decide +kernel
theorem dX6_unitsOfOrder_46 : decode cX6_unitsOfOrder 46 = .ok (.getfield 16, 3) := by decide +kernel
theorem dX6_unitsOfOrder_49 : decode cX6_unitsOfOrder 49 = .ok (.getfield 119, 3) := by decide +kernel
theorem dX6_unitsOfOrder_52 : decode cX6_unitsOfOrder 52 = .ok (.iload_n 3, 1) := by decide +kernel
theorem dX6_unitsOfOrder_53 : decode cX6_unitsOfOrder 53 = .ok (.iaload, 1) := by decide +kernel
theorem dX6_unitsOfOrder_54 : decode cX6_unitsOfOrder 54 = .ok (.imul, 1) := by decide +kernel
theorem dX6_unitsOfOrder_55 : decode cX6_unitsOfOrder 55 = .ok (.istore 4, 2) := by decide +kernel
theorem dX6_unitsOfOrder_57 : decode cX6_unitsOfOrder 57 = .ok (.iinc 5 1, 3) := by decide +kernel
theorem dX6_unitsOfOrder_60 : decode cX6_unitsOfOrder 60 = .ok (.goto (-31), 3) := by decide +kernel
theorem dX6_unitsOfOrder_63 : decode cX6_unitsOfOrder 63 = .ok (.iload_n 2, 1) := by decide +kernel
theorem dX6_unitsOfOrder_64 : decode cX6_unitsOfOrder 64 = .ok (.aload_n 0, 1) := by decide +kernel
theorem dX6_unitsOfOrder_65 : decode cX6_unitsOfOrder 65 = .ok (.getfield 10, 3) := by decide +kernel
theorem dX6_unitsOfOrder_68 : decode cX6_unitsOfOrder 68 = .ok (.iload 4, 2) := by decide +kernel
theorem dX6_unitsOfOrder_70 : decode cX6_unitsOfOrder 70 = .ok (.aload_n 0, 1) := by decide +kernel
theorem dX6_unitsOfOrder_71 : decode cX6_unitsOfOrder 71 = .ok (.getfield 16, 3) := by decide +kernel
theorem dX6_unitsOfOrder_74 : decode cX6_unitsOfOrder 74 = .ok (.getfield 119, 3) := by decide +kernel
theorem dX6_unitsOfOrder_77 : decode cX6_unitsOfOrder 77 = .ok (.iload_n 3, 1) := by decide +kernel
theorem dX6_unitsOfOrder_78 : decode cX6_unitsOfOrder 78 = .ok (.iaload, 1) := by decide +kernel
theorem dX6_unitsOfOrder_79 : decode cX6_unitsOfOrder 79 = .ok (.imul, 1) := by decide +kernel
theorem dX6_unitsOfOrder_80 : decode cX6_unitsOfOrder 80 = .ok (.invokevirtual 270, 3) := by decide +kernel
theorem dX6_unitsOfOrder_83 : decode cX6_unitsOfOrder 83 = .ok (.aload_n 0, 1) := by decide +kernel
theorem dX6_unitsOfOrder_84 : decode cX6_unitsOfOrder 84 = .ok (.getfield 10, 3) := by decide +kernel
theorem dX6_unitsOfOrder_87 : decode cX6_unitsOfOrder 87 = .ok (.iload 4, 2) := by decide +kernel
theorem dX6_unitsOfOrder_89 : decode cX6_unitsOfOrder 89 = .ok (.invokevirtual 270, 3) := by decide +kernel
theorem dX6_unitsOfOrder_92 : decode cX6_unitsOfOrder 92 = .ok (.isub, 1) := by decide +kernel
theorem dX6_unitsOfOrder_93 : decode cX6_unitsOfOrder 93 = .ok (.imul, 1) := by decide +kernel
theorem dX6_unitsOfOrder_94 : decode cX6_unitsOfOrder 94 = .ok (.istore_n 2, 1) := by decide +kernel
theorem dX6_unitsOfOrder_95 : decode cX6_unitsOfOrder 95 = .ok (.iinc 3 1, 3) := by decide +kernel
theorem dX6_unitsOfOrder_98 : decode cX6_unitsOfOrder 98 = .ok (.goto (-86), 3) := by decide +kernel
theorem dX6_unitsOfOrder_101 : decode cX6_unitsOfOrder 101 = .ok (.iload_n 2, 1) := by decide +kernel
theorem dX6_unitsOfOrder_102 : decode cX6_unitsOfOrder 102 = .ok (.ireturn, 1) := by decide +kernel
set_option maxRecDepth 20000 in
theorem ggX6_hasOrder_X4_raise : GoodIn wsX6_hasOrder wsX4_raise := goodIn_r _ [5] (by decide +kernel) (by decide +kernel)
set_option maxRecDepth 20000 in
theorem gX6_hasOrder_X4_raise : GoodIn wsX6_hasOrder (va_wsS RX6 94 yX4_raise wsX4_raise) := goodIn_app (goodIn_of _ (by decide +kernel)) ggX6_hasOrder_X4_raise
theorem dX6_hasOrder_0 : decode cX6_hasOrder 0 = .ok (.iload_n 1, 1) := by decide +kernel
theorem dX6_hasOrder_1 : decode cX6_hasOrder 1 = .ok (.i2l, 1) := by decide +kernel
theorem dX6_hasOrder_2 : decode cX6_hasOrder 2 = .ok (.iload_n 2, 1) := by decide +kernel
theorem dX6_hasOrder_3 : decode cX6_hasOrder 3 = .ok (.i2l, 1) := by decide +kernel
theorem dX6_hasOrder_4 : decode cX6_hasOrder 4 = .ok (.iload_n 3, 1) := by decide +kernel
theorem dX6_hasOrder_5 : decode cX6_hasOrder 5 = .ok (.invokestatic 94, 3) := by decide +kernel
theorem dX6_hasOrder_8 : decode cX6_hasOrder 8 = .ok (.iconst 1, 1) := by decide +kernel
theorem dX6_hasOrder_9 : decode cX6_hasOrder 9 = .ok (.if_icmp .eq 5, 3) := by decide +kernel
theorem dX6_hasOrder_12 : decode cX6_hasOrder 12 = .ok (.iconst 0, 1) := by decide +kernel
theorem dX6_hasOrder_13 : decode cX6_hasOrder 13 = .ok (.ireturn, 1) := by decide +kernel
theorem dX6_hasOrder_14 : decode cX6_hasOrder 14 = .ok (.iconst 0, 1) := by decide +kernel
theorem dX6_hasOrder_15 : decode cX6_hasOrder 15 = .ok (.istore 4, 2) := by decide +kernel
theorem dX6_hasOrder_17 : decode cX6_hasOrder 17 = .ok (.iload 4, 2) := by decide +kernel
theorem dX6_hasOrder_19 : decode cX6_hasOrder 19 = .ok (.aload_n 0, 1) := by decide +kernel
theorem dX6_hasOrder_20 : decode cX6_hasOrder 20 = .ok (.getfield 16, 3) := by decide +kernel
theorem dX6_hasOrder_23 : decode cX6_hasOrder 23 = .ok (.getfield 115, 3) := by decide +kernel
theorem dX6_hasOrder_26 : decode cX6_hasOrder 26 = .ok (.if_icmp .ge 34, 3) := by decide +kernel
theorem dX6_hasOrder_29 : decode cX6_hasOrder 29 = .ok (.iload_n 1, 1) := by decide +kernel
theorem dX6_hasOrder_30 : decode cX6_hasOrder 30 = .ok (.i2l, 1) := by decide +kernel
theorem dX6_hasOrder_31 : decode cX6_hasOrder 31 = .ok (.iload_n 2, 1) := by decide +kernel
theorem dX6_hasOrder_32 : decode cX6_hasOrder 32 = .ok (.aload_n 0, 1) := by decide +kernel
theorem dX6_hasOrder_33 : decode cX6_hasOrder 33 = .ok (.getfield 16, 3) := by decide +kernel
theorem dX6_hasOrder_36 : decode cX6_hasOrder 36 = .ok (.getfield 119, 3) := by decide +kernel
theorem dX6_hasOrder_39 : decode cX6_hasOrder 39 = .ok (.iload 4, 2) := by decide +kernel
theorem dX6_hasOrder_41 : decode cX6_hasOrder 41 = .ok (.iaload, 1) := by decide +kernel
theorem dX6_hasOrder_42 : decode cX6_hasOrder 42 = .ok (.idiv, 1) := by decide +kernel
theorem dX6_hasOrder_43 : decode cX6_hasOrder 43 = .ok (.i2l, 1) := by decide +kernel
theorem dX6_hasOrder_44 : decode cX6_hasOrder 44 = .ok (.iload_n 3, 1) := by decide +kernel
theorem dX6_hasOrder_45 : decode cX6_hasOrder 45 = .ok (.invokestatic 94, 3) := by decide +kernel
theorem dX6_hasOrder_48 : decode cX6_hasOrder 48 = .ok (.iconst 1, 1) := by decide +kernel
theorem dX6_hasOrder_49 : decode cX6_hasOrder 49 = .ok (.if_icmp .ne 5, 3) := by decide +kernel
theorem dX6_hasOrder_52 : decode cX6_hasOrder 52 = .ok (.iconst 0, 1) := by decide +kernel
theorem dX6_hasOrder_53 : decode cX6_hasOrder 53 = .ok (.ireturn, 1) := by decide +kernel
theorem dX6_hasOrder_54 : decode cX6_hasOrder 54 = .ok (.iinc 4 1, 3) := by decide +kernel
theorem dX6_hasOrder_57 : decode cX6_hasOrder 57 = .ok (.goto (-40), 3) := by decide +kernel
theorem dX6_hasOrder_60 : decode cX6_hasOrder 60 = .ok (.iconst 1, 1) := by decide +kernel
theorem dX6_hasOrder_61 : decode cX6_hasOrder 61 = .ok (.ireturn, 1) := by decide +kernel
set_option maxRecDepth 20000 in
theorem ggX6_markMakers_X6_firstMaker : GoodIn wsX6_markMakers wsX6_firstMaker := goodIn_r _ [7, 8, 9, 10, 6, 11, 2, 12, 13, 14, 15, 34, 35, 36, 37, 38, 39, 40, 41, 42, 43, 44, 45, 46] (by decide +kernel) (by decide +kernel)
set_option maxRecDepth 20000 in
theorem gX6_markMakers_X6_firstMaker : GoodIn wsX6_markMakers (wsV RX6 273 RX6 yX6_firstMaker wsX6_firstMaker) := goodIn_app (goodIn_of _ (by decide +kernel)) ggX6_markMakers_X6_firstMaker
set_option maxRecDepth 20000 in
theorem ggX6_markMakers_X3_wipeAll : GoodIn wsX6_markMakers wsX3_wipeAll := goodIn_r _ [20, 21, 47, 48] (by decide +kernel) (by decide +kernel)
set_option maxRecDepth 20000 in
theorem gX6_markMakers_X3_wipeAll : GoodIn wsX6_markMakers (wsV RX6 248 RX3 yX3_wipeAll wsX3_wipeAll) := goodIn_app (goodIn_of _ (by decide +kernel)) ggX6_markMakers_X3_wipeAll
set_option maxRecDepth 20000 in
theorem ggX6_markMakers_X0_sharesWith : GoodIn wsX6_markMakers wsX0_sharesWith := goodIn_r _ [26, 27, 28, 44, 45, 46] (by decide +kernel) (by decide +kernel)
set_option maxRecDepth 20000 in
theorem gX6_markMakers_X0_sharesWith : GoodIn wsX6_markMakers (wsV RX6 66 RX0 yX0_sharesWith wsX0_sharesWith) := goodIn_app (goodIn_of _ (by decide +kernel)) ggX6_markMakers_X0_sharesWith
set_option maxRecDepth 20000 in
theorem ggX6_markMakers_X3_put : GoodIn wsX6_markMakers wsX3_put := goodIn_r _ [32, 33, 21, 47, 48] (by decide +kernel) (by decide +kernel)
set_option maxRecDepth 20000 in
theorem gX6_markMakers_X3_put : GoodIn wsX6_markMakers (wsV RX6 276 RX3 yX3_put wsX3_put) := goodIn_app (goodIn_of _ (by decide +kernel)) ggX6_markMakers_X3_put
theorem dX6_markMakers_0 : decode cX6_markMakers 0 = .ok (.aload_n 0, 1) := by decide +kernel
theorem dX6_markMakers_1 : decode cX6_markMakers 1 = .ok (.iload_n 1, 1) := by decide +kernel
theorem dX6_markMakers_2 : decode cX6_markMakers 2 = .ok (.iload_n 2, 1) := by decide +kernel
theorem dX6_markMakers_3 : decode cX6_markMakers 3 = .ok (.invokevirtual 273, 3) := by decide +kernel
theorem dX6_markMakers_6 : decode cX6_markMakers 6 = .ok (.i2l, 1) := by decide +kernel
theorem dX6_markMakers_7 : decode cX6_markMakers 7 = .ok (.lstore_n 3, 1) := by decide +kernel
theorem dX6_markMakers_8 : decode cX6_markMakers 8 = .ok (.lload_n 3, 1) := by decide +kernel
theorem dX6_markMakers_9 : decode cX6_markMakers 9 = .ok (.lstore 5, 2) := by decide +kernel
theorem dX6_markMakers_11 : decode cX6_markMakers 11 = .ok (.aload_n 0, 1) := by decide +kernel
theorem dX6_markMakers_12 : decode cX6_markMakers 12 = .ok (.getfield 22, 3) := by decide +kernel
theorem dX6_markMakers_15 : decode cX6_markMakers 15 = .ok (.invokevirtual 248, 3) := by decide +kernel
theorem dX6_markMakers_18 : decode cX6_markMakers 18 = .ok (.iconst 1, 1) := by decide +kernel
theorem dX6_markMakers_19 : decode cX6_markMakers 19 = .ok (.istore 7, 2) := by decide +kernel
theorem dX6_markMakers_21 : decode cX6_markMakers 21 = .ok (.iload 7, 2) := by decide +kernel
theorem dX6_markMakers_23 : decode cX6_markMakers 23 = .ok (.iload_n 2, 1) := by decide +kernel
theorem dX6_markMakers_24 : decode cX6_markMakers 24 = .ok (.if_icmp .gt 40, 3) := by decide +kernel
theorem dX6_markMakers_27 : decode cX6_markMakers 27 = .ok (.aload_n 0, 1) := by decide +kernel
theorem dX6_markMakers_28 : decode cX6_markMakers 28 = .ok (.getfield 16, 3) := by decide +kernel
theorem dX6_markMakers_31 : decode cX6_markMakers 31 = .ok (.iload 7, 2) := by decide +kernel
theorem dX6_markMakers_33 : decode cX6_markMakers 33 = .ok (.invokevirtual 66, 3) := by decide +kernel
theorem dX6_markMakers_36 : decode cX6_markMakers 36 = .ok (.ifCond .ne 13, 3) := by decide +kernel
theorem dX6_markMakers_39 : decode cX6_markMakers 39 = .ok (.aload_n 0, 1) := by decide +kernel
theorem dX6_markMakers_40 : decode cX6_markMakers 40 = .ok (.getfield 22, 3) := by decide +kernel
theorem dX6_markMakers_43 : decode cX6_markMakers 43 = .ok (.lload 5, 2) := by decide +kernel
theorem dX6_markMakers_45 : decode cX6_markMakers 45 = .ok (.l2i, 1) := by decide +kernel
theorem dX6_markMakers_46 : decode cX6_markMakers 46 = .ok (.invokevirtual 276, 3) := by decide +kernel
theorem dX6_markMakers_49 : decode cX6_markMakers 49 = .ok (.lload 5, 2) := by decide +kernel
theorem dX6_markMakers_51 : decode cX6_markMakers 51 = .ok (.lload_n 3, 1) := by decide +kernel
theorem dX6_markMakers_52 : decode cX6_markMakers 52 = .ok (.lmul, 1) := by decide +kernel
theorem dX6_markMakers_53 : decode cX6_markMakers 53 = .ok (.iload_n 1, 1) := by decide +kernel
theorem dX6_markMakers_54 : decode cX6_markMakers 54 = .ok (.i2l, 1) := by decide +kernel
theorem dX6_markMakers_55 : decode cX6_markMakers 55 = .ok (.lrem, 1) := by decide +kernel
theorem dX6_markMakers_56 : decode cX6_markMakers 56 = .ok (.lstore 5, 2) := by decide +kernel
theorem dX6_markMakers_58 : decode cX6_markMakers 58 = .ok (.iinc 7 1, 3) := by decide +kernel
theorem dX6_markMakers_61 : decode cX6_markMakers 61 = .ok (.goto (-40), 3) := by decide +kernel
theorem dX6_markMakers_64 : decode cX6_markMakers 64 = .ok (.return_, 1) := by decide +kernel
set_option maxRecDepth 20000 in
theorem ggX6_firstMaker_X6_hasOrder : GoodIn wsX6_firstMaker wsX6_hasOrder := goodIn_r _ [5, 6, 7, 8, 9, 10, 11, 12, 13, 14, 15, 16, 17, 18, 19, 20, 21, 22, 23] (by decide +kernel) (by decide +kernel)
set_option maxRecDepth 20000 in
theorem gX6_firstMaker_X6_hasOrder : GoodIn wsX6_firstMaker (wsV RX6 279 RX6 yX6_hasOrder wsX6_hasOrder) := goodIn_app (goodIn_of _ (by decide +kernel)) ggX6_firstMaker_X6_hasOrder
theorem dX6_firstMaker_0 : decode cX6_firstMaker 0 = .ok (.iconst 1, 1) := by decide +kernel
theorem dX6_firstMaker_1 : decode cX6_firstMaker 1 = .ok (.istore_n 3, 1) := by decide +kernel
theorem dX6_firstMaker_2 : decode cX6_firstMaker 2 = .ok (.iload_n 3, 1) := by decide +kernel
theorem dX6_firstMaker_3 : decode cX6_firstMaker 3 = .ok (.iload_n 1, 1) := by decide +kernel
theorem dX6_firstMaker_4 : decode cX6_firstMaker 4 = .ok (.if_icmp .ge 21, 3) := by decide +kernel
theorem dX6_firstMaker_7 : decode cX6_firstMaker 7 = .ok (.aload_n 0, 1) := by decide +kernel
theorem dX6_firstMaker_8 : decode cX6_firstMaker 8 = .ok (.iload_n 3, 1) := by decide +kernel
theorem dX6_firstMaker_9 : decode cX6_firstMaker 9 = .ok (.iload_n 2, 1) := by decide +kernel
theorem dX6_firstMaker_10 : decode cX6_firstMaker 10 = .ok (.iload_n 1, 1) := by decide +kernel
theorem dX6_firstMaker_11 : decode cX6_firstMaker 11 = .ok (.invokevirtual 279, 3) := by decide +kernel
theorem dX6_firstMaker_14 : decode cX6_firstMaker 14 = .ok (.ifCond .eq 5, 3) := by decide +kernel
theorem dX6_firstMaker_17 : decode cX6_firstMaker 17 = .ok (.iload_n 3, 1) := by decide +kernel
theorem dX6_firstMaker_18 : decode cX6_firstMaker 18 = .ok (.ireturn, 1) := by decide +kernel
theorem dX6_firstMaker_19 : decode cX6_firstMaker 19 = .ok (.iinc 3 1, 3) := by decide +kernel
theorem dX6_firstMaker_22 : decode cX6_firstMaker 22 = .ok (.goto (-20), 3) := by decide +kernel
theorem dX6_firstMaker_25 : decode cX6_firstMaker 25 = .ok (.iconst 1, 1) := by decide +kernel
theorem dX6_firstMaker_26 : decode cX6_firstMaker 26 = .ok (.ireturn, 1) := by decide +kernel
theorem dX6_leastLog_0 : decode cX6_leastLog 0 = .ok (.lconst 1, 1) := by decide +kernel
theorem dX6_leastLog_1 : decode cX6_leastLog 1 = .ok (.lstore_n 3, 1) := by decide +kernel
theorem dX6_leastLog_2 : decode cX6_leastLog 2 = .ok (.iconst 0, 1) := by decide +kernel
theorem dX6_leastLog_3 : decode cX6_leastLog 3 = .ok (.istore 5, 2) := by decide +kernel
theorem dX6_leastLog_5 : decode cX6_leastLog 5 = .ok (.iload 5, 2) := by decide +kernel
theorem dX6_leastLog_7 : decode cX6_leastLog 7 = .ok (.iload_n 0, 1) := by decide +kernel
theorem dX6_leastLog_8 : decode cX6_leastLog 8 = .ok (.if_icmp .ge 27, 3) := by decide +kernel
theorem dX6_leastLog_11 : decode cX6_leastLog 11 = .ok (.lload_n 3, 1) := by decide +kernel
theorem dX6_leastLog_12 : decode cX6_leastLog 12 = .ok (.iload_n 2, 1) := by decide +kernel
theorem dX6_leastLog_13 : decode cX6_leastLog 13 = .ok (.i2l, 1) := by decide +kernel
theorem dX6_leastLog_14 : decode cX6_leastLog 14 = .ok (.lcmp, 1) := by decide +kernel
theorem dX6_leastLog_15 : decode cX6_leastLog 15 = .ok (.ifCond .ne 6, 3) := by decide +kernel
theorem dX6_leastLog_18 : decode cX6_leastLog 18 = .ok (.iload 5, 2) := by decide +kernel
theorem dX6_leastLog_20 : decode cX6_leastLog 20 = .ok (.ireturn, 1) := by decide +kernel
theorem dX6_leastLog_21 : decode cX6_leastLog 21 = .ok (.lload_n 3, 1) := by decide +kernel
theorem dX6_leastLog_22 : decode cX6_leastLog 22 = .ok (.iload_n 1, 1) := by decide +kernel
theorem dX6_leastLog_23 : decode cX6_leastLog 23 = .ok (.i2l, 1) := by decide +kernel
theorem dX6_leastLog_24 : decode cX6_leastLog 24 = .ok (.lmul, 1) := by decide +kernel
theorem dX6_leastLog_25 : decode cX6_leastLog 25 = .ok (.iload_n 0, 1) := by decide +kernel
theorem dX6_leastLog_26 : decode cX6_leastLog 26 = .ok (.i2l, 1) := by decide +kernel
theorem dX6_leastLog_27 : decode cX6_leastLog 27 = .ok (.lrem, 1) := by decide +kernel
theorem dX6_leastLog_28 : decode cX6_leastLog 28 = .ok (.lstore_n 3, 1) := by decide +kernel
theorem dX6_leastLog_29 : decode cX6_leastLog 29 = .ok (.iinc 5 1, 3) := by decide +kernel
theorem dX6_leastLog_32 : decode cX6_leastLog 32 = .ok (.goto (-27), 3) := by decide +kernel
theorem dX6_leastLog_35 : decode cX6_leastLog 35 = .ok (.bipush (-4), 2) := by decide +kernel
theorem dX6_leastLog_37 : decode cX6_leastLog 37 = .ok (.ireturn, 1) := by decide +kernel
set_option maxRecDepth 20000 in
theorem ggX6_markSquares_X3_wipeAll : GoodIn wsX6_markSquares wsX3_wipeAll := goodIn_r _ [7, 8, 24, 25] (by decide +kernel) (by decide +kernel)
set_option maxRecDepth 20000 in
theorem gX6_markSquares_X3_wipeAll : GoodIn wsX6_markSquares (wsV RX6 248 RX3 yX3_wipeAll wsX3_wipeAll) := goodIn_app (goodIn_of _ (by decide +kernel)) ggX6_markSquares_X3_wipeAll
set_option maxRecDepth 20000 in
theorem ggX6_markSquares_X3_put : GoodIn wsX6_markSquares wsX3_put := goodIn_r _ [12, 13, 8, 24, 25] (by decide +kernel) (by decide +kernel)
set_option maxRecDepth 20000 in
theorem gX6_markSquares_X3_put : GoodIn wsX6_markSquares (wsV RX6 276 RX3 yX3_put wsX3_put) := goodIn_app (goodIn_of _ (by decide +kernel)) ggX6_markSquares_X3_put
theorem dX6_markSquares_0 : decode cX6_markSquares 0 = .ok (.aload_n 0, 1) := by decide +kernel
theorem dX6_markSquares_1 : decode cX6_markSquares 1 = .ok (.getfield 22, 3) := by decide +kernel
theorem dX6_markSquares_4 : decode cX6_markSquares 4 = .ok (.invokevirtual 248, 3) := by decide +kernel
theorem dX6_markSquares_7 : decode cX6_markSquares 7 = .ok (.lconst 1, 1) := by decide +kernel
theorem dX6_markSquares_8 : decode cX6_markSquares 8 = .ok (.lstore_n 2, 1) := by decide +kernel
theorem dX6_markSquares_9 : decode cX6_markSquares 9 = .ok (.ldc2_w 282, 3) := by decide +kernel
theorem dX6_markSquares_12 : decode cX6_markSquares 12 = .ok (.lload_n 2, 1) := by decide +kernel
theorem dX6_markSquares_13 : decode cX6_markSquares 13 = .ok (.lmul, 1) := by decide +kernel
theorem dX6_markSquares_14 : decode cX6_markSquares 14 = .ok (.iload_n 1, 1) := by decide +kernel
theorem dX6_markSquares_15 : decode cX6_markSquares 15 = .ok (.i2l, 1) := by decide +kernel
theorem dX6_markSquares_16 : decode cX6_markSquares 16 = .ok (.lcmp, 1) := by decide +kernel
theorem dX6_markSquares_17 : decode cX6_markSquares 17 = .ok (.ifCond .gt 24, 3) := by decide +kernel
theorem dX6_markSquares_20 : decode cX6_markSquares 20 = .ok (.aload_n 0, 1) := by decide +kernel
theorem dX6_markSquares_21 : decode cX6_markSquares 21 = .ok (.getfield 22, 3) := by decide +kernel
theorem dX6_markSquares_24 : decode cX6_markSquares 24 = .ok (.lload_n 2, 1) := by decide +kernel
theorem dX6_markSquares_25 : decode cX6_markSquares 25 = .ok (.lload_n 2, 1) := by decide +kernel
theorem dX6_markSquares_26 : decode cX6_markSquares 26 = .ok (.lmul, 1) := by decide +kernel
theorem dX6_markSquares_27 : decode cX6_markSquares 27 = .ok (.iload_n 1, 1) := by decide +kernel
theorem dX6_markSquares_28 : decode cX6_markSquares 28 = .ok (.i2l, 1) := by decide +kernel
theorem dX6_markSquares_29 : decode cX6_markSquares 29 = .ok (.lrem, 1) := by decide +kernel
theorem dX6_markSquares_30 : decode cX6_markSquares 30 = .ok (.l2i, 1) := by decide +kernel
theorem dX6_markSquares_31 : decode cX6_markSquares 31 = .ok (.invokevirtual 276, 3) := by decide +kernel
theorem dX6_markSquares_34 : decode cX6_markSquares 34 = .ok (.lload_n 2, 1) := by decide +kernel
theorem dX6_markSquares_35 : decode cX6_markSquares 35 = .ok (.lconst 1, 1) := by decide +kernel
theorem dX6_markSquares_36 : decode cX6_markSquares 36 = .ok (.ladd, 1) := by decide +kernel
theorem dX6_markSquares_37 : decode cX6_markSquares 37 = .ok (.lstore_n 2, 1) := by decide +kernel
theorem dX6_markSquares_38 : decode cX6_markSquares 38 = .ok (.goto (-29), 3) := by decide +kernel
theorem dX6_markSquares_41 : decode cX6_markSquares 41 = .ok (.return_, 1) := by decide +kernel
set_option maxRecDepth 20000 in
theorem ggX6_firstNoSquare_X3_has : GoodIn wsX6_firstNoSquare wsX3_has := goodIn_r _ [7, 8, 9, 27, 28] (by decide +kernel) (by decide +kernel)
set_option maxRecDepth 20000 in
theorem gX6_firstNoSquare_X3_has : GoodIn wsX6_firstNoSquare (wsV RX6 284 RX3 yX3_has wsX3_has) := goodIn_app (goodIn_of _ (by decide +kernel)) ggX6_firstNoSquare_X3_has
set_option maxRecDepth 20000 in
theorem ggX6_firstNoSquare_X0_sharesWith : GoodIn wsX6_firstNoSquare wsX0_sharesWith := goodIn_r _ [14, 15, 16, 29, 30, 31] (by decide +kernel) (by decide +kernel)
set_option maxRecDepth 20000 in
theorem gX6_firstNoSquare_X0_sharesWith : GoodIn wsX6_firstNoSquare (wsV RX6 66 RX0 yX0_sharesWith wsX0_sharesWith) := goodIn_app (goodIn_of _ (by decide +kernel)) ggX6_firstNoSquare_X0_sharesWith
theorem dX6_firstNoSquare_0 : decode cX6_firstNoSquare 0 = .ok (.iconst 1, 1) := by decide +kernel
theorem dX6_firstNoSquare_1 : decode cX6_firstNoSquare 1 = .ok (.istore_n 2, 1) := by decide +kernel
theorem dX6_firstNoSquare_2 : decode cX6_firstNoSquare 2 = .ok (.iload_n 2, 1) := by decide +kernel
theorem dX6_firstNoSquare_3 : decode cX6_firstNoSquare 3 = .ok (.iload_n 1, 1) := by decide +kernel
theorem dX6_firstNoSquare_4 : decode cX6_firstNoSquare 4 = .ok (.if_icmp .ge 33, 3) := by decide +kernel
theorem dX6_firstNoSquare_7 : decode cX6_firstNoSquare 7 = .ok (.aload_n 0, 1) := by decide +kernel
theorem dX6_firstNoSquare_8 : decode cX6_firstNoSquare 8 = .ok (.getfield 22, 3) := by decide +kernel
theorem dX6_firstNoSquare_11 : decode cX6_firstNoSquare 11 = .ok (.iload_n 2, 1) := by decide +kernel
theorem dX6_firstNoSquare_12 : decode cX6_firstNoSquare 12 = .ok (.invokevirtual 284, 3) := by decide +kernel
theorem dX6_firstNoSquare_15 : decode cX6_firstNoSquare 15 = .ok (.ifCond .ne 16, 3) := by decide +kernel
theorem dX6_firstNoSquare_18 : decode cX6_firstNoSquare 18 = .ok (.aload_n 0, 1) := by decide +kernel
theorem dX6_firstNoSquare_19 : decode cX6_firstNoSquare 19 = .ok (.getfield 10, 3) := by decide +kernel
theorem dX6_firstNoSquare_22 : decode cX6_firstNoSquare 22 = .ok (.iload_n 2, 1) := by decide +kernel
theorem dX6_firstNoSquare_23 : decode cX6_firstNoSquare 23 = .ok (.invokevirtual 66, 3) := by decide +kernel
theorem dX6_firstNoSquare_26 : decode cX6_firstNoSquare 26 = .ok (.ifCond .ne 5, 3) := by decide +kernel
theorem dX6_firstNoSquare_29 : decode cX6_firstNoSquare 29 = .ok (.iload_n 2, 1) := by decide +kernel
theorem dX6_firstNoSquare_30 : decode cX6_firstNoSquare 30 = .ok (.ireturn, 1) := by decide +kernel
theorem dX6_firstNoSquare_31 : decode cX6_firstNoSquare 31 = .ok (.iinc 2 1, 3) := by decide +kernel
theorem dX6_firstNoSquare_34 : decode cX6_firstNoSquare 34 = .ok (.goto (-32), 3) := by decide +kernel
theorem dX6_firstNoSquare_37 : decode cX6_firstNoSquare 37 = .ok (.bipush (-4), 2) := by decide +kernel
theorem dX6_firstNoSquare_39 : decode cX6_firstNoSquare 39 = .ok (.ireturn, 1) := by decide +kernel
set_option maxRecDepth 20000 in
theorem ggX6_runsOfSquares_X3_has : GoodIn wsX6_runsOfSquares wsX3_has := goodIn_r _ [7, 8, 9, 27, 28] (by decide +kernel) (by decide +kernel)
set_option maxRecDepth 20000 in
theorem gX6_runsOfSquares_X3_has : GoodIn wsX6_runsOfSquares (wsV RX6 284 RX3 yX3_has wsX3_has) := goodIn_app (goodIn_of _ (by decide +kernel)) ggX6_runsOfSquares_X3_has
set_option maxRecDepth 20000 in
theorem ggX6_runsOfSquares_X0_sharesWith : GoodIn wsX6_runsOfSquares wsX0_sharesWith := goodIn_r _ [14, 15, 16, 29, 30, 31] (by decide +kernel) (by decide +kernel)
set_option maxRecDepth 20000 in
theorem gX6_runsOfSquares_X0_sharesWith : GoodIn wsX6_runsOfSquares (wsV RX6 66 RX0 yX0_sharesWith wsX0_sharesWith) := goodIn_app (goodIn_of _ (by decide +kernel)) ggX6_runsOfSquares_X0_sharesWith
theorem dX6_runsOfSquares_0 : decode cX6_runsOfSquares 0 = .ok (.iconst 0, 1) := by decide +kernel
theorem dX6_runsOfSquares_1 : decode cX6_runsOfSquares 1 = .ok (.istore_n 3, 1) := by decide +kernel
theorem dX6_runsOfSquares_2 : decode cX6_runsOfSquares 2 = .ok (.iconst 0, 1) := by decide +kernel
theorem dX6_runsOfSquares_3 : decode cX6_runsOfSquares 3 = .ok (.istore 4, 2) := by decide +kernel
theorem dX6_runsOfSquares_5 : decode cX6_runsOfSquares 5 = .ok (.iconst 0, 1) := by decide +kernel
theorem dX6_runsOfSquares_6 : decode cX6_runsOfSquares 6 = .ok (.istore 5, 2) := by decide +kernel
theorem dX6_runsOfSquares_8 : decode cX6_runsOfSquares 8 = .ok (.iconst 0, 1) := by decide +kernel
theorem dX6_runsOfSquares_9 : decode cX6_runsOfSquares 9 = .ok (.istore 6, 2) := by decide +kernel
theorem dX6_runsOfSquares_11 : decode cX6_runsOfSquares 11 = .ok (.iconst 1, 1) := by decide +kernel
theorem dX6_runsOfSquares_12 : decode cX6_runsOfSquares 12 = .ok (.istore 7, 2) := by decide +kernel
theorem dX6_runsOfSquares_14 : decode cX6_runsOfSquares 14 = .ok (.iload 7, 2) := by decide +kernel
theorem dX6_runsOfSquares_16 : decode cX6_runsOfSquares 16 = .ok (.iload_n 1, 1) := by decide +kernel
theorem dX6_runsOfSquares_17 : decode cX6_runsOfSquares 17 = .ok (.if_icmp .ge 65, 3) := by decide +kernel
theorem dX6_runsOfSquares_20 : decode cX6_runsOfSquares 20 = .ok (.aload_n 0, 1) := by decide +kernel
theorem dX6_runsOfSquares_21 : decode cX6_runsOfSquares 21 = .ok (.getfield 22, 3) := by decide +kernel
theorem dX6_runsOfSquares_24 : decode cX6_runsOfSquares 24 = .ok (.iload 7, 2) := by decide +kernel
theorem dX6_runsOfSquares_26 : decode cX6_runsOfSquares 26 = .ok (.invokevirtual 284, 3) := by decide +kernel
theorem dX6_runsOfSquares_29 : decode cX6_runsOfSquares 29 = .ok (.ifCond .eq 24, 3) := by decide +kernel
theorem dX6_runsOfSquares_32 : decode cX6_runsOfSquares 32 = .ok (.aload_n 0, 1) := by decide +kernel
theorem dX6_runsOfSquares_33 : decode cX6_runsOfSquares 33 = .ok (.getfield 10, 3) := by decide +kernel
theorem dX6_runsOfSquares_36 : decode cX6_runsOfSquares 36 = .ok (.iload 7, 2) := by decide +kernel
theorem dX6_runsOfSquares_38 : decode cX6_runsOfSquares 38 = .ok (.invokevirtual 66, 3) := by decide +kernel
theorem dX6_runsOfSquares_41 : decode cX6_runsOfSquares 41 = .ok (.ifCond .ne 12, 3) := by decide +kernel
theorem dX6_runsOfSquares_44 : decode cX6_runsOfSquares 44 = .ok (.iinc 3 1, 3) := by decide +kernel
theorem dX6_runsOfSquares_47 : decode cX6_runsOfSquares 47 = .ok (.iinc 4 1, 3) := by decide +kernel
theorem dX6_runsOfSquares_50 : decode cX6_runsOfSquares 50 = .ok (.goto 6, 3) := by decide +kernel
theorem dX6_runsOfSquares_53 : decode cX6_runsOfSquares 53 = .ok (.iconst 0, 1) := by decide +kernel
theorem dX6_runsOfSquares_54 : decode cX6_runsOfSquares 54 = .ok (.istore 4, 2) := by decide +kernel
theorem dX6_runsOfSquares_56 : decode cX6_runsOfSquares 56 = .ok (.iload 4, 2) := by decide +kernel
theorem dX6_runsOfSquares_58 : decode cX6_runsOfSquares 58 = .ok (.iload 5, 2) := by decide +kernel
theorem dX6_runsOfSquares_60 : decode cX6_runsOfSquares 60 = .ok (.if_icmp .le 16, 3) := by decide +kernel
theorem dX6_runsOfSquares_63 : decode cX6_runsOfSquares 63 = .ok (.iload 4, 2) := by decide +kernel
theorem dX6_runsOfSquares_65 : decode cX6_runsOfSquares 65 = .ok (.istore 5, 2) := by decide +kernel
theorem dX6_runsOfSquares_67 : decode cX6_runsOfSquares 67 = .ok (.iload 7, 2) := by decide +kernel
theorem dX6_runsOfSquares_69 : decode cX6_runsOfSquares 69 = .ok (.iload 4, 2) := by decide +kernel
theorem dX6_runsOfSquares_71 : decode cX6_runsOfSquares 71 = .ok (.isub, 1) := by decide +kernel
theorem dX6_runsOfSquares_72 : decode cX6_runsOfSquares 72 = .ok (.iconst 1, 1) := by decide +kernel
theorem dX6_runsOfSquares_73 : decode cX6_runsOfSquares 73 = .ok (.iadd, 1) := by decide +kernel
theorem dX6_runsOfSquares_74 : decode cX6_runsOfSquares 74 = .ok (.istore 6, 2) := by decide +kernel
theorem dX6_runsOfSquares_76 : decode cX6_runsOfSquares 76 = .ok (.iinc 7 1, 3) := by decide +kernel
theorem dX6_runsOfSquares_79 : decode cX6_runsOfSquares 79 = .ok (.goto (-65), 3) := by decide +kernel
theorem dX6_runsOfSquares_82 : decode cX6_runsOfSquares 82 = .ok (.iload_n 2, 1) := by decide +kernel
theorem dX6_runsOfSquares_83 : decode cX6_runsOfSquares 83 = .ok (.ifCond .ne 5, 3) := by decide +kernel
theorem dX6_runsOfSquares_86 : decode cX6_runsOfSquares 86 = .ok (.iload_n 3, 1) := by decide +kernel
theorem dX6_runsOfSquares_87 : decode cX6_runsOfSquares 87 = .ok (.ireturn, 1) := by decide +kernel
theorem dX6_runsOfSquares_88 : decode cX6_runsOfSquares 88 = .ok (.iload_n 2, 1) := by decide +kernel
theorem dX6_runsOfSquares_89 : decode cX6_runsOfSquares 89 = .ok (.iconst 1, 1) := by decide +kernel
theorem dX6_runsOfSquares_90 : decode cX6_runsOfSquares 90 = .ok (.if_icmp .ne 8, 3) := by decide +kernel
theorem dX6_runsOfSquares_93 : decode cX6_runsOfSquares 93 = .ok (.iload 5, 2) := by decide +kernel
theorem dX6_runsOfSquares_95 : decode cX6_runsOfSquares 95 = .ok (.goto 5, 3) := by decide +kernel
theorem dX6_runsOfSquares_98 : decode cX6_runsOfSquares 98 = .ok (.iload 6, 2) := by decide +kernel
theorem dX6_runsOfSquares_100 : decode cX6_runsOfSquares 100 = .ok (.ireturn, 1) := by decide +kernel
set_option maxRecDepth 20000 in
theorem ggX6_signByPrime_X4_raise : GoodIn wsX6_signByPrime wsX4_raise := goodIn_r _ [4] (by decide +kernel) (by decide +kernel)
set_option maxRecDepth 20000 in
theorem gX6_signByPrime_X4_raise : GoodIn wsX6_signByPrime (va_wsS RX6 94 yX4_raise wsX4_raise) := goodIn_app (goodIn_of _ (by decide +kernel)) ggX6_signByPrime_X4_raise
theorem dX6_signByPrime_0 : decode cX6_signByPrime 0 = .ok (.iload_n 0, 1) := by decide +kernel
theorem dX6_signByPrime_1 : decode cX6_signByPrime 1 = .ok (.iload_n 1, 1) := by decide +kernel
theorem dX6_signByPrime_2 : decode cX6_signByPrime 2 = .ok (.irem, 1) := by decide +kernel
theorem dX6_signByPrime_3 : decode cX6_signByPrime 3 = .ok (.ifCond .ne 5, 3) := by decide +kernel
theorem dX6_signByPrime_6 : decode cX6_signByPrime 6 = .ok (.iconst 0, 1) := by decide +kernel
theorem dX6_signByPrime_7 : decode cX6_signByPrime 7 = .ok (.ireturn, 1) := by decide +kernel
theorem dX6_signByPrime_8 : decode cX6_signByPrime 8 = .ok (.iload_n 0, 1) := by decide +kernel
theorem dX6_signByPrime_9 : decode cX6_signByPrime 9 = .ok (.i2l, 1) := by decide +kernel
theorem dX6_signByPrime_10 : decode cX6_signByPrime 10 = .ok (.iload_n 1, 1) := by decide +kernel
theorem dX6_signByPrime_11 : decode cX6_signByPrime 11 = .ok (.iconst 1, 1) := by decide +kernel
theorem dX6_signByPrime_12 : decode cX6_signByPrime 12 = .ok (.isub, 1) := by decide +kernel
theorem dX6_signByPrime_13 : decode cX6_signByPrime 13 = .ok (.iconst 2, 1) := by decide +kernel
theorem dX6_signByPrime_14 : decode cX6_signByPrime 14 = .ok (.idiv, 1) := by decide +kernel
theorem dX6_signByPrime_15 : decode cX6_signByPrime 15 = .ok (.i2l, 1) := by decide +kernel
theorem dX6_signByPrime_16 : decode cX6_signByPrime 16 = .ok (.iload_n 1, 1) := by decide +kernel
theorem dX6_signByPrime_17 : decode cX6_signByPrime 17 = .ok (.invokestatic 94, 3) := by decide +kernel
theorem dX6_signByPrime_20 : decode cX6_signByPrime 20 = .ok (.iconst 1, 1) := by decide +kernel
theorem dX6_signByPrime_21 : decode cX6_signByPrime 21 = .ok (.if_icmp .ne 7, 3) := by decide +kernel
theorem dX6_signByPrime_24 : decode cX6_signByPrime 24 = .ok (.iconst 1, 1) := by decide +kernel
theorem dX6_signByPrime_25 : decode cX6_signByPrime 25 = .ok (.goto 4, 3) := by decide +kernel
theorem dX6_signByPrime_28 : decode cX6_signByPrime 28 = .ok (.iconst (-1), 1) := by decide +kernel
theorem dX6_signByPrime_29 : decode cX6_signByPrime 29 = .ok (.ireturn, 1) := by decide +kernel
set_option maxRecDepth 20000 in
theorem ggX6_periodOfText_X1_read : GoodIn wsX6_periodOfText wsX1_read := goodIn_r _ [8, 9, 10, 11, 12, 13, 14, 15, 16, 17, 18, 19, 20, 21, 22, 23, 7, 24, 25, 26, 27, 28, 46, 47, 48, 49, 50, 51, 52] (by decide +kernel) (by decide +kernel)
set_option maxRecDepth 20000 in
theorem gX6_periodOfText_X1_read : GoodIn wsX6_periodOfText (wsV RX6 138 RX1 yX1_read wsX1_read) := goodIn_app (goodIn_of _ (by decide +kernel)) ggX6_periodOfText_X1_read
set_option maxRecDepth 20000 in
theorem ggX6_periodOfText_X4_commonMultiple : GoodIn wsX6_periodOfText wsX4_commonMultiple := goodIn_r _ [32, 33, 34, 31, 35] (by decide +kernel) (by decide +kernel)
set_option maxRecDepth 20000 in
theorem gX6_periodOfText_X4_commonMultiple : GoodIn wsX6_periodOfText (va_wsS RX6 245 yX4_commonMultiple wsX4_commonMultiple) := goodIn_app (goodIn_of _ (by decide +kernel)) ggX6_periodOfText_X4_commonMultiple
theorem dX6_periodOfText_0 : decode cX6_periodOfText 0 = .ok (.iconst 1, 1) := by decide +kernel
theorem dX6_periodOfText_1 : decode cX6_periodOfText 1 = .ok (.istore_n 1, 1) := by decide +kernel
theorem dX6_periodOfText_2 : decode cX6_periodOfText 2 = .ok (.iconst 0, 1) := by decide +kernel
theorem dX6_periodOfText_3 : decode cX6_periodOfText 3 = .ok (.istore_n 2, 1) := by decide +kernel
theorem dX6_periodOfText_4 : decode cX6_periodOfText 4 = .ok (.iconst 0, 1) := by decide +kernel
theorem dX6_periodOfText_5 : decode cX6_periodOfText 5 = .ok (.istore_n 3, 1) := by decide +kernel
theorem dX6_periodOfText_6 : decode cX6_periodOfText 6 = .ok (.iload_n 3, 1) := by decide +kernel
theorem dX6_periodOfText_7 : decode cX6_periodOfText 7 = .ok (.bipush 8, 2) := by decide +kernel
theorem dX6_periodOfText_9 : decode cX6_periodOfText 9 = .ok (.if_icmp .ge 50, 3) := by decide +kernel
theorem dX6_periodOfText_12 : decode cX6_periodOfText 12 = .ok (.iload_n 1, 1) := by decide +kernel
theorem dX6_periodOfText_13 : decode cX6_periodOfText 13 = .ok (.ldc 151, 2) := by decide +kernel
theorem dX6_periodOfText_15 : decode cX6_periodOfText 15 = .ok (.if_icmp .gt 44, 3) := by decide +kernel
theorem dX6_periodOfText_18 : decode cX6_periodOfText 18 = .ok (.aload_n 0, 1) := by decide +kernel
theorem dX6_periodOfText_19 : decode cX6_periodOfText 19 = .ok (.getfield 36, 3) := by decide +kernel
theorem dX6_periodOfText_22 : decode cX6_periodOfText 22 = .ok (.aload_n 0, 1) := by decide +kernel
theorem dX6_periodOfText_23 : decode cX6_periodOfText 23 = .ok (.getfield 29, 3) := by decide +kernel
theorem dX6_periodOfText_26 : decode cX6_periodOfText 26 = .ok (.iload_n 2, 1) := by decide +kernel
theorem dX6_periodOfText_27 : decode cX6_periodOfText 27 = .ok (.invokevirtual 138, 3) := by decide +kernel
theorem dX6_periodOfText_30 : decode cX6_periodOfText 30 = .ok (.ifCond .eq 29, 3) := by decide +kernel
theorem dX6_periodOfText_33 : decode cX6_periodOfText 33 = .ok (.iload_n 1, 1) := by decide +kernel
theorem dX6_periodOfText_34 : decode cX6_periodOfText 34 = .ok (.aload_n 0, 1) := by decide +kernel
theorem dX6_periodOfText_35 : decode cX6_periodOfText 35 = .ok (.getfield 36, 3) := by decide +kernel
theorem dX6_periodOfText_38 : decode cX6_periodOfText 38 = .ok (.getfield 287, 3) := by decide +kernel
theorem dX6_periodOfText_41 : decode cX6_periodOfText 41 = .ok (.invokestatic 245, 3) := by decide +kernel
theorem dX6_periodOfText_44 : decode cX6_periodOfText 44 = .ok (.istore_n 1, 1) := by decide +kernel
theorem dX6_periodOfText_45 : decode cX6_periodOfText 45 = .ok (.aload_n 0, 1) := by decide +kernel
theorem dX6_periodOfText_46 : decode cX6_periodOfText 46 = .ok (.getfield 36, 3) := by decide +kernel
theorem dX6_periodOfText_49 : decode cX6_periodOfText 49 = .ok (.getfield 142, 3) := by decide +kernel
theorem dX6_periodOfText_52 : decode cX6_periodOfText 52 = .ok (.istore_n 2, 1) := by decide +kernel
theorem dX6_periodOfText_53 : decode cX6_periodOfText 53 = .ok (.iinc 3 1, 3) := by decide +kernel
theorem dX6_periodOfText_56 : decode cX6_periodOfText 56 = .ok (.goto (-50), 3) := by decide +kernel
theorem dX6_periodOfText_59 : decode cX6_periodOfText 59 = .ok (.iload_n 1, 1) := by decide +kernel
theorem dX6_periodOfText_60 : decode cX6_periodOfText 60 = .ok (.ireturn, 1) := by decide +kernel
set_option maxRecDepth 20000 in
theorem ggX6_looksPrimeTo_X4_commonDivisor : GoodIn wsX6_looksPrimeTo wsX4_commonDivisor := goodIn_r _ [5] (by decide +kernel) (by decide +kernel)
set_option maxRecDepth 20000 in
theorem gX6_looksPrimeTo_X4_commonDivisor : GoodIn wsX6_looksPrimeTo (va_wsS RX6 267 yX4_commonDivisor wsX4_commonDivisor) := goodIn_app (goodIn_of _ (by decide +kernel)) ggX6_looksPrimeTo_X4_commonDivisor
theorem dX6_looksPrimeTo_0 : decode cX6_looksPrimeTo 0 = .ok (.iconst 1, 1) := by decide +kernel
theorem dX6_looksPrimeTo_1 : decode cX6_looksPrimeTo 1 = .ok (.istore_n 2, 1) := by decide +kernel
theorem dX6_looksPrimeTo_2 : decode cX6_looksPrimeTo 2 = .ok (.iconst 0, 1) := by decide +kernel
theorem dX6_looksPrimeTo_3 : decode cX6_looksPrimeTo 3 = .ok (.istore_n 3, 1) := by decide +kernel
theorem dX6_looksPrimeTo_4 : decode cX6_looksPrimeTo 4 = .ok (.iload_n 3, 1) := by decide +kernel
theorem dX6_looksPrimeTo_5 : decode cX6_looksPrimeTo 5 = .ok (.aload_n 0, 1) := by decide +kernel
theorem dX6_looksPrimeTo_6 : decode cX6_looksPrimeTo 6 = .ok (.getfield 10, 3) := by decide +kernel
theorem dX6_looksPrimeTo_9 : decode cX6_looksPrimeTo 9 = .ok (.getfield 115, 3) := by decide +kernel
theorem dX6_looksPrimeTo_12 : decode cX6_looksPrimeTo 12 = .ok (.if_icmp .ge 29, 3) := by decide +kernel
theorem dX6_looksPrimeTo_15 : decode cX6_looksPrimeTo 15 = .ok (.iload_n 2, 1) := by decide +kernel
theorem dX6_looksPrimeTo_16 : decode cX6_looksPrimeTo 16 = .ok (.iload_n 1, 1) := by decide +kernel
theorem dX6_looksPrimeTo_17 : decode cX6_looksPrimeTo 17 = .ok (.iconst 1, 1) := by decide +kernel
theorem dX6_looksPrimeTo_18 : decode cX6_looksPrimeTo 18 = .ok (.isub, 1) := by decide +kernel
theorem dX6_looksPrimeTo_19 : decode cX6_looksPrimeTo 19 = .ok (.aload_n 0, 1) := by decide +kernel
theorem dX6_looksPrimeTo_20 : decode cX6_looksPrimeTo 20 = .ok (.getfield 10, 3) := by decide +kernel
theorem dX6_looksPrimeTo_23 : decode cX6_looksPrimeTo 23 = .ok (.getfield 119, 3) := by decide +kernel
theorem dX6_looksPrimeTo_26 : decode cX6_looksPrimeTo 26 = .ok (.iload_n 3, 1) := by decide +kernel
theorem dX6_looksPrimeTo_27 : decode cX6_looksPrimeTo 27 = .ok (.iaload, 1) := by decide +kernel
theorem dX6_looksPrimeTo_28 : decode cX6_looksPrimeTo 28 = .ok (.iconst 1, 1) := by decide +kernel
theorem dX6_looksPrimeTo_29 : decode cX6_looksPrimeTo 29 = .ok (.isub, 1) := by decide +kernel
theorem dX6_looksPrimeTo_30 : decode cX6_looksPrimeTo 30 = .ok (.invokestatic 267, 3) := by decide +kernel
theorem dX6_looksPrimeTo_33 : decode cX6_looksPrimeTo 33 = .ok (.imul, 1) := by decide +kernel
theorem dX6_looksPrimeTo_34 : decode cX6_looksPrimeTo 34 = .ok (.istore_n 2, 1) := by decide +kernel
theorem dX6_looksPrimeTo_35 : decode cX6_looksPrimeTo 35 = .ok (.iinc 3 1, 3) := by decide +kernel
theorem dX6_looksPrimeTo_38 : decode cX6_looksPrimeTo 38 = .ok (.goto (-34), 3) := by decide +kernel
theorem dX6_looksPrimeTo_41 : decode cX6_looksPrimeTo 41 = .ok (.iload_n 2, 1) := by decide +kernel
theorem dX6_looksPrimeTo_42 : decode cX6_looksPrimeTo 42 = .ok (.ireturn, 1) := by decide +kernel
set_option maxRecDepth 20000 in
theorem ggX6_looksStronglyTo_X4_oddPart : GoodIn wsX6_looksStronglyTo wsX4_oddPart := goodIn_r _ [9, 10, 11, 8, 12] (by decide +kernel) (by decide +kernel)
set_option maxRecDepth 20000 in
theorem gX6_looksStronglyTo_X4_oddPart : GoodIn wsX6_looksStronglyTo (va_wsS RX6 290 yX4_oddPart wsX4_oddPart) := goodIn_app (goodIn_of _ (by decide +kernel)) ggX6_looksStronglyTo_X4_oddPart
set_option maxRecDepth 20000 in
theorem ggX6_looksStronglyTo_X4_commonDivisor : GoodIn wsX6_looksStronglyTo wsX4_commonDivisor := goodIn_r _ [15] (by decide +kernel) (by decide +kernel)
set_option maxRecDepth 20000 in
theorem gX6_looksStronglyTo_X4_commonDivisor : GoodIn wsX6_looksStronglyTo (va_wsS RX6 267 yX4_commonDivisor wsX4_commonDivisor) := goodIn_app (goodIn_of _ (by decide +kernel)) ggX6_looksStronglyTo_X4_commonDivisor
set_option maxRecDepth 20000 in
theorem ggX6_looksStronglyTo_X4_twosOf : GoodIn wsX6_looksStronglyTo wsX4_twosOf := goodIn_r _ [12] (by decide +kernel) (by decide +kernel)
set_option maxRecDepth 20000 in
theorem gX6_looksStronglyTo_X4_twosOf : GoodIn wsX6_looksStronglyTo (va_wsS RX6 293 yX4_twosOf wsX4_twosOf) := goodIn_app (goodIn_of _ (by decide +kernel)) ggX6_looksStronglyTo_X4_twosOf
theorem dX6_looksStronglyTo_0 : decode cX6_looksStronglyTo 0 = .ok (.iload_n 1, 1) := by decide +kernel
theorem dX6_looksStronglyTo_1 : decode cX6_looksStronglyTo 1 = .ok (.iconst 1, 1) := by decide +kernel
theorem dX6_looksStronglyTo_2 : decode cX6_looksStronglyTo 2 = .ok (.isub, 1) := by decide +kernel
theorem dX6_looksStronglyTo_3 : decode cX6_looksStronglyTo 3 = .ok (.invokestatic 290, 3) := by decide +kernel
theorem dX6_looksStronglyTo_6 : decode cX6_looksStronglyTo 6 = .ok (.istore_n 2, 1) := by decide +kernel
theorem dX6_looksStronglyTo_7 : decode cX6_looksStronglyTo 7 = .ok (.iconst 1, 1) := by decide +kernel
theorem dX6_looksStronglyTo_8 : decode cX6_looksStronglyTo 8 = .ok (.istore_n 3, 1) := by decide +kernel
theorem dX6_looksStronglyTo_9 : decode cX6_looksStronglyTo 9 = .ok (.iload_n 1, 1) := by decide +kernel
theorem dX6_looksStronglyTo_10 : decode cX6_looksStronglyTo 10 = .ok (.istore 4, 2) := by decide +kernel
theorem dX6_looksStronglyTo_12 : decode cX6_looksStronglyTo 12 = .ok (.iconst 0, 1) := by decide +kernel
theorem dX6_looksStronglyTo_13 : decode cX6_looksStronglyTo 13 = .ok (.istore 5, 2) := by decide +kernel
theorem dX6_looksStronglyTo_15 : decode cX6_looksStronglyTo 15 = .ok (.iload 5, 2) := by decide +kernel
theorem dX6_looksStronglyTo_17 : decode cX6_looksStronglyTo 17 = .ok (.aload_n 0, 1) := by decide +kernel
theorem dX6_looksStronglyTo_18 : decode cX6_looksStronglyTo 18 = .ok (.getfield 10, 3) := by decide +kernel
theorem dX6_looksStronglyTo_21 : decode cX6_looksStronglyTo 21 = .ok (.getfield 115, 3) := by decide +kernel
theorem dX6_looksStronglyTo_24 : decode cX6_looksStronglyTo 24 = .ok (.if_icmp .ge 47, 3) := by decide +kernel
theorem dX6_looksStronglyTo_27 : decode cX6_looksStronglyTo 27 = .ok (.aload_n 0, 1) := by decide +kernel
theorem dX6_looksStronglyTo_28 : decode cX6_looksStronglyTo 28 = .ok (.getfield 10, 3) := by decide +kernel
theorem dX6_looksStronglyTo_31 : decode cX6_looksStronglyTo 31 = .ok (.getfield 119, 3) := by decide +kernel
theorem dX6_looksStronglyTo_34 : decode cX6_looksStronglyTo 34 = .ok (.iload 5, 2) := by decide +kernel
theorem dX6_looksStronglyTo_36 : decode cX6_looksStronglyTo 36 = .ok (.iaload, 1) := by decide +kernel
theorem dX6_looksStronglyTo_37 : decode cX6_looksStronglyTo 37 = .ok (.iconst 1, 1) := by decide +kernel
theorem dX6_looksStronglyTo_38 : decode cX6_looksStronglyTo 38 = .ok (.isub, 1) := by decide +kernel
theorem dX6_looksStronglyTo_39 : decode cX6_looksStronglyTo 39 = .ok (.istore 6, 2) := by decide +kernel
theorem dX6_looksStronglyTo_41 : decode cX6_looksStronglyTo 41 = .ok (.iload_n 3, 1) := by decide +kernel
theorem dX6_looksStronglyTo_42 : decode cX6_looksStronglyTo 42 = .ok (.iload_n 2, 1) := by decide +kernel
theorem dX6_looksStronglyTo_43 : decode cX6_looksStronglyTo 43 = .ok (.iload 6, 2) := by decide +kernel
theorem dX6_looksStronglyTo_45 : decode cX6_looksStronglyTo 45 = .ok (.invokestatic 290, 3) := by decide +kernel
theorem dX6_looksStronglyTo_48 : decode cX6_looksStronglyTo 48 = .ok (.invokestatic 267, 3) := by decide +kernel
theorem dX6_looksStronglyTo_51 : decode cX6_looksStronglyTo 51 = .ok (.imul, 1) := by decide +kernel
theorem dX6_looksStronglyTo_52 : decode cX6_looksStronglyTo 52 = .ok (.istore_n 3, 1) := by decide +kernel
theorem dX6_looksStronglyTo_53 : decode cX6_looksStronglyTo 53 = .ok (.iload 4, 2) := by decide +kernel
theorem dX6_looksStronglyTo_55 : decode cX6_looksStronglyTo 55 = .ok (.iload 6, 2) := by decide +kernel
theorem dX6_looksStronglyTo_57 : decode cX6_looksStronglyTo 57 = .ok (.invokestatic 293, 3) := by decide +kernel
theorem dX6_looksStronglyTo_60 : decode cX6_looksStronglyTo 60 = .ok (.invokestatic 296, 3) := by decide +kernel
theorem dX6_looksStronglyTo_63 : decode cX6_looksStronglyTo 63 = .ok (.istore 4, 2) := by decide +kernel
theorem dX6_looksStronglyTo_65 : decode cX6_looksStronglyTo 65 = .ok (.iinc 5 1, 3) := by decide +kernel
theorem dX6_looksStronglyTo_68 : decode cX6_looksStronglyTo 68 = .ok (.goto (-53), 3) := by decide +kernel
theorem dX6_looksStronglyTo_71 : decode cX6_looksStronglyTo 71 = .ok (.iconst 1, 1) := by decide +kernel
theorem dX6_looksStronglyTo_72 : decode cX6_looksStronglyTo 72 = .ok (.istore 5, 2) := by decide +kernel
theorem dX6_looksStronglyTo_74 : decode cX6_looksStronglyTo 74 = .ok (.iconst 0, 1) := by decide +kernel
theorem dX6_looksStronglyTo_75 : decode cX6_looksStronglyTo 75 = .ok (.istore 6, 2) := by decide +kernel
theorem dX6_looksStronglyTo_77 : decode cX6_looksStronglyTo 77 = .ok (.iload 6, 2) := by decide +kernel
theorem dX6_looksStronglyTo_79 : decode cX6_looksStronglyTo 79 = .ok (.iload 4, 2) := by decide +kernel
theorem dX6_looksStronglyTo_81 : decode cX6_looksStronglyTo 81 = .ok (.if_icmp .ge 33, 3) := by decide +kernel
theorem dX6_looksStronglyTo_84 : decode cX6_looksStronglyTo 84 = .ok (.iload 6, 2) := by decide +kernel
theorem dX6_looksStronglyTo_86 : decode cX6_looksStronglyTo 86 = .ok (.bipush 16, 2) := by decide +kernel
theorem dX6_looksStronglyTo_88 : decode cX6_looksStronglyTo 88 = .ok (.if_icmp .ge 26, 3) := by decide +kernel
theorem dX6_looksStronglyTo_91 : decode cX6_looksStronglyTo 91 = .ok (.iload 5, 2) := by decide +kernel
theorem dX6_looksStronglyTo_93 : decode cX6_looksStronglyTo 93 = .ok (.iconst 1, 1) := by decide +kernel
theorem dX6_looksStronglyTo_94 : decode cX6_looksStronglyTo 94 = .ok (.iload 6, 2) := by decide +kernel
theorem dX6_looksStronglyTo_96 : decode cX6_looksStronglyTo 96 = .ok (.aload_n 0, 1) := by decide +kernel
theorem dX6_looksStronglyTo_97 : decode cX6_looksStronglyTo 97 = .ok (.getfield 10, 3) := by decide +kernel
theorem dX6_looksStronglyTo_100 : decode cX6_looksStronglyTo 100 = .ok (.getfield 115, 3) := by decide +kernel
theorem dX6_looksStronglyTo_103 : decode cX6_looksStronglyTo 103 = .ok (.imul, 1) := by decide +kernel
theorem dX6_looksStronglyTo_104 : decode cX6_looksStronglyTo 104 = .ok (.ishl, 1) := by decide +kernel
theorem dX6_looksStronglyTo_105 : decode cX6_looksStronglyTo 105 = .ok (.iadd, 1) := by decide +kernel
theorem dX6_looksStronglyTo_106 : decode cX6_looksStronglyTo 106 = .ok (.istore 5, 2) := by decide +kernel
theorem dX6_looksStronglyTo_108 : decode cX6_looksStronglyTo 108 = .ok (.iinc 6 1, 3) := by decide +kernel
theorem dX6_looksStronglyTo_111 : decode cX6_looksStronglyTo 111 = .ok (.goto (-34), 3) := by decide +kernel
theorem dX6_looksStronglyTo_114 : decode cX6_looksStronglyTo 114 = .ok (.iload_n 3, 1) := by decide +kernel
theorem dX6_looksStronglyTo_115 : decode cX6_looksStronglyTo 115 = .ok (.iload 5, 2) := by decide +kernel
theorem dX6_looksStronglyTo_117 : decode cX6_looksStronglyTo 117 = .ok (.imul, 1) := by decide +kernel
theorem dX6_looksStronglyTo_118 : decode cX6_looksStronglyTo 118 = .ok (.ireturn, 1) := by decide +kernel
set_option maxRecDepth 20000 in
theorem ggX6_leastWitness_X4_isPrime : GoodIn wsX6_leastWitness wsX4_isPrime := goodIn_r _ [4] (by decide +kernel) (by decide +kernel)
set_option maxRecDepth 20000 in
theorem gX6_leastWitness_X4_isPrime : GoodIn wsX6_leastWitness (va_wsS RX6 193 yX4_isPrime wsX4_isPrime) := goodIn_app (goodIn_of _ (by decide +kernel)) ggX6_leastWitness_X4_isPrime
set_option maxRecDepth 20000 in
theorem ggX6_leastWitness_X4_looksStrongly : GoodIn wsX6_leastWitness wsX4_looksStrongly := goodIn_r _ [7, 8, 9, 3, 10, 11, 12, 13, 14, 15, 16] (by decide +kernel) (by decide +kernel)
set_option maxRecDepth 20000 in
theorem gX6_leastWitness_X4_looksStrongly : GoodIn wsX6_leastWitness (va_wsS RX6 190 yX4_looksStrongly wsX4_looksStrongly) := goodIn_app (goodIn_of _ (by decide +kernel)) ggX6_leastWitness_X4_looksStrongly
theorem dX6_leastWitness_0 : decode cX6_leastWitness 0 = .ok (.iload_n 0, 1) := by decide +kernel
theorem dX6_leastWitness_1 : decode cX6_leastWitness 1 = .ok (.invokestatic 193, 3) := by decide +kernel
theorem dX6_leastWitness_4 : decode cX6_leastWitness 4 = .ok (.ifCond .eq 6, 3) := by decide +kernel
theorem dX6_leastWitness_7 : decode cX6_leastWitness 7 = .ok (.bipush (-4), 2) := by decide +kernel
theorem dX6_leastWitness_9 : decode cX6_leastWitness 9 = .ok (.ireturn, 1) := by decide +kernel
theorem dX6_leastWitness_10 : decode cX6_leastWitness 10 = .ok (.iconst 2, 1) := by decide +kernel
theorem dX6_leastWitness_11 : decode cX6_leastWitness 11 = .ok (.istore_n 1, 1) := by decide +kernel
theorem dX6_leastWitness_12 : decode cX6_leastWitness 12 = .ok (.iload_n 1, 1) := by decide +kernel
theorem dX6_leastWitness_13 : decode cX6_leastWitness 13 = .ok (.iload_n 0, 1) := by decide +kernel
theorem dX6_leastWitness_14 : decode cX6_leastWitness 14 = .ok (.iconst 2, 1) := by decide +kernel
theorem dX6_leastWitness_15 : decode cX6_leastWitness 15 = .ok (.isub, 1) := by decide +kernel
theorem dX6_leastWitness_16 : decode cX6_leastWitness 16 = .ok (.if_icmp .gt 19, 3) := by decide +kernel
theorem dX6_leastWitness_19 : decode cX6_leastWitness 19 = .ok (.iload_n 0, 1) := by decide +kernel
theorem dX6_leastWitness_20 : decode cX6_leastWitness 20 = .ok (.iload_n 1, 1) := by decide +kernel
theorem dX6_leastWitness_21 : decode cX6_leastWitness 21 = .ok (.invokestatic 190, 3) := by decide +kernel
theorem dX6_leastWitness_24 : decode cX6_leastWitness 24 = .ok (.ifCond .ne 5, 3) := by decide +kernel
theorem dX6_leastWitness_27 : decode cX6_leastWitness 27 = .ok (.iload_n 1, 1) := by decide +kernel
theorem dX6_leastWitness_28 : decode cX6_leastWitness 28 = .ok (.ireturn, 1) := by decide +kernel
theorem dX6_leastWitness_29 : decode cX6_leastWitness 29 = .ok (.iinc 1 1, 3) := by decide +kernel
theorem dX6_leastWitness_32 : decode cX6_leastWitness 32 = .ok (.goto (-20), 3) := by decide +kernel
theorem dX6_leastWitness_35 : decode cX6_leastWitness 35 = .ok (.bipush (-4), 2) := by decide +kernel
theorem dX6_leastWitness_37 : decode cX6_leastWitness 37 = .ok (.ireturn, 1) := by decide +kernel
set_option maxRecDepth 20000 in
theorem ggX6_liesToAll_X0_split : GoodIn wsX6_liesToAll wsX0_split := goodIn_r _ [6, 7, 8, 9, 10, 5, 11, 12, 13, 24, 25, 26] (by decide +kernel) (by decide +kernel)
set_option maxRecDepth 20000 in
theorem gX6_liesToAll_X0_split : GoodIn wsX6_liesToAll (wsV RX6 58 RX0 yX0_split wsX0_split) := goodIn_app (goodIn_of _ (by decide +kernel)) ggX6_liesToAll_X0_split
theorem dX6_liesToAll_0 : decode cX6_liesToAll 0 = .ok (.aload_n 0, 1) := by decide +kernel
theorem dX6_liesToAll_1 : decode cX6_liesToAll 1 = .ok (.getfield 10, 3) := by decide +kernel
theorem dX6_liesToAll_4 : decode cX6_liesToAll 4 = .ok (.iload_n 1, 1) := by decide +kernel
theorem dX6_liesToAll_5 : decode cX6_liesToAll 5 = .ok (.invokevirtual 58, 3) := by decide +kernel
theorem dX6_liesToAll_8 : decode cX6_liesToAll 8 = .ok (.aload_n 0, 1) := by decide +kernel
theorem dX6_liesToAll_9 : decode cX6_liesToAll 9 = .ok (.getfield 10, 3) := by decide +kernel
theorem dX6_liesToAll_12 : decode cX6_liesToAll 12 = .ok (.getfield 115, 3) := by decide +kernel
theorem dX6_liesToAll_15 : decode cX6_liesToAll 15 = .ok (.iconst 2, 1) := by decide +kernel
theorem dX6_liesToAll_16 : decode cX6_liesToAll 16 = .ok (.if_icmp .ge 5, 3) := by decide +kernel
theorem dX6_liesToAll_19 : decode cX6_liesToAll 19 = .ok (.iconst 0, 1) := by decide +kernel
theorem dX6_liesToAll_20 : decode cX6_liesToAll 20 = .ok (.ireturn, 1) := by decide +kernel
theorem dX6_liesToAll_21 : decode cX6_liesToAll 21 = .ok (.iconst 0, 1) := by decide +kernel
theorem dX6_liesToAll_22 : decode cX6_liesToAll 22 = .ok (.istore_n 2, 1) := by decide +kernel
theorem dX6_liesToAll_23 : decode cX6_liesToAll 23 = .ok (.iload_n 2, 1) := by decide +kernel
theorem dX6_liesToAll_24 : decode cX6_liesToAll 24 = .ok (.aload_n 0, 1) := by decide +kernel
theorem dX6_liesToAll_25 : decode cX6_liesToAll 25 = .ok (.getfield 10, 3) := by decide +kernel
theorem dX6_liesToAll_28 : decode cX6_liesToAll 28 = .ok (.getfield 115, 3) := by decide +kernel
theorem dX6_liesToAll_31 : decode cX6_liesToAll 31 = .ok (.if_icmp .ge 49, 3) := by decide +kernel
theorem dX6_liesToAll_34 : decode cX6_liesToAll 34 = .ok (.aload_n 0, 1) := by decide +kernel
theorem dX6_liesToAll_35 : decode cX6_liesToAll 35 = .ok (.getfield 10, 3) := by decide +kernel
theorem dX6_liesToAll_38 : decode cX6_liesToAll 38 = .ok (.getfield 119, 3) := by decide +kernel
theorem dX6_liesToAll_41 : decode cX6_liesToAll 41 = .ok (.iload_n 2, 1) := by decide +kernel
theorem dX6_liesToAll_42 : decode cX6_liesToAll 42 = .ok (.iaload, 1) := by decide +kernel
theorem dX6_liesToAll_43 : decode cX6_liesToAll 43 = .ok (.iconst 1, 1) := by decide +kernel
theorem dX6_liesToAll_44 : decode cX6_liesToAll 44 = .ok (.isub, 1) := by decide +kernel
theorem dX6_liesToAll_45 : decode cX6_liesToAll 45 = .ok (.istore_n 3, 1) := by decide +kernel
theorem dX6_liesToAll_46 : decode cX6_liesToAll 46 = .ok (.aload_n 0, 1) := by decide +kernel
theorem dX6_liesToAll_47 : decode cX6_liesToAll 47 = .ok (.getfield 10, 3) := by decide +kernel
theorem dX6_liesToAll_50 : decode cX6_liesToAll 50 = .ok (.getfield 125, 3) := by decide +kernel
theorem dX6_liesToAll_53 : decode cX6_liesToAll 53 = .ok (.iload_n 2, 1) := by decide +kernel
theorem dX6_liesToAll_54 : decode cX6_liesToAll 54 = .ok (.iaload, 1) := by decide +kernel
theorem dX6_liesToAll_55 : decode cX6_liesToAll 55 = .ok (.iconst 1, 1) := by decide +kernel
theorem dX6_liesToAll_56 : decode cX6_liesToAll 56 = .ok (.if_icmp .gt 16, 3) := by decide +kernel
theorem dX6_liesToAll_59 : decode cX6_liesToAll 59 = .ok (.iload_n 3, 1) := by decide +kernel
theorem dX6_liesToAll_60 : decode cX6_liesToAll 60 = .ok (.iconst 1, 1) := by decide +kernel
theorem dX6_liesToAll_61 : decode cX6_liesToAll 61 = .ok (.if_icmp .lt 11, 3) := by decide +kernel
theorem dX6_liesToAll_64 : decode cX6_liesToAll 64 = .ok (.iload_n 1, 1) := by decide +kernel
theorem dX6_liesToAll_65 : decode cX6_liesToAll 65 = .ok (.iconst 1, 1) := by decide +kernel
theorem dX6_liesToAll_66 : decode cX6_liesToAll 66 = .ok (.isub, 1) := by decide +kernel
theorem dX6_liesToAll_67 : decode cX6_liesToAll 67 = .ok (.iload_n 3, 1) := by decide +kernel
theorem dX6_liesToAll_68 : decode cX6_liesToAll 68 = .ok (.irem, 1) := by decide +kernel
theorem dX6_liesToAll_69 : decode cX6_liesToAll 69 = .ok (.ifCond .eq 5, 3) := by decide +kernel
theorem dX6_liesToAll_72 : decode cX6_liesToAll 72 = .ok (.iconst 0, 1) := by decide +kernel
theorem dX6_liesToAll_73 : decode cX6_liesToAll 73 = .ok (.ireturn, 1) := by decide +kernel
theorem dX6_liesToAll_74 : decode cX6_liesToAll 74 = .ok (.iinc 2 1, 3) := by decide +kernel
theorem dX6_liesToAll_77 : decode cX6_liesToAll 77 = .ok (.goto (-54), 3) := by decide +kernel
theorem dX6_liesToAll_80 : decode cX6_liesToAll 80 = .ok (.iconst 1, 1) := by decide +kernel
theorem dX6_liesToAll_81 : decode cX6_liesToAll 81 = .ok (.ireturn, 1) := by decide +kernel
set_option maxRecDepth 20000 in
theorem ggX6_findLiarsToTwo_X4_looksStrongly : GoodIn wsX6_findLiarsToTwo wsX4_looksStrongly := goodIn_r _ [8, 9, 10, 7, 11, 12, 13, 14, 15, 16, 17] (by decide +kernel) (by decide +kernel)
set_option maxRecDepth 20000 in
theorem gX6_findLiarsToTwo_X4_looksStrongly : GoodIn wsX6_findLiarsToTwo (va_wsS RX6 190 yX4_looksStrongly wsX4_looksStrongly) := goodIn_app (goodIn_of _ (by decide +kernel)) ggX6_findLiarsToTwo_X4_looksStrongly
set_option maxRecDepth 20000 in
theorem ggX6_findLiarsToTwo_X4_isPrime : GoodIn wsX6_findLiarsToTwo wsX4_isPrime := goodIn_r _ [20] (by decide +kernel) (by decide +kernel)
set_option maxRecDepth 20000 in
theorem gX6_findLiarsToTwo_X4_isPrime : GoodIn wsX6_findLiarsToTwo (va_wsS RX6 193 yX4_isPrime wsX4_isPrime) := goodIn_app (goodIn_of _ (by decide +kernel)) ggX6_findLiarsToTwo_X4_isPrime
theorem dX6_findLiarsToTwo_0 : decode cX6_findLiarsToTwo 0 = .ok (.aload_n 0, 1) := by decide +kernel
theorem dX6_findLiarsToTwo_1 : decode cX6_findLiarsToTwo 1 = .ok (.getfield 301, 3) := by decide +kernel
theorem dX6_findLiarsToTwo_4 : decode cX6_findLiarsToTwo 4 = .ok (.ifCond .eq 4, 3) := by decide +kernel
theorem dX6_findLiarsToTwo_7 : decode cX6_findLiarsToTwo 7 = .ok (.return_, 1) := by decide +kernel
theorem dX6_findLiarsToTwo_8 : decode cX6_findLiarsToTwo 8 = .ok (.bipush 9, 2) := by decide +kernel
theorem dX6_findLiarsToTwo_10 : decode cX6_findLiarsToTwo 10 = .ok (.istore_n 1, 1) := by decide +kernel
theorem dX6_findLiarsToTwo_11 : decode cX6_findLiarsToTwo 11 = .ok (.iload_n 1, 1) := by decide +kernel
theorem dX6_findLiarsToTwo_12 : decode cX6_findLiarsToTwo 12 = .ok (.ldc 208, 2) := by decide +kernel
theorem dX6_findLiarsToTwo_14 : decode cX6_findLiarsToTwo 14 = .ok (.if_icmp .gt 56, 3) := by decide +kernel
theorem dX6_findLiarsToTwo_17 : decode cX6_findLiarsToTwo 17 = .ok (.iload_n 1, 1) := by decide +kernel
theorem dX6_findLiarsToTwo_18 : decode cX6_findLiarsToTwo 18 = .ok (.iconst 2, 1) := by decide +kernel
theorem dX6_findLiarsToTwo_19 : decode cX6_findLiarsToTwo 19 = .ok (.invokestatic 190, 3) := by decide +kernel
theorem dX6_findLiarsToTwo_22 : decode cX6_findLiarsToTwo 22 = .ok (.ifCond .eq 42, 3) := by decide +kernel
theorem dX6_findLiarsToTwo_25 : decode cX6_findLiarsToTwo 25 = .ok (.iload_n 1, 1) := by decide +kernel
theorem dX6_findLiarsToTwo_26 : decode cX6_findLiarsToTwo 26 = .ok (.invokestatic 193, 3) := by decide +kernel
theorem dX6_findLiarsToTwo_29 : decode cX6_findLiarsToTwo 29 = .ok (.ifCond .ne 35, 3) := by decide +kernel
theorem dX6_findLiarsToTwo_32 : decode cX6_findLiarsToTwo 32 = .ok (.aload_n 0, 1) := by decide +kernel
theorem dX6_findLiarsToTwo_33 : decode cX6_findLiarsToTwo 33 = .ok (.getfield 212, 3) := by decide +kernel
theorem dX6_findLiarsToTwo_36 : decode cX6_findLiarsToTwo 36 = .ok (.aload_n 0, 1) := by decide +kernel
theorem dX6_findLiarsToTwo_37 : decode cX6_findLiarsToTwo 37 = .ok (.getfield 51, 3) := by decide +kernel
theorem dX6_findLiarsToTwo_40 : decode cX6_findLiarsToTwo 40 = .ok (.arraylength, 1) := by decide +kernel
theorem dX6_findLiarsToTwo_41 : decode cX6_findLiarsToTwo 41 = .ok (.if_icmp .ge 23, 3) := by decide +kernel
theorem dX6_findLiarsToTwo_44 : decode cX6_findLiarsToTwo 44 = .ok (.aload_n 0, 1) := by decide +kernel
theorem dX6_findLiarsToTwo_45 : decode cX6_findLiarsToTwo 45 = .ok (.getfield 51, 3) := by decide +kernel
theorem dX6_findLiarsToTwo_48 : decode cX6_findLiarsToTwo 48 = .ok (.aload_n 0, 1) := by decide +kernel
theorem dX6_findLiarsToTwo_49 : decode cX6_findLiarsToTwo 49 = .ok (.getfield 212, 3) := by decide +kernel
theorem dX6_findLiarsToTwo_52 : decode cX6_findLiarsToTwo 52 = .ok (.iload_n 1, 1) := by decide +kernel
theorem dX6_findLiarsToTwo_53 : decode cX6_findLiarsToTwo 53 = .ok (.iastore, 1) := by decide +kernel
theorem dX6_findLiarsToTwo_54 : decode cX6_findLiarsToTwo 54 = .ok (.aload_n 0, 1) := by decide +kernel
theorem dX6_findLiarsToTwo_55 : decode cX6_findLiarsToTwo 55 = .ok (.dup, 1) := by decide +kernel
theorem dX6_findLiarsToTwo_56 : decode cX6_findLiarsToTwo 56 = .ok (.getfield 212, 3) := by decide +kernel
theorem dX6_findLiarsToTwo_59 : decode cX6_findLiarsToTwo 59 = .ok (.iconst 1, 1) := by decide +kernel
theorem dX6_findLiarsToTwo_60 : decode cX6_findLiarsToTwo 60 = .ok (.iadd, 1) := by decide +kernel
theorem dX6_findLiarsToTwo_61 : decode cX6_findLiarsToTwo 61 = .ok (.putfield 212, 3) := by decide +kernel
theorem dX6_findLiarsToTwo_64 : decode cX6_findLiarsToTwo 64 = .ok (.iinc 1 2, 3) := by decide +kernel
theorem dX6_findLiarsToTwo_67 : decode cX6_findLiarsToTwo 67 = .ok (.goto (-56), 3) := by decide +kernel
theorem dX6_findLiarsToTwo_70 : decode cX6_findLiarsToTwo 70 = .ok (.aload_n 0, 1) := by decide +kernel
theorem dX6_findLiarsToTwo_71 : decode cX6_findLiarsToTwo 71 = .ok (.iconst 1, 1) := by decide +kernel
theorem dX6_findLiarsToTwo_72 : decode cX6_findLiarsToTwo 72 = .ok (.putfield 301, 3) := by decide +kernel
theorem dX6_findLiarsToTwo_75 : decode cX6_findLiarsToTwo 75 = .ok (.return_, 1) := by decide +kernel
set_option maxRecDepth 20000 in
theorem ggX6_looksStronglyUpTo_X4_looksStrongly : GoodIn wsX6_looksStronglyUpTo wsX4_looksStrongly := goodIn_r _ [4, 5, 6, 3, 7, 8, 9, 10, 11, 12, 13] (by decide +kernel) (by decide +kernel)
set_option maxRecDepth 20000 in
theorem gX6_looksStronglyUpTo_X4_looksStrongly : GoodIn wsX6_looksStronglyUpTo (va_wsS RX6 190 yX4_looksStrongly wsX4_looksStrongly) := goodIn_app (goodIn_of _ (by decide +kernel)) ggX6_looksStronglyUpTo_X4_looksStrongly
theorem dX6_looksStronglyUpTo_0 : decode cX6_looksStronglyUpTo 0 = .ok (.iconst 3, 1) := by decide +kernel
theorem dX6_looksStronglyUpTo_1 : decode cX6_looksStronglyUpTo 1 = .ok (.istore_n 2, 1) := by decide +kernel
theorem dX6_looksStronglyUpTo_2 : decode cX6_looksStronglyUpTo 2 = .ok (.iload_n 2, 1) := by decide +kernel
theorem dX6_looksStronglyUpTo_3 : decode cX6_looksStronglyUpTo 3 = .ok (.iload_n 1, 1) := by decide +kernel
theorem dX6_looksStronglyUpTo_4 : decode cX6_looksStronglyUpTo 4 = .ok (.if_icmp .gt 19, 3) := by decide +kernel
theorem dX6_looksStronglyUpTo_7 : decode cX6_looksStronglyUpTo 7 = .ok (.iload_n 0, 1) := by decide +kernel
theorem dX6_looksStronglyUpTo_8 : decode cX6_looksStronglyUpTo 8 = .ok (.iload_n 2, 1) := by decide +kernel
theorem dX6_looksStronglyUpTo_9 : decode cX6_looksStronglyUpTo 9 = .ok (.invokestatic 190, 3) := by decide +kernel
theorem dX6_looksStronglyUpTo_12 : decode cX6_looksStronglyUpTo 12 = .ok (.ifCond .ne 5, 3) := by decide +kernel
theorem dX6_looksStronglyUpTo_15 : decode cX6_looksStronglyUpTo 15 = .ok (.iconst 0, 1) := by decide +kernel
theorem dX6_looksStronglyUpTo_16 : decode cX6_looksStronglyUpTo 16 = .ok (.ireturn, 1) := by decide +kernel
theorem dX6_looksStronglyUpTo_17 : decode cX6_looksStronglyUpTo 17 = .ok (.iinc 2 1, 3) := by decide +kernel
theorem dX6_looksStronglyUpTo_20 : decode cX6_looksStronglyUpTo 20 = .ok (.goto (-18), 3) := by decide +kernel
theorem dX6_looksStronglyUpTo_23 : decode cX6_looksStronglyUpTo 23 = .ok (.iconst 1, 1) := by decide +kernel
theorem dX6_looksStronglyUpTo_24 : decode cX6_looksStronglyUpTo 24 = .ok (.ireturn, 1) := by decide +kernel
set_option maxRecDepth 20000 in
theorem ggX6_aheadOf_X6_partBeside : GoodIn wsX6_aheadOf wsX6_partBeside := goodIn_r _ [4, 5, 6, 7, 8] (by decide +kernel) (by decide +kernel)
set_option maxRecDepth 20000 in
theorem gX6_aheadOf_X6_partBeside : GoodIn wsX6_aheadOf (va_wsS RX6 305 yX6_partBeside wsX6_partBeside) := goodIn_app (goodIn_of _ (by decide +kernel)) ggX6_aheadOf_X6_partBeside
set_option maxRecDepth 20000 in
theorem ggX6_aheadOf_X4_raise : GoodIn wsX6_aheadOf wsX4_raise := goodIn_r _ [11] (by decide +kernel) (by decide +kernel)
set_option maxRecDepth 20000 in
theorem gX6_aheadOf_X4_raise : GoodIn wsX6_aheadOf (va_wsS RX6 94 yX4_raise wsX4_raise) := goodIn_app (goodIn_of _ (by decide +kernel)) ggX6_aheadOf_X4_raise
theorem dX6_aheadOf_0 : decode cX6_aheadOf 0 = .ok (.iload_n 0, 1) := by decide +kernel
theorem dX6_aheadOf_1 : decode cX6_aheadOf 1 = .ok (.iload_n 1, 1) := by decide +kernel
theorem dX6_aheadOf_2 : decode cX6_aheadOf 2 = .ok (.invokestatic 305, 3) := by decide +kernel
theorem dX6_aheadOf_5 : decode cX6_aheadOf 5 = .ok (.istore_n 2, 1) := by decide +kernel
theorem dX6_aheadOf_6 : decode cX6_aheadOf 6 = .ok (.iload_n 2, 1) := by decide +kernel
theorem dX6_aheadOf_7 : decode cX6_aheadOf 7 = .ok (.iconst 1, 1) := by decide +kernel
theorem dX6_aheadOf_8 : decode cX6_aheadOf 8 = .ok (.if_icmp .ge 7, 3) := by decide +kernel
theorem dX6_aheadOf_11 : decode cX6_aheadOf 11 = .ok (.iconst 1, 1) := by decide +kernel
theorem dX6_aheadOf_12 : decode cX6_aheadOf 12 = .ok (.goto 6, 3) := by decide +kernel
theorem dX6_aheadOf_15 : decode cX6_aheadOf 15 = .ok (.iload_n 1, 1) := by decide +kernel
theorem dX6_aheadOf_16 : decode cX6_aheadOf 16 = .ok (.iload_n 2, 1) := by decide +kernel
theorem dX6_aheadOf_17 : decode cX6_aheadOf 17 = .ok (.idiv, 1) := by decide +kernel
theorem dX6_aheadOf_18 : decode cX6_aheadOf 18 = .ok (.istore_n 3, 1) := by decide +kernel
theorem dX6_aheadOf_19 : decode cX6_aheadOf 19 = .ok (.iconst 0, 1) := by decide +kernel
theorem dX6_aheadOf_20 : decode cX6_aheadOf 20 = .ok (.istore 4, 2) := by decide +kernel
theorem dX6_aheadOf_22 : decode cX6_aheadOf 22 = .ok (.iload 4, 2) := by decide +kernel
theorem dX6_aheadOf_24 : decode cX6_aheadOf 24 = .ok (.bipush 32, 2) := by decide +kernel
theorem dX6_aheadOf_26 : decode cX6_aheadOf 26 = .ok (.if_icmp .ge 24, 3) := by decide +kernel
theorem dX6_aheadOf_29 : decode cX6_aheadOf 29 = .ok (.iload_n 0, 1) := by decide +kernel
theorem dX6_aheadOf_30 : decode cX6_aheadOf 30 = .ok (.i2l, 1) := by decide +kernel
theorem dX6_aheadOf_31 : decode cX6_aheadOf 31 = .ok (.iload 4, 2) := by decide +kernel
theorem dX6_aheadOf_33 : decode cX6_aheadOf 33 = .ok (.i2l, 1) := by decide +kernel
theorem dX6_aheadOf_34 : decode cX6_aheadOf 34 = .ok (.iload_n 3, 1) := by decide +kernel
theorem dX6_aheadOf_35 : decode cX6_aheadOf 35 = .ok (.invokestatic 94, 3) := by decide +kernel
theorem dX6_aheadOf_38 : decode cX6_aheadOf 38 = .ok (.ifCond .ne 6, 3) := by decide +kernel
theorem dX6_aheadOf_41 : decode cX6_aheadOf 41 = .ok (.iload 4, 2) := by decide +kernel
theorem dX6_aheadOf_43 : decode cX6_aheadOf 43 = .ok (.ireturn, 1) := by decide +kernel
theorem dX6_aheadOf_44 : decode cX6_aheadOf 44 = .ok (.iinc 4 1, 3) := by decide +kernel
theorem dX6_aheadOf_47 : decode cX6_aheadOf 47 = .ok (.goto (-25), 3) := by decide +kernel
theorem dX6_aheadOf_50 : decode cX6_aheadOf 50 = .ok (.bipush 32, 2) := by decide +kernel
theorem dX6_aheadOf_52 : decode cX6_aheadOf 52 = .ok (.ireturn, 1) := by decide +kernel
set_option maxRecDepth 20000 in
theorem ggX6_partBeside_X4_commonDivisor : GoodIn wsX6_partBeside wsX4_commonDivisor := goodIn_r _ [4] (by decide +kernel) (by decide +kernel)
set_option maxRecDepth 20000 in
theorem gX6_partBeside_X4_commonDivisor : GoodIn wsX6_partBeside (va_wsS RX6 267 yX4_commonDivisor wsX4_commonDivisor) := goodIn_app (goodIn_of _ (by decide +kernel)) ggX6_partBeside_X4_commonDivisor
theorem dX6_partBeside_0 : decode cX6_partBeside 0 = .ok (.iload_n 1, 1) := by decide +kernel
theorem dX6_partBeside_1 : decode cX6_partBeside 1 = .ok (.istore_n 2, 1) := by decide +kernel
theorem dX6_partBeside_2 : decode cX6_partBeside 2 = .ok (.iconst 0, 1) := by decide +kernel
theorem dX6_partBeside_3 : decode cX6_partBeside 3 = .ok (.istore_n 3, 1) := by decide +kernel
theorem dX6_partBeside_4 : decode cX6_partBeside 4 = .ok (.iload_n 3, 1) := by decide +kernel
theorem dX6_partBeside_5 : decode cX6_partBeside 5 = .ok (.bipush 32, 2) := by decide +kernel
theorem dX6_partBeside_7 : decode cX6_partBeside 7 = .ok (.if_icmp .ge 29, 3) := by decide +kernel
theorem dX6_partBeside_10 : decode cX6_partBeside 10 = .ok (.iload_n 2, 1) := by decide +kernel
theorem dX6_partBeside_11 : decode cX6_partBeside 11 = .ok (.iload_n 0, 1) := by decide +kernel
theorem dX6_partBeside_12 : decode cX6_partBeside 12 = .ok (.invokestatic 267, 3) := by decide +kernel
theorem dX6_partBeside_15 : decode cX6_partBeside 15 = .ok (.istore 4, 2) := by decide +kernel
theorem dX6_partBeside_17 : decode cX6_partBeside 17 = .ok (.iload 4, 2) := by decide +kernel
theorem dX6_partBeside_19 : decode cX6_partBeside 19 = .ok (.iconst 2, 1) := by decide +kernel
theorem dX6_partBeside_20 : decode cX6_partBeside 20 = .ok (.if_icmp .ge 5, 3) := by decide +kernel
theorem dX6_partBeside_23 : decode cX6_partBeside 23 = .ok (.iload_n 2, 1) := by decide +kernel
theorem dX6_partBeside_24 : decode cX6_partBeside 24 = .ok (.ireturn, 1) := by decide +kernel
theorem dX6_partBeside_25 : decode cX6_partBeside 25 = .ok (.iload_n 2, 1) := by decide +kernel
theorem dX6_partBeside_26 : decode cX6_partBeside 26 = .ok (.iload 4, 2) := by decide +kernel
theorem dX6_partBeside_28 : decode cX6_partBeside 28 = .ok (.idiv, 1) := by decide +kernel
theorem dX6_partBeside_29 : decode cX6_partBeside 29 = .ok (.istore_n 2, 1) := by decide +kernel
theorem dX6_partBeside_30 : decode cX6_partBeside 30 = .ok (.iinc 3 1, 3) := by decide +kernel
theorem dX6_partBeside_33 : decode cX6_partBeside 33 = .ok (.goto (-29), 3) := by decide +kernel
theorem dX6_partBeside_36 : decode cX6_partBeside 36 = .ok (.iload_n 2, 1) := by decide +kernel
theorem dX6_partBeside_37 : decode cX6_partBeside 37 = .ok (.ireturn, 1) := by decide +kernel
set_option maxRecDepth 20000 in
theorem ggX6_roundOf_X6_partBeside : GoodIn wsX6_roundOf wsX6_partBeside := goodIn_r _ [4, 5, 6, 7, 8] (by decide +kernel) (by decide +kernel)
set_option maxRecDepth 20000 in
theorem gX6_roundOf_X6_partBeside : GoodIn wsX6_roundOf (va_wsS RX6 305 yX6_partBeside wsX6_partBeside) := goodIn_app (goodIn_of _ (by decide +kernel)) ggX6_roundOf_X6_partBeside
set_option maxRecDepth 20000 in
theorem ggX6_roundOf_X6_leastExponent : GoodIn wsX6_roundOf wsX6_leastExponent := goodIn_r _ [12, 13, 14, 15, 16, 17, 18, 19, 20, 21, 22, 23, 24, 25, 26, 27, 28, 29, 30, 31, 32, 33, 34, 35, 36, 37, 38, 39, 40, 41, 42, 43, 44, 7, 45, 46, 6, 8, 47, 48, 49, 50, 51, 52, 53, 54, 55, 56, 57, 58, 59, 60, 61, 62] (by decide +kernel) (by decide +kernel)
set_option maxRecDepth 20000 in
theorem gX6_roundOf_X6_leastExponent : GoodIn wsX6_roundOf (wsV RX6 73 RX6 yX6_leastExponent wsX6_leastExponent) := goodIn_app (goodIn_of _ (by decide +kernel)) ggX6_roundOf_X6_leastExponent
theorem dX6_roundOf_0 : decode cX6_roundOf 0 = .ok (.iload_n 1, 1) := by decide +kernel
theorem dX6_roundOf_1 : decode cX6_roundOf 1 = .ok (.iload_n 2, 1) := by decide +kernel
theorem dX6_roundOf_2 : decode cX6_roundOf 2 = .ok (.invokestatic 305, 3) := by decide +kernel
theorem dX6_roundOf_5 : decode cX6_roundOf 5 = .ok (.istore_n 3, 1) := by decide +kernel
theorem dX6_roundOf_6 : decode cX6_roundOf 6 = .ok (.iload_n 3, 1) := by decide +kernel
theorem dX6_roundOf_7 : decode cX6_roundOf 7 = .ok (.iconst 1, 1) := by decide +kernel
theorem dX6_roundOf_8 : decode cX6_roundOf 8 = .ok (.if_icmp .ne 7, 3) := by decide +kernel
theorem dX6_roundOf_11 : decode cX6_roundOf 11 = .ok (.iconst 0, 1) := by decide +kernel
theorem dX6_roundOf_12 : decode cX6_roundOf 12 = .ok (.goto 9, 3) := by decide +kernel
theorem dX6_roundOf_15 : decode cX6_roundOf 15 = .ok (.aload_n 0, 1) := by decide +kernel
theorem dX6_roundOf_16 : decode cX6_roundOf 16 = .ok (.iload_n 1, 1) := by decide +kernel
theorem dX6_roundOf_17 : decode cX6_roundOf 17 = .ok (.iload_n 3, 1) := by decide +kernel
theorem dX6_roundOf_18 : decode cX6_roundOf 18 = .ok (.invokevirtual 73, 3) := by decide +kernel
theorem dX6_roundOf_21 : decode cX6_roundOf 21 = .ok (.ireturn, 1) := by decide +kernel
set_option maxRecDepth 20000 in
theorem ggX6_hasRound_X6_partBeside : GoodIn wsX6_hasRound wsX6_partBeside := goodIn_r _ [4, 5, 6, 7, 8] (by decide +kernel) (by decide +kernel)
set_option maxRecDepth 20000 in
theorem gX6_hasRound_X6_partBeside : GoodIn wsX6_hasRound (va_wsS RX6 305 yX6_partBeside wsX6_partBeside) := goodIn_app (goodIn_of _ (by decide +kernel)) ggX6_hasRound_X6_partBeside
set_option maxRecDepth 20000 in
theorem ggX6_hasRound_X6_hasOrder : GoodIn wsX6_hasRound wsX6_hasOrder := goodIn_r _ [12, 13, 14, 15, 7, 16, 17, 18, 19, 20, 21, 22, 23, 24, 25, 26, 27, 28, 29] (by decide +kernel) (by decide +kernel)
set_option maxRecDepth 20000 in
theorem gX6_hasRound_X6_hasOrder : GoodIn wsX6_hasRound (wsV RX6 279 RX6 yX6_hasOrder wsX6_hasOrder) := goodIn_app (goodIn_of _ (by decide +kernel)) ggX6_hasRound_X6_hasOrder
theorem dX6_hasRound_0 : decode cX6_hasRound 0 = .ok (.iload_n 1, 1) := by decide +kernel
theorem dX6_hasRound_1 : decode cX6_hasRound 1 = .ok (.iload_n 2, 1) := by decide +kernel
theorem dX6_hasRound_2 : decode cX6_hasRound 2 = .ok (.invokestatic 305, 3) := by decide +kernel
theorem dX6_hasRound_5 : decode cX6_hasRound 5 = .ok (.istore 4, 2) := by decide +kernel
theorem dX6_hasRound_7 : decode cX6_hasRound 7 = .ok (.iload 4, 2) := by decide +kernel
theorem dX6_hasRound_9 : decode cX6_hasRound 9 = .ok (.iconst 1, 1) := by decide +kernel
theorem dX6_hasRound_10 : decode cX6_hasRound 10 = .ok (.if_icmp .eq 7, 3) := by decide +kernel
theorem dX6_hasRound_13 : decode cX6_hasRound 13 = .ok (.iload_n 3, 1) := by decide +kernel
theorem dX6_hasRound_14 : decode cX6_hasRound 14 = .ok (.ifCond .ne 19, 3) := by decide +kernel
theorem dX6_hasRound_17 : decode cX6_hasRound 17 = .ok (.iload 4, 2) := by decide +kernel
theorem dX6_hasRound_19 : decode cX6_hasRound 19 = .ok (.iconst 1, 1) := by decide +kernel
theorem dX6_hasRound_20 : decode cX6_hasRound 20 = .ok (.if_icmp .ne 11, 3) := by decide +kernel
theorem dX6_hasRound_23 : decode cX6_hasRound 23 = .ok (.iload_n 3, 1) := by decide +kernel
theorem dX6_hasRound_24 : decode cX6_hasRound 24 = .ok (.ifCond .ne 7, 3) := by decide +kernel
theorem dX6_hasRound_27 : decode cX6_hasRound 27 = .ok (.iconst 1, 1) := by decide +kernel
theorem dX6_hasRound_28 : decode cX6_hasRound 28 = .ok (.goto 4, 3) := by decide +kernel
theorem dX6_hasRound_31 : decode cX6_hasRound 31 = .ok (.iconst 0, 1) := by decide +kernel
theorem dX6_hasRound_32 : decode cX6_hasRound 32 = .ok (.ireturn, 1) := by decide +kernel
theorem dX6_hasRound_33 : decode cX6_hasRound 33 = .ok (.aload_n 0, 1) := by decide +kernel
theorem dX6_hasRound_34 : decode cX6_hasRound 34 = .ok (.iload_n 1, 1) := by decide +kernel
theorem dX6_hasRound_35 : decode cX6_hasRound 35 = .ok (.iload_n 3, 1) := by decide +kernel
theorem dX6_hasRound_36 : decode cX6_hasRound 36 = .ok (.iload 4, 2) := by decide +kernel
theorem dX6_hasRound_38 : decode cX6_hasRound 38 = .ok (.invokevirtual 279, 3) := by decide +kernel
theorem dX6_hasRound_41 : decode cX6_hasRound 41 = .ok (.ireturn, 1) := by decide +kernel
theorem dX6_towerNumber_0 : decode cX6_towerNumber 0 = .ok (.lload_n 2, 1) := by decide +kernel
theorem dX6_towerNumber_1 : decode cX6_towerNumber 1 = .ok (.bipush 10, 2) := by decide +kernel
theorem dX6_towerNumber_3 : decode cX6_towerNumber 3 = .ok (.iload_n 1, 1) := by decide +kernel
theorem dX6_towerNumber_4 : decode cX6_towerNumber 4 = .ok (.iconst 1, 1) := by decide +kernel
theorem dX6_towerNumber_5 : decode cX6_towerNumber 5 = .ok (.isub, 1) := by decide +kernel
theorem dX6_towerNumber_6 : decode cX6_towerNumber 6 = .ok (.iload_n 0, 1) := by decide +kernel
theorem dX6_towerNumber_7 : decode cX6_towerNumber 7 = .ok (.isub, 1) := by decide +kernel
theorem dX6_towerNumber_8 : decode cX6_towerNumber 8 = .ok (.imul, 1) := by decide +kernel
theorem dX6_towerNumber_9 : decode cX6_towerNumber 9 = .ok (.lushr, 1) := by decide +kernel
theorem dX6_towerNumber_10 : decode cX6_towerNumber 10 = .ok (.l2i, 1) := by decide +kernel
theorem dX6_towerNumber_11 : decode cX6_towerNumber 11 = .ok (.sipush 1023, 3) := by decide +kernel
theorem dX6_towerNumber_14 : decode cX6_towerNumber 14 = .ok (.iand, 1) := by decide +kernel
theorem dX6_towerNumber_15 : decode cX6_towerNumber 15 = .ok (.ireturn, 1) := by decide +kernel
set_option maxRecDepth 20000 in
theorem ggX6_towerRest_X6_findSizes : GoodIn wsX6_towerRest wsX6_findSizes := goodIn_r _ [7, 1, 8, 9, 10, 11, 12, 13, 14, 15, 16, 17, 18, 19, 20, 21, 22, 23, 24, 25, 26, 27, 28, 29, 30, 31, 32, 47, 48, 49, 50, 51, 52, 53, 54, 55, 56, 57, 58, 59] (by decide +kernel) (by decide +kernel)
set_option maxRecDepth 20000 in
theorem gX6_towerRest_X6_findSizes : GoodIn wsX6_towerRest (wsV RX6 308 RX6 yX6_findSizes wsX6_findSizes) := goodIn_app (goodIn_of _ (by decide +kernel)) ggX6_towerRest_X6_findSizes
set_option maxRecDepth 20000 in
theorem ggX6_towerRest_X6_towerNumber : GoodIn wsX6_towerRest wsX6_towerNumber := goodIn_r _ [35] (by decide +kernel) (by decide +kernel)
set_option maxRecDepth 20000 in
theorem gX6_towerRest_X6_towerNumber : GoodIn wsX6_towerRest (va_wsS RX6 231 yX6_towerNumber wsX6_towerNumber) := goodIn_app (goodIn_of _ (by decide +kernel)) ggX6_towerRest_X6_towerNumber
set_option maxRecDepth 20000 in
theorem ggX6_towerRest_X4_raise : GoodIn wsX6_towerRest wsX4_raise := goodIn_r _ [39] (by decide +kernel) (by decide +kernel)
set_option maxRecDepth 20000 in
theorem gX6_towerRest_X4_raise : GoodIn wsX6_towerRest (va_wsS RX6 94 yX4_raise wsX4_raise) := goodIn_app (goodIn_of _ (by decide +kernel)) ggX6_towerRest_X4_raise
set_option maxRecDepth 20000 in
theorem ggX6_towerRest_X6_powerBelowHigh : GoodIn wsX6_towerRest wsX6_powerBelowHigh := goodIn_r _ [42, 2, 43, 44, 45, 46] (by decide +kernel) (by decide +kernel)
set_option maxRecDepth 20000 in
theorem gX6_towerRest_X6_powerBelowHigh : GoodIn wsX6_towerRest (va_wsS RX6 313 yX6_powerBelowHigh wsX6_powerBelowHigh) := goodIn_app (goodIn_of _ (by decide +kernel)) ggX6_towerRest_X6_powerBelowHigh
theorem dX6_towerRest_0 : decode cX6_towerRest 0 = .ok (.aload_n 0, 1) := by decide +kernel
theorem dX6_towerRest_1 : decode cX6_towerRest 1 = .ok (.iload_n 1, 1) := by decide +kernel
theorem dX6_towerRest_2 : decode cX6_towerRest 2 = .ok (.iload 4, 2) := by decide +kernel
theorem dX6_towerRest_4 : decode cX6_towerRest 4 = .ok (.invokevirtual 308, 3) := by decide +kernel
theorem dX6_towerRest_7 : decode cX6_towerRest 7 = .ok (.iconst 1, 1) := by decide +kernel
theorem dX6_towerRest_8 : decode cX6_towerRest 8 = .ok (.istore 5, 2) := by decide +kernel
theorem dX6_towerRest_10 : decode cX6_towerRest 10 = .ok (.lconst 1, 1) := by decide +kernel
theorem dX6_towerRest_11 : decode cX6_towerRest 11 = .ok (.lstore 6, 2) := by decide +kernel
theorem dX6_towerRest_13 : decode cX6_towerRest 13 = .ok (.iload_n 1, 1) := by decide +kernel
theorem dX6_towerRest_14 : decode cX6_towerRest 14 = .ok (.iconst 1, 1) := by decide +kernel
theorem dX6_towerRest_15 : decode cX6_towerRest 15 = .ok (.isub, 1) := by decide +kernel
theorem dX6_towerRest_16 : decode cX6_towerRest 16 = .ok (.istore 8, 2) := by decide +kernel
theorem dX6_towerRest_18 : decode cX6_towerRest 18 = .ok (.iload 8, 2) := by decide +kernel
theorem dX6_towerRest_20 : decode cX6_towerRest 20 = .ok (.ifCond .lt 86, 3) := by decide +kernel
theorem dX6_towerRest_23 : decode cX6_towerRest 23 = .ok (.iload 8, 2) := by decide +kernel
theorem dX6_towerRest_25 : decode cX6_towerRest 25 = .ok (.iconst 1, 1) := by decide +kernel
theorem dX6_towerRest_26 : decode cX6_towerRest 26 = .ok (.iadd, 1) := by decide +kernel
theorem dX6_towerRest_27 : decode cX6_towerRest 27 = .ok (.aload_n 0, 1) := by decide +kernel
theorem dX6_towerRest_28 : decode cX6_towerRest 28 = .ok (.getfield 47, 3) := by decide +kernel
theorem dX6_towerRest_31 : decode cX6_towerRest 31 = .ok (.arraylength, 1) := by decide +kernel
theorem dX6_towerRest_32 : decode cX6_towerRest 32 = .ok (.if_icmp .ge 74, 3) := by decide +kernel
theorem dX6_towerRest_35 : decode cX6_towerRest 35 = .ok (.iload 8, 2) := by decide +kernel
theorem dX6_towerRest_37 : decode cX6_towerRest 37 = .ok (.iload_n 1, 1) := by decide +kernel
theorem dX6_towerRest_38 : decode cX6_towerRest 38 = .ok (.lload_n 2, 1) := by decide +kernel
theorem dX6_towerRest_39 : decode cX6_towerRest 39 = .ok (.invokestatic 231, 3) := by decide +kernel
theorem dX6_towerRest_42 : decode cX6_towerRest 42 = .ok (.istore 9, 2) := by decide +kernel
theorem dX6_towerRest_44 : decode cX6_towerRest 44 = .ok (.lload 6, 2) := by decide +kernel
theorem dX6_towerRest_46 : decode cX6_towerRest 46 = .ok (.ldc2_w 311, 3) := by decide +kernel
theorem dX6_towerRest_49 : decode cX6_towerRest 49 = .ok (.lcmp, 1) := by decide +kernel
theorem dX6_towerRest_50 : decode cX6_towerRest 50 = .ok (.ifCond .ge 8, 3) := by decide +kernel
theorem dX6_towerRest_53 : decode cX6_towerRest 53 = .ok (.lload 6, 2) := by decide +kernel
theorem dX6_towerRest_55 : decode cX6_towerRest 55 = .ok (.goto 17, 3) := by decide +kernel
theorem dX6_towerRest_58 : decode cX6_towerRest 58 = .ok (.iload 5, 2) := by decide +kernel
theorem dX6_towerRest_60 : decode cX6_towerRest 60 = .ok (.i2l, 1) := by decide +kernel
theorem dX6_towerRest_61 : decode cX6_towerRest 61 = .ok (.aload_n 0, 1) := by decide +kernel
theorem dX6_towerRest_62 : decode cX6_towerRest 62 = .ok (.getfield 47, 3) := by decide +kernel
theorem dX6_towerRest_65 : decode cX6_towerRest 65 = .ok (.iload 8, 2) := by decide +kernel
theorem dX6_towerRest_67 : decode cX6_towerRest 67 = .ok (.iconst 1, 1) := by decide +kernel
theorem dX6_towerRest_68 : decode cX6_towerRest 68 = .ok (.iadd, 1) := by decide +kernel
theorem dX6_towerRest_69 : decode cX6_towerRest 69 = .ok (.iaload, 1) := by decide +kernel
theorem dX6_towerRest_70 : decode cX6_towerRest 70 = .ok (.i2l, 1) := by decide +kernel
theorem dX6_towerRest_71 : decode cX6_towerRest 71 = .ok (.ladd, 1) := by decide +kernel
theorem dX6_towerRest_72 : decode cX6_towerRest 72 = .ok (.lstore 10, 2) := by decide +kernel
theorem dX6_towerRest_74 : decode cX6_towerRest 74 = .ok (.iload 9, 2) := by decide +kernel
theorem dX6_towerRest_76 : decode cX6_towerRest 76 = .ok (.i2l, 1) := by decide +kernel
theorem dX6_towerRest_77 : decode cX6_towerRest 77 = .ok (.lload 10, 2) := by decide +kernel
theorem dX6_towerRest_79 : decode cX6_towerRest 79 = .ok (.aload_n 0, 1) := by decide +kernel
theorem dX6_towerRest_80 : decode cX6_towerRest 80 = .ok (.getfield 47, 3) := by decide +kernel
theorem dX6_towerRest_83 : decode cX6_towerRest 83 = .ok (.iload 8, 2) := by decide +kernel
theorem dX6_towerRest_85 : decode cX6_towerRest 85 = .ok (.iaload, 1) := by decide +kernel
theorem dX6_towerRest_86 : decode cX6_towerRest 86 = .ok (.invokestatic 94, 3) := by decide +kernel
theorem dX6_towerRest_89 : decode cX6_towerRest 89 = .ok (.istore 5, 2) := by decide +kernel
theorem dX6_towerRest_91 : decode cX6_towerRest 91 = .ok (.iload 9, 2) := by decide +kernel
theorem dX6_towerRest_93 : decode cX6_towerRest 93 = .ok (.lload 6, 2) := by decide +kernel
theorem dX6_towerRest_95 : decode cX6_towerRest 95 = .ok (.invokestatic 313, 3) := by decide +kernel
theorem dX6_towerRest_98 : decode cX6_towerRest 98 = .ok (.lstore 6, 2) := by decide +kernel
theorem dX6_towerRest_100 : decode cX6_towerRest 100 = .ok (.iinc 8 (-1), 3) := by decide +kernel
theorem dX6_towerRest_103 : decode cX6_towerRest 103 = .ok (.goto (-85), 3) := by decide +kernel
theorem dX6_towerRest_106 : decode cX6_towerRest 106 = .ok (.iload 5, 2) := by decide +kernel
theorem dX6_towerRest_108 : decode cX6_towerRest 108 = .ok (.ireturn, 1) := by decide +kernel
set_option maxRecDepth 20000 in
theorem ggX6_findSizes_X0_split : GoodIn wsX6_findSizes wsX0_split := goodIn_r _ [7, 8, 9, 10, 11, 6, 12, 13, 14, 37, 38, 39] (by decide +kernel) (by decide +kernel)
set_option maxRecDepth 20000 in
theorem gX6_findSizes_X0_split : GoodIn wsX6_findSizes (wsV RX6 58 RX0 yX0_split wsX0_split) := goodIn_app (goodIn_of _ (by decide +kernel)) ggX6_findSizes_X0_split
set_option maxRecDepth 20000 in
theorem ggX6_findSizes_X0_unitCount : GoodIn wsX6_findSizes wsX0_unitCount := goodIn_r _ [18, 8, 19, 20, 21, 6, 22, 13, 23, 24, 25, 26, 14, 37, 38, 39] (by decide +kernel) (by decide +kernel)
set_option maxRecDepth 20000 in
theorem gX6_findSizes_X0_unitCount : GoodIn wsX6_findSizes (wsV RX6 62 RX0 yX0_unitCount wsX0_unitCount) := goodIn_app (goodIn_of _ (by decide +kernel)) ggX6_findSizes_X0_unitCount
theorem dX6_findSizes_0 : decode cX6_findSizes 0 = .ok (.iload_n 2, 1) := by decide +kernel
theorem dX6_findSizes_1 : decode cX6_findSizes 1 = .ok (.istore_n 3, 1) := by decide +kernel
theorem dX6_findSizes_2 : decode cX6_findSizes 2 = .ok (.iconst 0, 1) := by decide +kernel
theorem dX6_findSizes_3 : decode cX6_findSizes 3 = .ok (.istore 4, 2) := by decide +kernel
theorem dX6_findSizes_5 : decode cX6_findSizes 5 = .ok (.iload 4, 2) := by decide +kernel
theorem dX6_findSizes_7 : decode cX6_findSizes 7 = .ok (.iload_n 1, 1) := by decide +kernel
theorem dX6_findSizes_8 : decode cX6_findSizes 8 = .ok (.if_icmp .ge 43, 3) := by decide +kernel
theorem dX6_findSizes_11 : decode cX6_findSizes 11 = .ok (.iload 4, 2) := by decide +kernel
theorem dX6_findSizes_13 : decode cX6_findSizes 13 = .ok (.aload_n 0, 1) := by decide +kernel
theorem dX6_findSizes_14 : decode cX6_findSizes 14 = .ok (.getfield 47, 3) := by decide +kernel
theorem dX6_findSizes_17 : decode cX6_findSizes 17 = .ok (.arraylength, 1) := by decide +kernel
theorem dX6_findSizes_18 : decode cX6_findSizes 18 = .ok (.if_icmp .ge 33, 3) := by decide +kernel
theorem dX6_findSizes_21 : decode cX6_findSizes 21 = .ok (.aload_n 0, 1) := by decide +kernel
theorem dX6_findSizes_22 : decode cX6_findSizes 22 = .ok (.getfield 47, 3) := by decide +kernel
theorem dX6_findSizes_25 : decode cX6_findSizes 25 = .ok (.iload 4, 2) := by decide +kernel
theorem dX6_findSizes_27 : decode cX6_findSizes 27 = .ok (.iload_n 3, 1) := by decide +kernel
theorem dX6_findSizes_28 : decode cX6_findSizes 28 = .ok (.iastore, 1) := by decide +kernel
theorem dX6_findSizes_29 : decode cX6_findSizes 29 = .ok (.aload_n 0, 1) := by decide +kernel
theorem dX6_findSizes_30 : decode cX6_findSizes 30 = .ok (.getfield 10, 3) := by decide +kernel
theorem dX6_findSizes_33 : decode cX6_findSizes 33 = .ok (.iload_n 3, 1) := by decide +kernel
theorem dX6_findSizes_34 : decode cX6_findSizes 34 = .ok (.invokevirtual 58, 3) := by decide +kernel
theorem dX6_findSizes_37 : decode cX6_findSizes 37 = .ok (.aload_n 0, 1) := by decide +kernel
theorem dX6_findSizes_38 : decode cX6_findSizes 38 = .ok (.getfield 10, 3) := by decide +kernel
theorem dX6_findSizes_41 : decode cX6_findSizes 41 = .ok (.invokevirtual 62, 3) := by decide +kernel
theorem dX6_findSizes_44 : decode cX6_findSizes 44 = .ok (.istore_n 3, 1) := by decide +kernel
theorem dX6_findSizes_45 : decode cX6_findSizes 45 = .ok (.iinc 4 1, 3) := by decide +kernel
theorem dX6_findSizes_48 : decode cX6_findSizes 48 = .ok (.goto (-43), 3) := by decide +kernel
theorem dX6_findSizes_51 : decode cX6_findSizes 51 = .ok (.return_, 1) := by decide +kernel
theorem dX6_powerBelowHigh_0 : decode cX6_powerBelowHigh 0 = .ok (.iload_n 0, 1) := by decide +kernel
theorem dX6_powerBelowHigh_1 : decode cX6_powerBelowHigh 1 = .ok (.iconst 2, 1) := by decide +kernel
theorem dX6_powerBelowHigh_2 : decode cX6_powerBelowHigh 2 = .ok (.if_icmp .ge 5, 3) := by decide +kernel
theorem dX6_powerBelowHigh_5 : decode cX6_powerBelowHigh 5 = .ok (.lconst 1, 1) := by decide +kernel
theorem dX6_powerBelowHigh_6 : decode cX6_powerBelowHigh 6 = .ok (.lreturn, 1) := by decide +kernel
theorem dX6_powerBelowHigh_7 : decode cX6_powerBelowHigh 7 = .ok (.lconst 1, 1) := by decide +kernel
theorem dX6_powerBelowHigh_8 : decode cX6_powerBelowHigh 8 = .ok (.lstore_n 3, 1) := by decide +kernel
theorem dX6_powerBelowHigh_9 : decode cX6_powerBelowHigh 9 = .ok (.lconst 0, 1) := by decide +kernel
theorem dX6_powerBelowHigh_10 : decode cX6_powerBelowHigh 10 = .ok (.lstore 5, 2) := by decide +kernel
theorem dX6_powerBelowHigh_12 : decode cX6_powerBelowHigh 12 = .ok (.lload 5, 2) := by decide +kernel
theorem dX6_powerBelowHigh_14 : decode cX6_powerBelowHigh 14 = .ok (.lload_n 1, 1) := by decide +kernel
theorem dX6_powerBelowHigh_15 : decode cX6_powerBelowHigh 15 = .ok (.lcmp, 1) := by decide +kernel
theorem dX6_powerBelowHigh_16 : decode cX6_powerBelowHigh 16 = .ok (.ifCond .ge 25, 3) := by decide +kernel
theorem dX6_powerBelowHigh_19 : decode cX6_powerBelowHigh 19 = .ok (.lload_n 3, 1) := by decide +kernel
theorem dX6_powerBelowHigh_20 : decode cX6_powerBelowHigh 20 = .ok (.ldc2_w 311, 3) := by decide +kernel
theorem dX6_powerBelowHigh_23 : decode cX6_powerBelowHigh 23 = .ok (.lcmp, 1) := by decide +kernel
theorem dX6_powerBelowHigh_24 : decode cX6_powerBelowHigh 24 = .ok (.ifCond .ge 17, 3) := by decide +kernel
theorem dX6_powerBelowHigh_27 : decode cX6_powerBelowHigh 27 = .ok (.lload_n 3, 1) := by decide +kernel
theorem dX6_powerBelowHigh_28 : decode cX6_powerBelowHigh 28 = .ok (.iload_n 0, 1) := by decide +kernel
theorem dX6_powerBelowHigh_29 : decode cX6_powerBelowHigh 29 = .ok (.i2l, 1) := by decide +kernel
theorem dX6_powerBelowHigh_30 : decode cX6_powerBelowHigh 30 = .ok (.lmul, 1) := by decide +kernel
theorem dX6_powerBelowHigh_31 : decode cX6_powerBelowHigh 31 = .ok (.lstore_n 3, 1) := by decide +kernel
theorem dX6_powerBelowHigh_32 : decode cX6_powerBelowHigh 32 = .ok (.lload 5, 2) := by decide +kernel
theorem dX6_powerBelowHigh_34 : decode cX6_powerBelowHigh 34 = .ok (.lconst 1, 1) := by decide +kernel
theorem dX6_powerBelowHigh_35 : decode cX6_powerBelowHigh 35 = .ok (.ladd, 1) := by decide +kernel
theorem dX6_powerBelowHigh_36 : decode cX6_powerBelowHigh 36 = .ok (.lstore 5, 2) := by decide +kernel
theorem dX6_powerBelowHigh_38 : decode cX6_powerBelowHigh 38 = .ok (.goto (-26), 3) := by decide +kernel
theorem dX6_powerBelowHigh_41 : decode cX6_powerBelowHigh 41 = .ok (.lload_n 3, 1) := by decide +kernel
theorem dX6_powerBelowHigh_42 : decode cX6_powerBelowHigh 42 = .ok (.ldc2_w 311, 3) := by decide +kernel
theorem dX6_powerBelowHigh_45 : decode cX6_powerBelowHigh 45 = .ok (.invokestatic 317, 3) := by decide +kernel
theorem dX6_powerBelowHigh_48 : decode cX6_powerBelowHigh 48 = .ok (.lreturn, 1) := by decide +kernel
set_option maxRecDepth 20000 in
theorem ggX6_markStaying_X4_raise : GoodIn wsX6_markStaying wsX4_raise := goodIn_r _ [5] (by decide +kernel) (by decide +kernel)
set_option maxRecDepth 20000 in
theorem gX6_markStaying_X4_raise : GoodIn wsX6_markStaying (va_wsS RX6 94 yX4_raise wsX4_raise) := goodIn_app (goodIn_of _ (by decide +kernel)) ggX6_markStaying_X4_raise
set_option maxRecDepth 20000 in
theorem ggX6_markStaying_X3_put : GoodIn wsX6_markStaying wsX3_put := goodIn_r _ [10, 11, 12, 23, 24] (by decide +kernel) (by decide +kernel)
set_option maxRecDepth 20000 in
theorem gX6_markStaying_X3_put : GoodIn wsX6_markStaying (wsV RX6 276 RX3 yX3_put wsX3_put) := goodIn_app (goodIn_of _ (by decide +kernel)) ggX6_markStaying_X3_put
theorem dX6_markStaying_0 : decode cX6_markStaying 0 = .ok (.iconst 0, 1) := by decide +kernel
theorem dX6_markStaying_1 : decode cX6_markStaying 1 = .ok (.istore 4, 2) := by decide +kernel
theorem dX6_markStaying_3 : decode cX6_markStaying 3 = .ok (.iconst 0, 1) := by decide +kernel
theorem dX6_markStaying_4 : decode cX6_markStaying 4 = .ok (.istore 5, 2) := by decide +kernel
theorem dX6_markStaying_6 : decode cX6_markStaying 6 = .ok (.iload 5, 2) := by decide +kernel
theorem dX6_markStaying_8 : decode cX6_markStaying 8 = .ok (.iload_n 1, 1) := by decide +kernel
theorem dX6_markStaying_9 : decode cX6_markStaying 9 = .ok (.if_icmp .ge 37, 3) := by decide +kernel
theorem dX6_markStaying_12 : decode cX6_markStaying 12 = .ok (.iload 5, 2) := by decide +kernel
theorem dX6_markStaying_14 : decode cX6_markStaying 14 = .ok (.i2l, 1) := by decide +kernel
theorem dX6_markStaying_15 : decode cX6_markStaying 15 = .ok (.iload_n 2, 1) := by decide +kernel
theorem dX6_markStaying_16 : decode cX6_markStaying 16 = .ok (.i2l, 1) := by decide +kernel
theorem dX6_markStaying_17 : decode cX6_markStaying 17 = .ok (.iload_n 1, 1) := by decide +kernel
theorem dX6_markStaying_18 : decode cX6_markStaying 18 = .ok (.invokestatic 94, 3) := by decide +kernel
theorem dX6_markStaying_21 : decode cX6_markStaying 21 = .ok (.iload 5, 2) := by decide +kernel
theorem dX6_markStaying_23 : decode cX6_markStaying 23 = .ok (.if_icmp .ne 17, 3) := by decide +kernel
theorem dX6_markStaying_26 : decode cX6_markStaying 26 = .ok (.aload_n 0, 1) := by decide +kernel
theorem dX6_markStaying_27 : decode cX6_markStaying 27 = .ok (.getfield 22, 3) := by decide +kernel
theorem dX6_markStaying_30 : decode cX6_markStaying 30 = .ok (.iload_n 3, 1) := by decide +kernel
theorem dX6_markStaying_31 : decode cX6_markStaying 31 = .ok (.iload 5, 2) := by decide +kernel
theorem dX6_markStaying_33 : decode cX6_markStaying 33 = .ok (.iadd, 1) := by decide +kernel
theorem dX6_markStaying_34 : decode cX6_markStaying 34 = .ok (.invokevirtual 276, 3) := by decide +kernel
theorem dX6_markStaying_37 : decode cX6_markStaying 37 = .ok (.iinc 4 1, 3) := by decide +kernel
theorem dX6_markStaying_40 : decode cX6_markStaying 40 = .ok (.iinc 5 1, 3) := by decide +kernel
theorem dX6_markStaying_43 : decode cX6_markStaying 43 = .ok (.goto (-37), 3) := by decide +kernel
theorem dX6_markStaying_46 : decode cX6_markStaying 46 = .ok (.iload 4, 2) := by decide +kernel
theorem dX6_markStaying_48 : decode cX6_markStaying 48 = .ok (.ireturn, 1) := by decide +kernel
set_option maxRecDepth 20000 in
theorem ggX6_stayingLetter_X3_has : GoodIn wsX6_stayingLetter wsX3_has := goodIn_r _ [6, 7, 8, 19, 20] (by decide +kernel) (by decide +kernel)
set_option maxRecDepth 20000 in
theorem gX6_stayingLetter_X3_has : GoodIn wsX6_stayingLetter (wsV RX6 284 RX3 yX3_has wsX3_has) := goodIn_app (goodIn_of _ (by decide +kernel)) ggX6_stayingLetter_X3_has
theorem dX6_stayingLetter_0 : decode cX6_stayingLetter 0 = .ok (.iconst 0, 1) := by decide +kernel
theorem dX6_stayingLetter_1 : decode cX6_stayingLetter 1 = .ok (.istore 4, 2) := by decide +kernel
theorem dX6_stayingLetter_3 : decode cX6_stayingLetter 3 = .ok (.iconst 0, 1) := by decide +kernel
theorem dX6_stayingLetter_4 : decode cX6_stayingLetter 4 = .ok (.istore 5, 2) := by decide +kernel
theorem dX6_stayingLetter_6 : decode cX6_stayingLetter 6 = .ok (.iload 5, 2) := by decide +kernel
theorem dX6_stayingLetter_8 : decode cX6_stayingLetter 8 = .ok (.iload_n 1, 1) := by decide +kernel
theorem dX6_stayingLetter_9 : decode cX6_stayingLetter 9 = .ok (.iload_n 2, 1) := by decide +kernel
theorem dX6_stayingLetter_10 : decode cX6_stayingLetter 10 = .ok (.imul, 1) := by decide +kernel
theorem dX6_stayingLetter_11 : decode cX6_stayingLetter 11 = .ok (.if_icmp .ge 51, 3) := by decide +kernel
theorem dX6_stayingLetter_14 : decode cX6_stayingLetter 14 = .ok (.aload_n 0, 1) := by decide +kernel
theorem dX6_stayingLetter_15 : decode cX6_stayingLetter 15 = .ok (.getfield 22, 3) := by decide +kernel
theorem dX6_stayingLetter_18 : decode cX6_stayingLetter 18 = .ok (.iload 5, 2) := by decide +kernel
theorem dX6_stayingLetter_20 : decode cX6_stayingLetter 20 = .ok (.iload_n 1, 1) := by decide +kernel
theorem dX6_stayingLetter_21 : decode cX6_stayingLetter 21 = .ok (.irem, 1) := by decide +kernel
theorem dX6_stayingLetter_22 : decode cX6_stayingLetter 22 = .ok (.invokevirtual 284, 3) := by decide +kernel
theorem dX6_stayingLetter_25 : decode cX6_stayingLetter 25 = .ok (.ifCond .eq 31, 3) := by decide +kernel
theorem dX6_stayingLetter_28 : decode cX6_stayingLetter 28 = .ok (.aload_n 0, 1) := by decide +kernel
theorem dX6_stayingLetter_29 : decode cX6_stayingLetter 29 = .ok (.getfield 22, 3) := by decide +kernel
theorem dX6_stayingLetter_32 : decode cX6_stayingLetter 32 = .ok (.iload_n 1, 1) := by decide +kernel
theorem dX6_stayingLetter_33 : decode cX6_stayingLetter 33 = .ok (.iload 5, 2) := by decide +kernel
theorem dX6_stayingLetter_35 : decode cX6_stayingLetter 35 = .ok (.iload_n 2, 1) := by decide +kernel
theorem dX6_stayingLetter_36 : decode cX6_stayingLetter 36 = .ok (.irem, 1) := by decide +kernel
theorem dX6_stayingLetter_37 : decode cX6_stayingLetter 37 = .ok (.iadd, 1) := by decide +kernel
theorem dX6_stayingLetter_38 : decode cX6_stayingLetter 38 = .ok (.invokevirtual 284, 3) := by decide +kernel
theorem dX6_stayingLetter_41 : decode cX6_stayingLetter 41 = .ok (.ifCond .eq 15, 3) := by decide +kernel
theorem dX6_stayingLetter_44 : decode cX6_stayingLetter 44 = .ok (.iload 4, 2) := by decide +kernel
theorem dX6_stayingLetter_46 : decode cX6_stayingLetter 46 = .ok (.iload_n 3, 1) := by decide +kernel
theorem dX6_stayingLetter_47 : decode cX6_stayingLetter 47 = .ok (.if_icmp .ne 6, 3) := by decide +kernel
theorem dX6_stayingLetter_50 : decode cX6_stayingLetter 50 = .ok (.iload 5, 2) := by decide +kernel
theorem dX6_stayingLetter_52 : decode cX6_stayingLetter 52 = .ok (.ireturn, 1) := by decide +kernel
theorem dX6_stayingLetter_53 : decode cX6_stayingLetter 53 = .ok (.iinc 4 1, 3) := by decide +kernel
theorem dX6_stayingLetter_56 : decode cX6_stayingLetter 56 = .ok (.iinc 5 1, 3) := by decide +kernel
theorem dX6_stayingLetter_59 : decode cX6_stayingLetter 59 = .ok (.goto (-53), 3) := by decide +kernel
theorem dX6_stayingLetter_62 : decode cX6_stayingLetter 62 = .ok (.bipush (-4), 2) := by decide +kernel
theorem dX6_stayingLetter_64 : decode cX6_stayingLetter 64 = .ok (.ireturn, 1) := by decide +kernel
set_option maxRecDepth 20000 in
theorem ggX6_turnBy_X6_leastExponent : GoodIn wsX6_turnBy wsX6_leastExponent := goodIn_r _ [5, 6, 7, 8, 9, 10, 11, 12, 13, 14, 15, 16, 17, 18, 19, 20, 21, 22, 23, 24, 25, 26, 27, 28, 29, 30, 31, 32, 33, 34, 35, 36, 37, 38, 39, 40, 41, 42, 43, 44, 45, 46, 47, 48, 49, 50, 51, 52, 53, 54, 55, 56, 57, 58] (by decide +kernel) (by decide +kernel)
set_option maxRecDepth 20000 in
theorem gX6_turnBy_X6_leastExponent : GoodIn wsX6_turnBy (wsV RX6 73 RX6 yX6_leastExponent wsX6_leastExponent) := goodIn_app (goodIn_of _ (by decide +kernel)) ggX6_turnBy_X6_leastExponent
theorem dX6_turnBy_0 : decode cX6_turnBy 0 = .ok (.iload_n 2, 1) := by decide +kernel
theorem dX6_turnBy_1 : decode cX6_turnBy 1 = .ok (.iconst (-1), 1) := by decide +kernel
theorem dX6_turnBy_2 : decode cX6_turnBy 2 = .ok (.if_icmp .ne 7, 3) := by decide +kernel
theorem dX6_turnBy_5 : decode cX6_turnBy 5 = .ok (.iload_n 1, 1) := by decide +kernel
theorem dX6_turnBy_6 : decode cX6_turnBy 6 = .ok (.iconst 1, 1) := by decide +kernel
theorem dX6_turnBy_7 : decode cX6_turnBy 7 = .ok (.isub, 1) := by decide +kernel
theorem dX6_turnBy_8 : decode cX6_turnBy 8 = .ok (.ireturn, 1) := by decide +kernel
theorem dX6_turnBy_9 : decode cX6_turnBy 9 = .ok (.iload_n 2, 1) := by decide +kernel
theorem dX6_turnBy_10 : decode cX6_turnBy 10 = .ok (.iload_n 1, 1) := by decide +kernel
theorem dX6_turnBy_11 : decode cX6_turnBy 11 = .ok (.irem, 1) := by decide +kernel
theorem dX6_turnBy_12 : decode cX6_turnBy 12 = .ok (.ifCond .ne 7, 3) := by decide +kernel
theorem dX6_turnBy_15 : decode cX6_turnBy 15 = .ok (.iconst 1, 1) := by decide +kernel
theorem dX6_turnBy_16 : decode cX6_turnBy 16 = .ok (.goto 11, 3) := by decide +kernel
theorem dX6_turnBy_19 : decode cX6_turnBy 19 = .ok (.aload_n 0, 1) := by decide +kernel
theorem dX6_turnBy_20 : decode cX6_turnBy 20 = .ok (.iload_n 2, 1) := by decide +kernel
theorem dX6_turnBy_21 : decode cX6_turnBy 21 = .ok (.iload_n 1, 1) := by decide +kernel
theorem dX6_turnBy_22 : decode cX6_turnBy 22 = .ok (.irem, 1) := by decide +kernel
theorem dX6_turnBy_23 : decode cX6_turnBy 23 = .ok (.iload_n 1, 1) := by decide +kernel
theorem dX6_turnBy_24 : decode cX6_turnBy 24 = .ok (.invokevirtual 73, 3) := by decide +kernel
theorem dX6_turnBy_27 : decode cX6_turnBy 27 = .ok (.ireturn, 1) := by decide +kernel
theorem dX7_init_0 : decode cX7_init 0 = .ok (.aload_n 0, 1) := by decide +kernel
theorem dX7_init_1 : decode cX7_init 1 = .ok (.invokespecial 1, 3) := by decide +kernel
theorem dX7_init_4 : decode cX7_init 4 = .ok (.aload_n 0, 1) := by decide +kernel
theorem dX7_init_5 : decode cX7_init 5 = .ok (.sipush 200, 3) := by decide +kernel
theorem dX7_init_8 : decode cX7_init 8 = .ok (.newarray .byte, 2) := by decide +kernel
theorem dX7_init_10 : decode cX7_init 10 = .ok (.putfield 7, 3) := by decide +kernel
theorem dX7_init_13 : decode cX7_init 13 = .ok (.aload_n 0, 1) := by decide +kernel
theorem dX7_init_14 : decode cX7_init 14 = .ok (.iconst 1, 1) := by decide +kernel
theorem dX7_init_15 : decode cX7_init 15 = .ok (.putfield 13, 3) := by decide +kernel
theorem dX7_init_18 : decode cX7_init 18 = .ok (.aload_n 0, 1) := by decide +kernel
theorem dX7_init_19 : decode cX7_init 19 = .ok (.bipush 8, 2) := by decide +kernel
theorem dX7_init_21 : decode cX7_init 21 = .ok (.newarray .int, 2) := by decide +kernel
theorem dX7_init_23 : decode cX7_init 23 = .ok (.putfield 17, 3) := by decide +kernel
theorem dX7_init_26 : decode cX7_init 26 = .ok (.aload_n 0, 1) := by decide +kernel
theorem dX7_init_27 : decode cX7_init 27 = .ok (.bipush 8, 2) := by decide +kernel
theorem dX7_init_29 : decode cX7_init 29 = .ok (.newarray .int, 2) := by decide +kernel
theorem dX7_init_31 : decode cX7_init 31 = .ok (.putfield 21, 3) := by decide +kernel
theorem dX7_init_34 : decode cX7_init 34 = .ok (.aload_n 0, 1) := by decide +kernel
theorem dX7_init_35 : decode cX7_init 35 = .ok (.bipush 8, 2) := by decide +kernel
theorem dX7_init_37 : decode cX7_init 37 = .ok (.newarray .int, 2) := by decide +kernel
theorem dX7_init_39 : decode cX7_init 39 = .ok (.putfield 24, 3) := by decide +kernel
theorem dX7_init_42 : decode cX7_init 42 = .ok (.aload_n 0, 1) := by decide +kernel
theorem dX7_init_43 : decode cX7_init 43 = .ok (.bipush 8, 2) := by decide +kernel
theorem dX7_init_45 : decode cX7_init 45 = .ok (.newarray .int, 2) := by decide +kernel
theorem dX7_init_47 : decode cX7_init 47 = .ok (.putfield 27, 3) := by decide +kernel
theorem dX7_init_50 : decode cX7_init 50 = .ok (.aload_n 0, 1) := by decide +kernel
theorem dX7_init_51 : decode cX7_init 51 = .ok (.bipush 8, 2) := by decide +kernel
theorem dX7_init_53 : decode cX7_init 53 = .ok (.newarray .int, 2) := by decide +kernel
theorem dX7_init_55 : decode cX7_init 55 = .ok (.putfield 30, 3) := by decide +kernel
theorem dX7_init_58 : decode cX7_init 58 = .ok (.aload_n 0, 1) := by decide +kernel
theorem dX7_init_59 : decode cX7_init 59 = .ok (.bipush 8, 2) := by decide +kernel
theorem dX7_init_61 : decode cX7_init 61 = .ok (.newarray .int, 2) := by decide +kernel
theorem dX7_init_63 : decode cX7_init 63 = .ok (.putfield 33, 3) := by decide +kernel
theorem dX7_init_66 : decode cX7_init 66 = .ok (.aload_n 0, 1) := by decide +kernel
theorem dX7_init_67 : decode cX7_init 67 = .ok (.bipush 8, 2) := by decide +kernel
theorem dX7_init_69 : decode cX7_init 69 = .ok (.newarray .int, 2) := by decide +kernel
theorem dX7_init_71 : decode cX7_init 71 = .ok (.putfield 36, 3) := by decide +kernel
theorem dX7_init_74 : decode cX7_init 74 = .ok (.aload_n 0, 1) := by decide +kernel
theorem dX7_init_75 : decode cX7_init 75 = .ok (.bipush 8, 2) := by decide +kernel
theorem dX7_init_77 : decode cX7_init 77 = .ok (.newarray .int, 2) := by decide +kernel
theorem dX7_init_79 : decode cX7_init 79 = .ok (.putfield 39, 3) := by decide +kernel
theorem dX7_init_82 : decode cX7_init 82 = .ok (.aload_n 0, 1) := by decide +kernel
theorem dX7_init_83 : decode cX7_init 83 = .ok (.ldc 42, 2) := by decide +kernel
theorem dX7_init_85 : decode cX7_init 85 = .ok (.newarray .int, 2) := by decide +kernel
theorem dX7_init_87 : decode cX7_init 87 = .ok (.putfield 43, 3) := by decide +kernel
theorem dX7_init_90 : decode cX7_init 90 = .ok (.aload_n 0, 1) := by decide +kernel
theorem dX7_init_91 : decode cX7_init 91 = .ok (.ldc 42, 2) := by decide +kernel
theorem dX7_init_93 : decode cX7_init 93 = .ok (.newarray .boolean, 2) := by decide +kernel
theorem dX7_init_95 : decode cX7_init 95 = .ok (.putfield 46, 3) := by decide +kernel
theorem dX7_init_98 : decode cX7_init 98 = .ok (.aload_n 0, 1) := by decide +kernel
theorem dX7_init_99 : decode cX7_init 99 = .ok (.sipush 256, 3) := by decide +kernel
theorem dX7_init_102 : decode cX7_init 102 = .ok (.newarray .boolean, 2) := by decide +kernel
theorem dX7_init_104 : decode cX7_init 104 = .ok (.putfield 50, 3) := by decide +kernel
theorem dX7_init_107 : decode cX7_init 107 = .ok (.aload_n 0, 1) := by decide +kernel
theorem dX7_init_108 : decode cX7_init 108 = .ok (.bipush 6, 2) := by decide +kernel
theorem dX7_init_110 : decode cX7_init 110 = .ok (.newarray .int, 2) := by decide +kernel
theorem dX7_init_112 : decode cX7_init 112 = .ok (.putfield 53, 3) := by decide +kernel
theorem dX7_init_115 : decode cX7_init 115 = .ok (.return_, 1) := by decide +kernel
theorem dX7_in_0 : decode cX7_in 0 = .ok (.lload_n 0, 1) := by decide +kernel
theorem dX7_in_1 : decode cX7_in 1 = .ok (.lload_n 2, 1) := by decide +kernel
theorem dX7_in_2 : decode cX7_in 2 = .ok (.lcmp, 1) := by decide +kernel
theorem dX7_in_3 : decode cX7_in 3 = .ok (.ifCond .lt 14, 3) := by decide +kernel
theorem dX7_in_6 : decode cX7_in 6 = .ok (.lload_n 0, 1) := by decide +kernel
theorem dX7_in_7 : decode cX7_in 7 = .ok (.lload 4, 2) := by decide +kernel
theorem dX7_in_9 : decode cX7_in 9 = .ok (.lcmp, 1) := by decide +kernel
theorem dX7_in_10 : decode cX7_in 10 = .ok (.ifCond .gt 7, 3) := by decide +kernel
theorem dX7_in_13 : decode cX7_in 13 = .ok (.iconst 1, 1) := by decide +kernel
theorem dX7_in_14 : decode cX7_in 14 = .ok (.goto 4, 3) := by decide +kernel
theorem dX7_in_17 : decode cX7_in 17 = .ok (.iconst 0, 1) := by decide +kernel
theorem dX7_in_18 : decode cX7_in 18 = .ok (.ireturn, 1) := by decide +kernel
set_option maxRecDepth 20000 in
theorem ggX7_isBy_X7_in : GoodIn wsX7_isBy wsX7_in := goodIn_r _ [6] (by decide +kernel) (by decide +kernel)
set_option maxRecDepth 20000 in
theorem gX7_isBy_X7_in : GoodIn wsX7_isBy (va_wsS RX7 60 yX7_in wsX7_in) := goodIn_app (goodIn_of _ (by decide +kernel)) ggX7_isBy_X7_in
theorem dX7_isBy_0 : decode cX7_isBy 0 = .ok (.iload_n 0, 1) := by decide +kernel
theorem dX7_isBy_1 : decode cX7_isBy 1 = .ok (.i2l, 1) := by decide +kernel
theorem dX7_isBy_2 : decode cX7_isBy 2 = .ok (.ldc2_w 56, 3) := by decide +kernel
theorem dX7_isBy_5 : decode cX7_isBy 5 = .ok (.ldc2_w 58, 3) := by decide +kernel
theorem dX7_isBy_8 : decode cX7_isBy 8 = .ok (.invokestatic 60, 3) := by decide +kernel
theorem dX7_isBy_11 : decode cX7_isBy 11 = .ok (.ireturn, 1) := by decide +kernel
set_option maxRecDepth 20000 in
theorem ggX7_isRest_X7_in : GoodIn wsX7_isRest wsX7_in := goodIn_r _ [4] (by decide +kernel) (by decide +kernel)
set_option maxRecDepth 20000 in
theorem gX7_isRest_X7_in : GoodIn wsX7_isRest (va_wsS RX7 60 yX7_in wsX7_in) := goodIn_app (goodIn_of _ (by decide +kernel)) ggX7_isRest_X7_in
theorem dX7_isRest_0 : decode cX7_isRest 0 = .ok (.iload_n 1, 1) := by decide +kernel
theorem dX7_isRest_1 : decode cX7_isRest 1 = .ok (.i2l, 1) := by decide +kernel
theorem dX7_isRest_2 : decode cX7_isRest 2 = .ok (.lconst 0, 1) := by decide +kernel
theorem dX7_isRest_3 : decode cX7_isRest 3 = .ok (.iload_n 0, 1) := by decide +kernel
theorem dX7_isRest_4 : decode cX7_isRest 4 = .ok (.iconst 1, 1) := by decide +kernel
theorem dX7_isRest_5 : decode cX7_isRest 5 = .ok (.isub, 1) := by decide +kernel
theorem dX7_isRest_6 : decode cX7_isRest 6 = .ok (.i2l, 1) := by decide +kernel
theorem dX7_isRest_7 : decode cX7_isRest 7 = .ok (.invokestatic 60, 3) := by decide +kernel
theorem dX7_isRest_10 : decode cX7_isRest 10 = .ok (.ireturn, 1) := by decide +kernel
theorem dX7_common_0 : decode cX7_common 0 = .ok (.iload_n 0, 1) := by decide +kernel
theorem dX7_common_1 : decode cX7_common 1 = .ok (.istore_n 2, 1) := by decide +kernel
theorem dX7_common_2 : decode cX7_common 2 = .ok (.iload_n 1, 1) := by decide +kernel
theorem dX7_common_3 : decode cX7_common 3 = .ok (.istore_n 3, 1) := by decide +kernel
theorem dX7_common_4 : decode cX7_common 4 = .ok (.iload_n 3, 1) := by decide +kernel
theorem dX7_common_5 : decode cX7_common 5 = .ok (.ifCond .eq 16, 3) := by decide +kernel
theorem dX7_common_8 : decode cX7_common 8 = .ok (.iload_n 2, 1) := by decide +kernel
theorem dX7_common_9 : decode cX7_common 9 = .ok (.iload_n 3, 1) := by decide +kernel
theorem dX7_common_10 : decode cX7_common 10 = .ok (.irem, 1) := by decide +kernel
theorem dX7_common_11 : decode cX7_common 11 = .ok (.istore 4, 2) := by decide +kernel
theorem dX7_common_13 : decode cX7_common 13 = .ok (.iload_n 3, 1) := by decide +kernel
theorem dX7_common_14 : decode cX7_common 14 = .ok (.istore_n 2, 1) := by decide +kernel
theorem dX7_common_15 : decode cX7_common 15 = .ok (.iload 4, 2) := by decide +kernel
theorem dX7_common_17 : decode cX7_common 17 = .ok (.istore_n 3, 1) := by decide +kernel
theorem dX7_common_18 : decode cX7_common 18 = .ok (.goto (-14), 3) := by decide +kernel
theorem dX7_common_21 : decode cX7_common 21 = .ok (.iload_n 2, 1) := by decide +kernel
theorem dX7_common_22 : decode cX7_common 22 = .ok (.ireturn, 1) := by decide +kernel
set_option maxRecDepth 20000 in
theorem ggX7_isUnit_X7_common : GoodIn wsX7_isUnit wsX7_common := goodIn_r _ [4] (by decide +kernel) (by decide +kernel)
set_option maxRecDepth 20000 in
theorem gX7_isUnit_X7_common : GoodIn wsX7_isUnit (va_wsS RX7 64 yX7_common wsX7_common) := goodIn_app (goodIn_of _ (by decide +kernel)) ggX7_isUnit_X7_common
theorem dX7_isUnit_0 : decode cX7_isUnit 0 = .ok (.iload_n 0, 1) := by decide +kernel
theorem dX7_isUnit_1 : decode cX7_isUnit 1 = .ok (.iload_n 1, 1) := by decide +kernel
theorem dX7_isUnit_2 : decode cX7_isUnit 2 = .ok (.invokestatic 64, 3) := by decide +kernel
theorem dX7_isUnit_5 : decode cX7_isUnit 5 = .ok (.iconst 1, 1) := by decide +kernel
theorem dX7_isUnit_6 : decode cX7_isUnit 6 = .ok (.if_icmp .ne 7, 3) := by decide +kernel
theorem dX7_isUnit_9 : decode cX7_isUnit 9 = .ok (.iconst 1, 1) := by decide +kernel
theorem dX7_isUnit_10 : decode cX7_isUnit 10 = .ok (.goto 4, 3) := by decide +kernel
theorem dX7_isUnit_13 : decode cX7_isUnit 13 = .ok (.iconst 0, 1) := by decide +kernel
theorem dX7_isUnit_14 : decode cX7_isUnit 14 = .ok (.ireturn, 1) := by decide +kernel
theorem dX7_powerOf_0 : decode cX7_powerOf 0 = .ok (.iconst 1, 1) := by decide +kernel
theorem dX7_powerOf_1 : decode cX7_powerOf 1 = .ok (.iload_n 0, 1) := by decide +kernel
theorem dX7_powerOf_2 : decode cX7_powerOf 2 = .ok (.irem, 1) := by decide +kernel
theorem dX7_powerOf_3 : decode cX7_powerOf 3 = .ok (.i2l, 1) := by decide +kernel
theorem dX7_powerOf_4 : decode cX7_powerOf 4 = .ok (.lstore 4, 2) := by decide +kernel
theorem dX7_powerOf_6 : decode cX7_powerOf 6 = .ok (.iload_n 1, 1) := by decide +kernel
theorem dX7_powerOf_7 : decode cX7_powerOf 7 = .ok (.iload_n 0, 1) := by decide +kernel
theorem dX7_powerOf_8 : decode cX7_powerOf 8 = .ok (.irem, 1) := by decide +kernel
theorem dX7_powerOf_9 : decode cX7_powerOf 9 = .ok (.i2l, 1) := by decide +kernel
theorem dX7_powerOf_10 : decode cX7_powerOf 10 = .ok (.lstore 6, 2) := by decide +kernel
theorem dX7_powerOf_12 : decode cX7_powerOf 12 = .ok (.lload_n 2, 1) := by decide +kernel
theorem dX7_powerOf_13 : decode cX7_powerOf 13 = .ok (.lstore 8, 2) := by decide +kernel
theorem dX7_powerOf_15 : decode cX7_powerOf 15 = .ok (.lload 8, 2) := by decide +kernel
theorem dX7_powerOf_17 : decode cX7_powerOf 17 = .ok (.lconst 0, 1) := by decide +kernel
theorem dX7_powerOf_18 : decode cX7_powerOf 18 = .ok (.lcmp, 1) := by decide +kernel
theorem dX7_powerOf_19 : decode cX7_powerOf 19 = .ok (.ifCond .le 50, 3) := by decide +kernel
theorem dX7_powerOf_22 : decode cX7_powerOf 22 = .ok (.lload 8, 2) := by decide +kernel
theorem dX7_powerOf_24 : decode cX7_powerOf 24 = .ok (.ldc2_w 56, 3) := by decide +kernel
theorem dX7_powerOf_27 : decode cX7_powerOf 27 = .ok (.lrem, 1) := by decide +kernel
theorem dX7_powerOf_28 : decode cX7_powerOf 28 = .ok (.lconst 1, 1) := by decide +kernel
theorem dX7_powerOf_29 : decode cX7_powerOf 29 = .ok (.lcmp, 1) := by decide +kernel
theorem dX7_powerOf_30 : decode cX7_powerOf 30 = .ok (.ifCond .ne 14, 3) := by decide +kernel
theorem dX7_powerOf_33 : decode cX7_powerOf 33 = .ok (.lload 4, 2) := by decide +kernel
theorem dX7_powerOf_35 : decode cX7_powerOf 35 = .ok (.lload 6, 2) := by decide +kernel
theorem dX7_powerOf_37 : decode cX7_powerOf 37 = .ok (.lmul, 1) := by decide +kernel
theorem dX7_powerOf_38 : decode cX7_powerOf 38 = .ok (.iload_n 0, 1) := by decide +kernel
theorem dX7_powerOf_39 : decode cX7_powerOf 39 = .ok (.i2l, 1) := by decide +kernel
theorem dX7_powerOf_40 : decode cX7_powerOf 40 = .ok (.lrem, 1) := by decide +kernel
theorem dX7_powerOf_41 : decode cX7_powerOf 41 = .ok (.goto 5, 3) := by decide +kernel
theorem dX7_powerOf_44 : decode cX7_powerOf 44 = .ok (.lload 4, 2) := by decide +kernel
theorem dX7_powerOf_46 : decode cX7_powerOf 46 = .ok (.lstore 4, 2) := by decide +kernel
theorem dX7_powerOf_48 : decode cX7_powerOf 48 = .ok (.lload 6, 2) := by decide +kernel
theorem dX7_powerOf_50 : decode cX7_powerOf 50 = .ok (.lload 6, 2) := by decide +kernel
theorem dX7_powerOf_52 : decode cX7_powerOf 52 = .ok (.lmul, 1) := by decide +kernel
theorem dX7_powerOf_53 : decode cX7_powerOf 53 = .ok (.iload_n 0, 1) := by decide +kernel
theorem dX7_powerOf_54 : decode cX7_powerOf 54 = .ok (.i2l, 1) := by decide +kernel
theorem dX7_powerOf_55 : decode cX7_powerOf 55 = .ok (.lrem, 1) := by decide +kernel
theorem dX7_powerOf_56 : decode cX7_powerOf 56 = .ok (.lstore 6, 2) := by decide +kernel
theorem dX7_powerOf_58 : decode cX7_powerOf 58 = .ok (.lload 8, 2) := by decide +kernel
theorem dX7_powerOf_60 : decode cX7_powerOf 60 = .ok (.ldc2_w 56, 3) := by decide +kernel
theorem dX7_powerOf_63 : decode cX7_powerOf 63 = .ok (.ldiv, 1) := by decide +kernel
theorem dX7_powerOf_64 : decode cX7_powerOf 64 = .ok (.lstore 8, 2) := by decide +kernel
theorem dX7_powerOf_66 : decode cX7_powerOf 66 = .ok (.goto (-51), 3) := by decide +kernel
theorem dX7_powerOf_69 : decode cX7_powerOf 69 = .ok (.lload 4, 2) := by decide +kernel
theorem dX7_powerOf_71 : decode cX7_powerOf 71 = .ok (.l2i, 1) := by decide +kernel
theorem dX7_powerOf_72 : decode cX7_powerOf 72 = .ok (.ireturn, 1) := by decide +kernel
set_option maxRecDepth 20000 in
theorem ggX7_units_X7_isBy : GoodIn wsX7_units wsX7_isBy := goodIn_r _ [4, 5, 6, 7, 8, 3, 9] (by decide +kernel) (by decide +kernel)
set_option maxRecDepth 20000 in
theorem gX7_units_X7_isBy : GoodIn wsX7_units (va_wsS RX7 68 yX7_isBy wsX7_isBy) := goodIn_app (goodIn_of _ (by decide +kernel)) ggX7_units_X7_isBy
set_option maxRecDepth 20000 in
theorem ggX7_units_X7_isUnit : GoodIn wsX7_units wsX7_isUnit := goodIn_r _ [12, 13, 14, 3, 15] (by decide +kernel) (by decide +kernel)
set_option maxRecDepth 20000 in
theorem gX7_units_X7_isUnit : GoodIn wsX7_units (va_wsS RX7 72 yX7_isUnit wsX7_isUnit) := goodIn_app (goodIn_of _ (by decide +kernel)) ggX7_units_X7_isUnit
theorem dX7_units_0 : decode cX7_units 0 = .ok (.iload_n 1, 1) := by decide +kernel
theorem dX7_units_1 : decode cX7_units 1 = .ok (.invokestatic 68, 3) := by decide +kernel
theorem dX7_units_4 : decode cX7_units 4 = .ok (.ifCond .eq 8, 3) := by decide +kernel
theorem dX7_units_7 : decode cX7_units 7 = .ok (.iload_n 2, 1) := by decide +kernel
theorem dX7_units_8 : decode cX7_units 8 = .ok (.iconst (-1), 1) := by decide +kernel
theorem dX7_units_9 : decode cX7_units 9 = .ok (.if_icmp .ge 5, 3) := by decide +kernel
theorem dX7_units_12 : decode cX7_units 12 = .ok (.iconst (-1), 1) := by decide +kernel
theorem dX7_units_13 : decode cX7_units 13 = .ok (.ireturn, 1) := by decide +kernel
theorem dX7_units_14 : decode cX7_units 14 = .ok (.iconst 0, 1) := by decide +kernel
theorem dX7_units_15 : decode cX7_units 15 = .ok (.istore_n 3, 1) := by decide +kernel
theorem dX7_units_16 : decode cX7_units 16 = .ok (.iconst 0, 1) := by decide +kernel
theorem dX7_units_17 : decode cX7_units 17 = .ok (.istore 4, 2) := by decide +kernel
theorem dX7_units_19 : decode cX7_units 19 = .ok (.iload 4, 2) := by decide +kernel
theorem dX7_units_21 : decode cX7_units 21 = .ok (.iload_n 1, 1) := by decide +kernel
theorem dX7_units_22 : decode cX7_units 22 = .ok (.if_icmp .ge 29, 3) := by decide +kernel
theorem dX7_units_25 : decode cX7_units 25 = .ok (.iload_n 1, 1) := by decide +kernel
theorem dX7_units_26 : decode cX7_units 26 = .ok (.iload 4, 2) := by decide +kernel
theorem dX7_units_28 : decode cX7_units 28 = .ok (.invokestatic 72, 3) := by decide +kernel
theorem dX7_units_31 : decode cX7_units 31 = .ok (.ifCond .eq 14, 3) := by decide +kernel
theorem dX7_units_34 : decode cX7_units 34 = .ok (.iload_n 3, 1) := by decide +kernel
theorem dX7_units_35 : decode cX7_units 35 = .ok (.iload_n 2, 1) := by decide +kernel
theorem dX7_units_36 : decode cX7_units 36 = .ok (.if_icmp .ne 6, 3) := by decide +kernel
theorem dX7_units_39 : decode cX7_units 39 = .ok (.iload 4, 2) := by decide +kernel
theorem dX7_units_41 : decode cX7_units 41 = .ok (.ireturn, 1) := by decide +kernel
theorem dX7_units_42 : decode cX7_units 42 = .ok (.iinc 3 1, 3) := by decide +kernel
theorem dX7_units_45 : decode cX7_units 45 = .ok (.iinc 4 1, 3) := by decide +kernel
theorem dX7_units_48 : decode cX7_units 48 = .ok (.goto (-29), 3) := by decide +kernel
theorem dX7_units_51 : decode cX7_units 51 = .ok (.iload_n 2, 1) := by decide +kernel
theorem dX7_units_52 : decode cX7_units 52 = .ok (.ifCond .ge 7, 3) := by decide +kernel
theorem dX7_units_55 : decode cX7_units 55 = .ok (.iload_n 3, 1) := by decide +kernel
theorem dX7_units_56 : decode cX7_units 56 = .ok (.goto 5, 3) := by decide +kernel
theorem dX7_units_59 : decode cX7_units 59 = .ok (.bipush (-4), 2) := by decide +kernel
theorem dX7_units_61 : decode cX7_units 61 = .ok (.ireturn, 1) := by decide +kernel
theorem dX7_orderOf_0 : decode cX7_orderOf 0 = .ok (.iload_n 1, 1) := by decide +kernel
theorem dX7_orderOf_1 : decode cX7_orderOf 1 = .ok (.i2l, 1) := by decide +kernel
theorem dX7_orderOf_2 : decode cX7_orderOf 2 = .ok (.lstore_n 2, 1) := by decide +kernel
theorem dX7_orderOf_3 : decode cX7_orderOf 3 = .ok (.iconst 1, 1) := by decide +kernel
theorem dX7_orderOf_4 : decode cX7_orderOf 4 = .ok (.istore 4, 2) := by decide +kernel
theorem dX7_orderOf_6 : decode cX7_orderOf 6 = .ok (.lload_n 2, 1) := by decide +kernel
theorem dX7_orderOf_7 : decode cX7_orderOf 7 = .ok (.lconst 1, 1) := by decide +kernel
theorem dX7_orderOf_8 : decode cX7_orderOf 8 = .ok (.lcmp, 1) := by decide +kernel
theorem dX7_orderOf_9 : decode cX7_orderOf 9 = .ok (.ifCond .eq 17, 3) := by decide +kernel
theorem dX7_orderOf_12 : decode cX7_orderOf 12 = .ok (.lload_n 2, 1) := by decide +kernel
theorem dX7_orderOf_13 : decode cX7_orderOf 13 = .ok (.iload_n 1, 1) := by decide +kernel
theorem dX7_orderOf_14 : decode cX7_orderOf 14 = .ok (.i2l, 1) := by decide +kernel
theorem dX7_orderOf_15 : decode cX7_orderOf 15 = .ok (.lmul, 1) := by decide +kernel
theorem dX7_orderOf_16 : decode cX7_orderOf 16 = .ok (.iload_n 0, 1) := by decide +kernel
theorem dX7_orderOf_17 : decode cX7_orderOf 17 = .ok (.i2l, 1) := by decide +kernel
theorem dX7_orderOf_18 : decode cX7_orderOf 18 = .ok (.lrem, 1) := by decide +kernel
theorem dX7_orderOf_19 : decode cX7_orderOf 19 = .ok (.lstore_n 2, 1) := by decide +kernel
theorem dX7_orderOf_20 : decode cX7_orderOf 20 = .ok (.iinc 4 1, 3) := by decide +kernel
theorem dX7_orderOf_23 : decode cX7_orderOf 23 = .ok (.goto (-17), 3) := by decide +kernel
theorem dX7_orderOf_26 : decode cX7_orderOf 26 = .ok (.iload 4, 2) := by decide +kernel
theorem dX7_orderOf_28 : decode cX7_orderOf 28 = .ok (.ireturn, 1) := by decide +kernel
set_option maxRecDepth 20000 in
theorem ggX7_order_X7_isBy : GoodIn wsX7_order wsX7_isBy := goodIn_r _ [4, 5, 6, 7, 8, 3, 9] (by decide +kernel) (by decide +kernel)
set_option maxRecDepth 20000 in
theorem gX7_order_X7_isBy : GoodIn wsX7_order (va_wsS RX7 68 yX7_isBy wsX7_isBy) := goodIn_app (goodIn_of _ (by decide +kernel)) ggX7_order_X7_isBy
set_option maxRecDepth 20000 in
theorem ggX7_order_X7_isRest : GoodIn wsX7_order wsX7_isRest := goodIn_r _ [12, 7, 8, 3, 9] (by decide +kernel) (by decide +kernel)
set_option maxRecDepth 20000 in
theorem gX7_order_X7_isRest : GoodIn wsX7_order (va_wsS RX7 76 yX7_isRest wsX7_isRest) := goodIn_app (goodIn_of _ (by decide +kernel)) ggX7_order_X7_isRest
set_option maxRecDepth 20000 in
theorem ggX7_order_X7_isUnit : GoodIn wsX7_order wsX7_isUnit := goodIn_r _ [15, 16, 17, 3, 18] (by decide +kernel) (by decide +kernel)
set_option maxRecDepth 20000 in
theorem gX7_order_X7_isUnit : GoodIn wsX7_order (va_wsS RX7 72 yX7_isUnit wsX7_isUnit) := goodIn_app (goodIn_of _ (by decide +kernel)) ggX7_order_X7_isUnit
set_option maxRecDepth 20000 in
theorem ggX7_order_X7_orderOf : GoodIn wsX7_order wsX7_orderOf := goodIn_r _ [21] (by decide +kernel) (by decide +kernel)
set_option maxRecDepth 20000 in
theorem gX7_order_X7_orderOf : GoodIn wsX7_order (va_wsS RX7 79 yX7_orderOf wsX7_orderOf) := goodIn_app (goodIn_of _ (by decide +kernel)) ggX7_order_X7_orderOf
theorem dX7_order_0 : decode cX7_order 0 = .ok (.iload_n 1, 1) := by decide +kernel
theorem dX7_order_1 : decode cX7_order 1 = .ok (.invokestatic 68, 3) := by decide +kernel
theorem dX7_order_4 : decode cX7_order 4 = .ok (.ifCond .eq 11, 3) := by decide +kernel
theorem dX7_order_7 : decode cX7_order 7 = .ok (.iload_n 1, 1) := by decide +kernel
theorem dX7_order_8 : decode cX7_order 8 = .ok (.iload_n 2, 1) := by decide +kernel
theorem dX7_order_9 : decode cX7_order 9 = .ok (.invokestatic 76, 3) := by decide +kernel
theorem dX7_order_12 : decode cX7_order 12 = .ok (.ifCond .ne 5, 3) := by decide +kernel
theorem dX7_order_15 : decode cX7_order 15 = .ok (.iconst (-1), 1) := by decide +kernel
theorem dX7_order_16 : decode cX7_order 16 = .ok (.ireturn, 1) := by decide +kernel
theorem dX7_order_17 : decode cX7_order 17 = .ok (.iload_n 1, 1) := by decide +kernel
theorem dX7_order_18 : decode cX7_order 18 = .ok (.iload_n 2, 1) := by decide +kernel
theorem dX7_order_19 : decode cX7_order 19 = .ok (.invokestatic 72, 3) := by decide +kernel
theorem dX7_order_22 : decode cX7_order 22 = .ok (.ifCond .eq 11, 3) := by decide +kernel
theorem dX7_order_25 : decode cX7_order 25 = .ok (.iload_n 1, 1) := by decide +kernel
theorem dX7_order_26 : decode cX7_order 26 = .ok (.iload_n 2, 1) := by decide +kernel
theorem dX7_order_27 : decode cX7_order 27 = .ok (.invokestatic 79, 3) := by decide +kernel
theorem dX7_order_30 : decode cX7_order 30 = .ok (.goto 5, 3) := by decide +kernel
theorem dX7_order_33 : decode cX7_order 33 = .ok (.bipush (-2), 2) := by decide +kernel
theorem dX7_order_35 : decode cX7_order 35 = .ok (.ireturn, 1) := by decide +kernel
set_option maxRecDepth 20000 in
theorem ggX7_walks_X7_isUnit : GoodIn wsX7_walks wsX7_isUnit := goodIn_r _ [5, 6, 7, 4, 8] (by decide +kernel) (by decide +kernel)
set_option maxRecDepth 20000 in
theorem gX7_walks_X7_isUnit : GoodIn wsX7_walks (va_wsS RX7 72 yX7_isUnit wsX7_isUnit) := goodIn_app (goodIn_of _ (by decide +kernel)) ggX7_walks_X7_isUnit
set_option maxRecDepth 20000 in
theorem ggX7_walks_X7_orderOf : GoodIn wsX7_walks wsX7_orderOf := goodIn_r _ [11] (by decide +kernel) (by decide +kernel)
set_option maxRecDepth 20000 in
theorem gX7_walks_X7_orderOf : GoodIn wsX7_walks (va_wsS RX7 79 yX7_orderOf wsX7_orderOf) := goodIn_app (goodIn_of _ (by decide +kernel)) ggX7_walks_X7_orderOf
set_option maxRecDepth 20000 in
theorem ggX7_walks_X7_common : GoodIn wsX7_walks wsX7_common := goodIn_r _ [8] (by decide +kernel) (by decide +kernel)
set_option maxRecDepth 20000 in
theorem gX7_walks_X7_common : GoodIn wsX7_walks (va_wsS RX7 64 yX7_common wsX7_common) := goodIn_app (goodIn_of _ (by decide +kernel)) ggX7_walks_X7_common
theorem dX7_walks_0 : decode cX7_walks 0 = .ok (.iconst 0, 1) := by decide +kernel
theorem dX7_walks_1 : decode cX7_walks 1 = .ok (.istore_n 2, 1) := by decide +kernel
theorem dX7_walks_2 : decode cX7_walks 2 = .ok (.iload_n 2, 1) := by decide +kernel
theorem dX7_walks_3 : decode cX7_walks 3 = .ok (.iload_n 1, 1) := by decide +kernel
theorem dX7_walks_4 : decode cX7_walks 4 = .ok (.if_icmp .ge 16, 3) := by decide +kernel
theorem dX7_walks_7 : decode cX7_walks 7 = .ok (.aload_n 0, 1) := by decide +kernel
theorem dX7_walks_8 : decode cX7_walks 8 = .ok (.getfield 43, 3) := by decide +kernel
theorem dX7_walks_11 : decode cX7_walks 11 = .ok (.iload_n 2, 1) := by decide +kernel
theorem dX7_walks_12 : decode cX7_walks 12 = .ok (.iconst 0, 1) := by decide +kernel
theorem dX7_walks_13 : decode cX7_walks 13 = .ok (.iastore, 1) := by decide +kernel
theorem dX7_walks_14 : decode cX7_walks 14 = .ok (.iinc 2 1, 3) := by decide +kernel
theorem dX7_walks_17 : decode cX7_walks 17 = .ok (.goto (-15), 3) := by decide +kernel
theorem dX7_walks_20 : decode cX7_walks 20 = .ok (.iconst 0, 1) := by decide +kernel
theorem dX7_walks_21 : decode cX7_walks 21 = .ok (.istore_n 2, 1) := by decide +kernel
theorem dX7_walks_22 : decode cX7_walks 22 = .ok (.iconst 0, 1) := by decide +kernel
theorem dX7_walks_23 : decode cX7_walks 23 = .ok (.istore_n 3, 1) := by decide +kernel
theorem dX7_walks_24 : decode cX7_walks 24 = .ok (.iload_n 3, 1) := by decide +kernel
theorem dX7_walks_25 : decode cX7_walks 25 = .ok (.iload_n 1, 1) := by decide +kernel
theorem dX7_walks_26 : decode cX7_walks 26 = .ok (.if_icmp .ge 86, 3) := by decide +kernel
theorem dX7_walks_29 : decode cX7_walks 29 = .ok (.iload_n 1, 1) := by decide +kernel
theorem dX7_walks_30 : decode cX7_walks 30 = .ok (.iload_n 3, 1) := by decide +kernel
theorem dX7_walks_31 : decode cX7_walks 31 = .ok (.invokestatic 72, 3) := by decide +kernel
theorem dX7_walks_34 : decode cX7_walks 34 = .ok (.ifCond .ne 6, 3) := by decide +kernel
theorem dX7_walks_37 : decode cX7_walks 37 = .ok (.goto 69, 3) := by decide +kernel
theorem dX7_walks_40 : decode cX7_walks 40 = .ok (.iinc 2 1, 3) := by decide +kernel
theorem dX7_walks_43 : decode cX7_walks 43 = .ok (.aload_n 0, 1) := by decide +kernel
theorem dX7_walks_44 : decode cX7_walks 44 = .ok (.getfield 43, 3) := by decide +kernel
theorem dX7_walks_47 : decode cX7_walks 47 = .ok (.iload_n 3, 1) := by decide +kernel
theorem dX7_walks_48 : decode cX7_walks 48 = .ok (.iaload, 1) := by decide +kernel
theorem dX7_walks_49 : decode cX7_walks 49 = .ok (.ifCond .ne 57, 3) := by decide +kernel
theorem dX7_walks_52 : decode cX7_walks 52 = .ok (.iload_n 1, 1) := by decide +kernel
theorem dX7_walks_53 : decode cX7_walks 53 = .ok (.iload_n 3, 1) := by decide +kernel
theorem dX7_walks_54 : decode cX7_walks 54 = .ok (.invokestatic 79, 3) := by decide +kernel
theorem dX7_walks_57 : decode cX7_walks 57 = .ok (.istore 4, 2) := by decide +kernel
theorem dX7_walks_59 : decode cX7_walks 59 = .ok (.lconst 1, 1) := by decide +kernel
theorem dX7_walks_60 : decode cX7_walks 60 = .ok (.lstore 5, 2) := by decide +kernel
theorem dX7_walks_62 : decode cX7_walks 62 = .ok (.iconst 1, 1) := by decide +kernel
theorem dX7_walks_63 : decode cX7_walks 63 = .ok (.istore 7, 2) := by decide +kernel
theorem dX7_walks_65 : decode cX7_walks 65 = .ok (.iload 7, 2) := by decide +kernel
theorem dX7_walks_67 : decode cX7_walks 67 = .ok (.iload 4, 2) := by decide +kernel
theorem dX7_walks_69 : decode cX7_walks 69 = .ok (.if_icmp .gt 37, 3) := by decide +kernel
theorem dX7_walks_72 : decode cX7_walks 72 = .ok (.lload 5, 2) := by decide +kernel
theorem dX7_walks_74 : decode cX7_walks 74 = .ok (.iload_n 3, 1) := by decide +kernel
theorem dX7_walks_75 : decode cX7_walks 75 = .ok (.i2l, 1) := by decide +kernel
theorem dX7_walks_76 : decode cX7_walks 76 = .ok (.lmul, 1) := by decide +kernel
theorem dX7_walks_77 : decode cX7_walks 77 = .ok (.iload_n 1, 1) := by decide +kernel
theorem dX7_walks_78 : decode cX7_walks 78 = .ok (.i2l, 1) := by decide +kernel
theorem dX7_walks_79 : decode cX7_walks 79 = .ok (.lrem, 1) := by decide +kernel
theorem dX7_walks_80 : decode cX7_walks 80 = .ok (.lstore 5, 2) := by decide +kernel
theorem dX7_walks_82 : decode cX7_walks 82 = .ok (.aload_n 0, 1) := by decide +kernel
theorem dX7_walks_83 : decode cX7_walks 83 = .ok (.getfield 43, 3) := by decide +kernel
theorem dX7_walks_86 : decode cX7_walks 86 = .ok (.lload 5, 2) := by decide +kernel
theorem dX7_walks_88 : decode cX7_walks 88 = .ok (.l2i, 1) := by decide +kernel
theorem dX7_walks_89 : decode cX7_walks 89 = .ok (.iload 4, 2) := by decide +kernel
theorem dX7_walks_91 : decode cX7_walks 91 = .ok (.iload 4, 2) := by decide +kernel
theorem dX7_walks_93 : decode cX7_walks 93 = .ok (.iload 7, 2) := by decide +kernel
theorem dX7_walks_95 : decode cX7_walks 95 = .ok (.invokestatic 64, 3) := by decide +kernel
theorem dX7_walks_98 : decode cX7_walks 98 = .ok (.idiv, 1) := by decide +kernel
theorem dX7_walks_99 : decode cX7_walks 99 = .ok (.iastore, 1) := by decide +kernel
theorem dX7_walks_100 : decode cX7_walks 100 = .ok (.iinc 7 1, 3) := by decide +kernel
theorem dX7_walks_103 : decode cX7_walks 103 = .ok (.goto (-38), 3) := by decide +kernel
theorem dX7_walks_106 : decode cX7_walks 106 = .ok (.iinc 3 1, 3) := by decide +kernel
theorem dX7_walks_109 : decode cX7_walks 109 = .ok (.goto (-85), 3) := by decide +kernel
theorem dX7_walks_112 : decode cX7_walks 112 = .ok (.iload_n 2, 1) := by decide +kernel
theorem dX7_walks_113 : decode cX7_walks 113 = .ok (.ireturn, 1) := by decide +kernel
set_option maxRecDepth 20000 in
theorem ggX7_orders_X7_isBy : GoodIn wsX7_orders wsX7_isBy := goodIn_r _ [6, 7, 1, 8, 9, 5, 10] (by decide +kernel) (by decide +kernel)
set_option maxRecDepth 20000 in
theorem gX7_orders_X7_isBy : GoodIn wsX7_orders (va_wsS RX7 68 yX7_isBy wsX7_isBy) := goodIn_app (goodIn_of _ (by decide +kernel)) ggX7_orders_X7_isBy
set_option maxRecDepth 20000 in
theorem ggX7_orders_X7_in : GoodIn wsX7_orders wsX7_in := goodIn_r _ [10] (by decide +kernel) (by decide +kernel)
set_option maxRecDepth 20000 in
theorem gX7_orders_X7_in : GoodIn wsX7_orders (va_wsS RX7 60 yX7_in wsX7_in) := goodIn_app (goodIn_of _ (by decide +kernel)) ggX7_orders_X7_in
set_option maxRecDepth 20000 in
theorem ggX7_orders_X7_walks : GoodIn wsX7_orders wsX7_walks := goodIn_r _ [14, 2, 15, 16, 5, 17, 18, 19, 20, 21, 22, 23, 24, 25, 26, 27, 28, 29, 30, 31, 32, 33, 34, 35, 36, 37, 38, 39, 40, 41] (by decide +kernel) (by decide +kernel)
set_option maxRecDepth 20000 in
theorem gX7_orders_X7_walks : GoodIn wsX7_orders (wsV RX7 82 RX7 yX7_walks wsX7_walks) := goodIn_app (goodIn_of _ (by decide +kernel)) ggX7_orders_X7_walks
theorem dX7_orders_0 : decode cX7_orders 0 = .ok (.iload_n 1, 1) := by decide +kernel
theorem dX7_orders_1 : decode cX7_orders 1 = .ok (.invokestatic 68, 3) := by decide +kernel
theorem dX7_orders_4 : decode cX7_orders 4 = .ok (.ifCond .eq 30, 3) := by decide +kernel
theorem dX7_orders_7 : decode cX7_orders 7 = .ok (.iload_n 3, 1) := by decide +kernel
theorem dX7_orders_8 : decode cX7_orders 8 = .ok (.i2l, 1) := by decide +kernel
theorem dX7_orders_9 : decode cX7_orders 9 = .ok (.lconst 0, 1) := by decide +kernel
theorem dX7_orders_10 : decode cX7_orders 10 = .ok (.lconst 1, 1) := by decide +kernel
theorem dX7_orders_11 : decode cX7_orders 11 = .ok (.invokestatic 60, 3) := by decide +kernel
theorem dX7_orders_14 : decode cX7_orders 14 = .ok (.ifCond .eq 20, 3) := by decide +kernel
theorem dX7_orders_17 : decode cX7_orders 17 = .ok (.iload_n 3, 1) := by decide +kernel
theorem dX7_orders_18 : decode cX7_orders 18 = .ok (.iconst 1, 1) := by decide +kernel
theorem dX7_orders_19 : decode cX7_orders 19 = .ok (.if_icmp .ne 17, 3) := by decide +kernel
theorem dX7_orders_22 : decode cX7_orders 22 = .ok (.iload_n 2, 1) := by decide +kernel
theorem dX7_orders_23 : decode cX7_orders 23 = .ok (.i2l, 1) := by decide +kernel
theorem dX7_orders_24 : decode cX7_orders 24 = .ok (.lconst 1, 1) := by decide +kernel
theorem dX7_orders_25 : decode cX7_orders 25 = .ok (.ldc2_w 58, 3) := by decide +kernel
theorem dX7_orders_28 : decode cX7_orders 28 = .ok (.invokestatic 60, 3) := by decide +kernel
theorem dX7_orders_31 : decode cX7_orders 31 = .ok (.ifCond .ne 5, 3) := by decide +kernel
theorem dX7_orders_34 : decode cX7_orders 34 = .ok (.iconst (-1), 1) := by decide +kernel
theorem dX7_orders_35 : decode cX7_orders 35 = .ok (.ireturn, 1) := by decide +kernel
theorem dX7_orders_36 : decode cX7_orders 36 = .ok (.aload_n 0, 1) := by decide +kernel
theorem dX7_orders_37 : decode cX7_orders 37 = .ok (.iload_n 1, 1) := by decide +kernel
theorem dX7_orders_38 : decode cX7_orders 38 = .ok (.invokevirtual 82, 3) := by decide +kernel
theorem dX7_orders_41 : decode cX7_orders 41 = .ok (.pop, 1) := by decide +kernel
theorem dX7_orders_42 : decode cX7_orders 42 = .ok (.iconst 0, 1) := by decide +kernel
theorem dX7_orders_43 : decode cX7_orders 43 = .ok (.istore 4, 2) := by decide +kernel
theorem dX7_orders_45 : decode cX7_orders 45 = .ok (.iconst 0, 1) := by decide +kernel
theorem dX7_orders_46 : decode cX7_orders 46 = .ok (.istore 5, 2) := by decide +kernel
theorem dX7_orders_48 : decode cX7_orders 48 = .ok (.iconst 0, 1) := by decide +kernel
theorem dX7_orders_49 : decode cX7_orders 49 = .ok (.istore 6, 2) := by decide +kernel
theorem dX7_orders_51 : decode cX7_orders 51 = .ok (.iload 6, 2) := by decide +kernel
theorem dX7_orders_53 : decode cX7_orders 53 = .ok (.iload_n 1, 1) := by decide +kernel
theorem dX7_orders_54 : decode cX7_orders 54 = .ok (.if_icmp .ge 56, 3) := by decide +kernel
theorem dX7_orders_57 : decode cX7_orders 57 = .ok (.aload_n 0, 1) := by decide +kernel
theorem dX7_orders_58 : decode cX7_orders 58 = .ok (.getfield 43, 3) := by decide +kernel
theorem dX7_orders_61 : decode cX7_orders 61 = .ok (.iload 6, 2) := by decide +kernel
theorem dX7_orders_63 : decode cX7_orders 63 = .ok (.iaload, 1) := by decide +kernel
theorem dX7_orders_64 : decode cX7_orders 64 = .ok (.iload 4, 2) := by decide +kernel
theorem dX7_orders_66 : decode cX7_orders 66 = .ok (.if_icmp .le 13, 3) := by decide +kernel
theorem dX7_orders_69 : decode cX7_orders 69 = .ok (.aload_n 0, 1) := by decide +kernel
theorem dX7_orders_70 : decode cX7_orders 70 = .ok (.getfield 43, 3) := by decide +kernel
end
section
theorem dX7_orders_73 : decode cX7_orders 73 = .ok (.iload 6, 2) := by decide +kernel
theorem dX7_orders_75 : decode cX7_orders 75 = .ok (.iaload, 1) := by decide +kernel
theorem dX7_orders_76 : decode cX7_orders 76 = .ok (.goto 5, 3) := by decide +kernel
theorem dX7_orders_79 : decode cX7_orders 79 = .ok (.iload 4, 2) := by decide +kernel
theorem dX7_orders_81 : decode cX7_orders 81 = .ok (.istore 4, 2) := by decide +kernel
theorem dX7_orders_83 : decode cX7_orders 83 = .ok (.iload 5, 2) := by decide +kernel
theorem dX7_orders_85 : decode cX7_orders 85 = .ok (.aload_n 0, 1) := by decide +kernel
theorem dX7_orders_86 : decode cX7_orders 86 = .ok (.getfield 43, 3) := by decide +kernel
theorem dX7_orders_89 : decode cX7_orders 89 = .ok (.iload 6, 2) := by decide +kernel
theorem dX7_orders_91 : decode cX7_orders 91 = .ok (.iaload, 1) := by decide +kernel
theorem dX7_orders_92 : decode cX7_orders 92 = .ok (.iload_n 2, 1) := by decide +kernel
theorem dX7_orders_93 : decode cX7_orders 93 = .ok (.if_icmp .ne 7, 3) := by decide +kernel
theorem dX7_orders_96 : decode cX7_orders 96 = .ok (.iconst 1, 1) := by decide +kernel
theorem dX7_orders_97 : decode cX7_orders 97 = .ok (.goto 4, 3) := by decide +kernel
theorem dX7_orders_100 : decode cX7_orders 100 = .ok (.iconst 0, 1) := by decide +kernel
theorem dX7_orders_101 : decode cX7_orders 101 = .ok (.iadd, 1) := by decide +kernel
theorem dX7_orders_102 : decode cX7_orders 102 = .ok (.istore 5, 2) := by decide +kernel
theorem dX7_orders_104 : decode cX7_orders 104 = .ok (.iinc 6 1, 3) := by decide +kernel
theorem dX7_orders_107 : decode cX7_orders 107 = .ok (.goto (-56), 3) := by decide +kernel
theorem dX7_orders_110 : decode cX7_orders 110 = .ok (.iload_n 3, 1) := by decide +kernel
theorem dX7_orders_111 : decode cX7_orders 111 = .ok (.ifCond .ne 8, 3) := by decide +kernel
theorem dX7_orders_114 : decode cX7_orders 114 = .ok (.iload 4, 2) := by decide +kernel
theorem dX7_orders_116 : decode cX7_orders 116 = .ok (.goto 5, 3) := by decide +kernel
theorem dX7_orders_119 : decode cX7_orders 119 = .ok (.iload 5, 2) := by decide +kernel
theorem dX7_orders_121 : decode cX7_orders 121 = .ok (.ireturn, 1) := by decide +kernel
set_option maxRecDepth 20000 in
theorem ggX7_makers_X7_isBy : GoodIn wsX7_makers wsX7_isBy := goodIn_r _ [5, 6, 7, 8, 9, 4, 10] (by decide +kernel) (by decide +kernel)
set_option maxRecDepth 20000 in
theorem gX7_makers_X7_isBy : GoodIn wsX7_makers (va_wsS RX7 68 yX7_isBy wsX7_isBy) := goodIn_app (goodIn_of _ (by decide +kernel)) ggX7_makers_X7_isBy
set_option maxRecDepth 20000 in
theorem ggX7_makers_X7_walks : GoodIn wsX7_makers wsX7_walks := goodIn_r _ [14, 1, 15, 16, 4, 17, 18, 19, 20, 21, 22, 23, 24, 25, 26, 27, 28, 29, 30, 31, 32, 33, 34, 35, 36, 37, 38, 39, 40, 41] (by decide +kernel) (by decide +kernel)
set_option maxRecDepth 20000 in
theorem gX7_makers_X7_walks : GoodIn wsX7_makers (wsV RX7 82 RX7 yX7_walks wsX7_walks) := goodIn_app (goodIn_of _ (by decide +kernel)) ggX7_makers_X7_walks
theorem dX7_makers_0 : decode cX7_makers 0 = .ok (.iload_n 1, 1) := by decide +kernel
theorem dX7_makers_1 : decode cX7_makers 1 = .ok (.invokestatic 68, 3) := by decide +kernel
theorem dX7_makers_4 : decode cX7_makers 4 = .ok (.ifCond .eq 8, 3) := by decide +kernel
theorem dX7_makers_7 : decode cX7_makers 7 = .ok (.iload_n 2, 1) := by decide +kernel
theorem dX7_makers_8 : decode cX7_makers 8 = .ok (.iconst (-1), 1) := by decide +kernel
theorem dX7_makers_9 : decode cX7_makers 9 = .ok (.if_icmp .ge 5, 3) := by decide +kernel
theorem dX7_makers_12 : decode cX7_makers 12 = .ok (.iconst (-1), 1) := by decide +kernel
theorem dX7_makers_13 : decode cX7_makers 13 = .ok (.ireturn, 1) := by decide +kernel
theorem dX7_makers_14 : decode cX7_makers 14 = .ok (.aload_n 0, 1) := by decide +kernel
theorem dX7_makers_15 : decode cX7_makers 15 = .ok (.iload_n 1, 1) := by decide +kernel
theorem dX7_makers_16 : decode cX7_makers 16 = .ok (.invokevirtual 82, 3) := by decide +kernel
theorem dX7_makers_19 : decode cX7_makers 19 = .ok (.istore_n 3, 1) := by decide +kernel
theorem dX7_makers_20 : decode cX7_makers 20 = .ok (.iconst 0, 1) := by decide +kernel
theorem dX7_makers_21 : decode cX7_makers 21 = .ok (.istore 4, 2) := by decide +kernel
theorem dX7_makers_23 : decode cX7_makers 23 = .ok (.iconst 0, 1) := by decide +kernel
theorem dX7_makers_24 : decode cX7_makers 24 = .ok (.istore 5, 2) := by decide +kernel
theorem dX7_makers_26 : decode cX7_makers 26 = .ok (.iload 5, 2) := by decide +kernel
theorem dX7_makers_28 : decode cX7_makers 28 = .ok (.iload_n 1, 1) := by decide +kernel
theorem dX7_makers_29 : decode cX7_makers 29 = .ok (.if_icmp .ge 32, 3) := by decide +kernel
theorem dX7_makers_32 : decode cX7_makers 32 = .ok (.aload_n 0, 1) := by decide +kernel
theorem dX7_makers_33 : decode cX7_makers 33 = .ok (.getfield 43, 3) := by decide +kernel
theorem dX7_makers_36 : decode cX7_makers 36 = .ok (.iload 5, 2) := by decide +kernel
theorem dX7_makers_38 : decode cX7_makers 38 = .ok (.iaload, 1) := by decide +kernel
theorem dX7_makers_39 : decode cX7_makers 39 = .ok (.iload_n 3, 1) := by decide +kernel
theorem dX7_makers_40 : decode cX7_makers 40 = .ok (.if_icmp .ne 15, 3) := by decide +kernel
theorem dX7_makers_43 : decode cX7_makers 43 = .ok (.iload 4, 2) := by decide +kernel
theorem dX7_makers_45 : decode cX7_makers 45 = .ok (.iload_n 2, 1) := by decide +kernel
theorem dX7_makers_46 : decode cX7_makers 46 = .ok (.if_icmp .ne 6, 3) := by decide +kernel
theorem dX7_makers_49 : decode cX7_makers 49 = .ok (.iload 5, 2) := by decide +kernel
theorem dX7_makers_51 : decode cX7_makers 51 = .ok (.ireturn, 1) := by decide +kernel
theorem dX7_makers_52 : decode cX7_makers 52 = .ok (.iinc 4 1, 3) := by decide +kernel
theorem dX7_makers_55 : decode cX7_makers 55 = .ok (.iinc 5 1, 3) := by decide +kernel
theorem dX7_makers_58 : decode cX7_makers 58 = .ok (.goto (-32), 3) := by decide +kernel
theorem dX7_makers_61 : decode cX7_makers 61 = .ok (.iload_n 2, 1) := by decide +kernel
theorem dX7_makers_62 : decode cX7_makers 62 = .ok (.ifCond .ge 8, 3) := by decide +kernel
theorem dX7_makers_65 : decode cX7_makers 65 = .ok (.iload 4, 2) := by decide +kernel
theorem dX7_makers_67 : decode cX7_makers 67 = .ok (.goto 5, 3) := by decide +kernel
theorem dX7_makers_70 : decode cX7_makers 70 = .ok (.bipush (-4), 2) := by decide +kernel
theorem dX7_makers_72 : decode cX7_makers 72 = .ok (.ireturn, 1) := by decide +kernel
set_option maxRecDepth 20000 in
theorem ggX7_power_X7_isBy : GoodIn wsX7_power wsX7_isBy := goodIn_r _ [5, 6, 7, 8, 9, 4, 10] (by decide +kernel) (by decide +kernel)
set_option maxRecDepth 20000 in
theorem gX7_power_X7_isBy : GoodIn wsX7_power (va_wsS RX7 68 yX7_isBy wsX7_isBy) := goodIn_app (goodIn_of _ (by decide +kernel)) ggX7_power_X7_isBy
set_option maxRecDepth 20000 in
theorem ggX7_power_X7_isRest : GoodIn wsX7_power wsX7_isRest := goodIn_r _ [13, 8, 9, 4, 10] (by decide +kernel) (by decide +kernel)
set_option maxRecDepth 20000 in
theorem gX7_power_X7_isRest : GoodIn wsX7_power (va_wsS RX7 76 yX7_isRest wsX7_isRest) := goodIn_app (goodIn_of _ (by decide +kernel)) ggX7_power_X7_isRest
set_option maxRecDepth 20000 in
theorem ggX7_power_X7_in : GoodIn wsX7_power wsX7_in := goodIn_r _ [10] (by decide +kernel) (by decide +kernel)
set_option maxRecDepth 20000 in
theorem gX7_power_X7_in : GoodIn wsX7_power (va_wsS RX7 60 yX7_in wsX7_in) := goodIn_app (goodIn_of _ (by decide +kernel)) ggX7_power_X7_in
set_option maxRecDepth 20000 in
theorem ggX7_power_X7_powerOf : GoodIn wsX7_power wsX7_powerOf := goodIn_r _ [16, 6] (by decide +kernel) (by decide +kernel)
set_option maxRecDepth 20000 in
theorem gX7_power_X7_powerOf : GoodIn wsX7_power (va_wsS RX7 88 yX7_powerOf wsX7_powerOf) := goodIn_app (goodIn_of _ (by decide +kernel)) ggX7_power_X7_powerOf
theorem dX7_power_0 : decode cX7_power 0 = .ok (.iload_n 1, 1) := by decide +kernel
theorem dX7_power_1 : decode cX7_power 1 = .ok (.invokestatic 68, 3) := by decide +kernel
theorem dX7_power_4 : decode cX7_power 4 = .ok (.ifCond .eq 31, 3) := by decide +kernel
theorem dX7_power_7 : decode cX7_power 7 = .ok (.iload_n 1, 1) := by decide +kernel
theorem dX7_power_8 : decode cX7_power 8 = .ok (.iload_n 2, 1) := by decide +kernel
theorem dX7_power_9 : decode cX7_power 9 = .ok (.invokestatic 76, 3) := by decide +kernel
theorem dX7_power_12 : decode cX7_power 12 = .ok (.ifCond .eq 23, 3) := by decide +kernel
theorem dX7_power_15 : decode cX7_power 15 = .ok (.lload_n 3, 1) := by decide +kernel
theorem dX7_power_16 : decode cX7_power 16 = .ok (.lconst 0, 1) := by decide +kernel
theorem dX7_power_17 : decode cX7_power 17 = .ok (.ldc2_w 86, 3) := by decide +kernel
theorem dX7_power_20 : decode cX7_power 20 = .ok (.invokestatic 60, 3) := by decide +kernel
theorem dX7_power_23 : decode cX7_power 23 = .ok (.ifCond .eq 12, 3) := by decide +kernel
theorem dX7_power_26 : decode cX7_power 26 = .ok (.iload_n 1, 1) := by decide +kernel
theorem dX7_power_27 : decode cX7_power 27 = .ok (.iload_n 2, 1) := by decide +kernel
theorem dX7_power_28 : decode cX7_power 28 = .ok (.lload_n 3, 1) := by decide +kernel
theorem dX7_power_29 : decode cX7_power 29 = .ok (.invokestatic 88, 3) := by decide +kernel
theorem dX7_power_32 : decode cX7_power 32 = .ok (.goto 4, 3) := by decide +kernel
theorem dX7_power_35 : decode cX7_power 35 = .ok (.iconst (-1), 1) := by decide +kernel
theorem dX7_power_36 : decode cX7_power 36 = .ok (.ireturn, 1) := by decide +kernel
set_option maxRecDepth 20000 in
theorem ggX7_log_X7_isBy : GoodIn wsX7_log wsX7_isBy := goodIn_r _ [4, 5, 6, 7, 8, 3, 9] (by decide +kernel) (by decide +kernel)
set_option maxRecDepth 20000 in
theorem gX7_log_X7_isBy : GoodIn wsX7_log (va_wsS RX7 68 yX7_isBy wsX7_isBy) := goodIn_app (goodIn_of _ (by decide +kernel)) ggX7_log_X7_isBy
set_option maxRecDepth 20000 in
theorem ggX7_log_X7_isRest : GoodIn wsX7_log wsX7_isRest := goodIn_r _ [12, 7, 8, 3, 9] (by decide +kernel) (by decide +kernel)
set_option maxRecDepth 20000 in
theorem gX7_log_X7_isRest : GoodIn wsX7_log (va_wsS RX7 76 yX7_isRest wsX7_isRest) := goodIn_app (goodIn_of _ (by decide +kernel)) ggX7_log_X7_isRest
theorem dX7_log_0 : decode cX7_log 0 = .ok (.iload_n 1, 1) := by decide +kernel
theorem dX7_log_1 : decode cX7_log 1 = .ok (.invokestatic 68, 3) := by decide +kernel
theorem dX7_log_4 : decode cX7_log 4 = .ok (.ifCond .eq 19, 3) := by decide +kernel
theorem dX7_log_7 : decode cX7_log 7 = .ok (.iload_n 1, 1) := by decide +kernel
theorem dX7_log_8 : decode cX7_log 8 = .ok (.iload_n 2, 1) := by decide +kernel
theorem dX7_log_9 : decode cX7_log 9 = .ok (.invokestatic 76, 3) := by decide +kernel
theorem dX7_log_12 : decode cX7_log 12 = .ok (.ifCond .eq 11, 3) := by decide +kernel
theorem dX7_log_15 : decode cX7_log 15 = .ok (.iload_n 1, 1) := by decide +kernel
theorem dX7_log_16 : decode cX7_log 16 = .ok (.iload_n 3, 1) := by decide +kernel
theorem dX7_log_17 : decode cX7_log 17 = .ok (.invokestatic 76, 3) := by decide +kernel
theorem dX7_log_20 : decode cX7_log 20 = .ok (.ifCond .ne 5, 3) := by decide +kernel
theorem dX7_log_23 : decode cX7_log 23 = .ok (.iconst (-1), 1) := by decide +kernel
theorem dX7_log_24 : decode cX7_log 24 = .ok (.ireturn, 1) := by decide +kernel
theorem dX7_log_25 : decode cX7_log 25 = .ok (.lconst 1, 1) := by decide +kernel
theorem dX7_log_26 : decode cX7_log 26 = .ok (.lstore 4, 2) := by decide +kernel
theorem dX7_log_28 : decode cX7_log 28 = .ok (.iconst 0, 1) := by decide +kernel
theorem dX7_log_29 : decode cX7_log 29 = .ok (.istore 6, 2) := by decide +kernel
theorem dX7_log_31 : decode cX7_log 31 = .ok (.iload 6, 2) := by decide +kernel
theorem dX7_log_33 : decode cX7_log 33 = .ok (.iload_n 1, 1) := by decide +kernel
theorem dX7_log_34 : decode cX7_log 34 = .ok (.if_icmp .gt 30, 3) := by decide +kernel
theorem dX7_log_37 : decode cX7_log 37 = .ok (.lload 4, 2) := by decide +kernel
theorem dX7_log_39 : decode cX7_log 39 = .ok (.iload_n 3, 1) := by decide +kernel
theorem dX7_log_40 : decode cX7_log 40 = .ok (.i2l, 1) := by decide +kernel
theorem dX7_log_41 : decode cX7_log 41 = .ok (.lcmp, 1) := by decide +kernel
theorem dX7_log_42 : decode cX7_log 42 = .ok (.ifCond .ne 6, 3) := by decide +kernel
theorem dX7_log_45 : decode cX7_log 45 = .ok (.iload 6, 2) := by decide +kernel
theorem dX7_log_47 : decode cX7_log 47 = .ok (.ireturn, 1) := by decide +kernel
theorem dX7_log_48 : decode cX7_log 48 = .ok (.lload 4, 2) := by decide +kernel
theorem dX7_log_50 : decode cX7_log 50 = .ok (.iload_n 2, 1) := by decide +kernel
theorem dX7_log_51 : decode cX7_log 51 = .ok (.i2l, 1) := by decide +kernel
theorem dX7_log_52 : decode cX7_log 52 = .ok (.lmul, 1) := by decide +kernel
theorem dX7_log_53 : decode cX7_log 53 = .ok (.iload_n 1, 1) := by decide +kernel
theorem dX7_log_54 : decode cX7_log 54 = .ok (.i2l, 1) := by decide +kernel
theorem dX7_log_55 : decode cX7_log 55 = .ok (.lrem, 1) := by decide +kernel
theorem dX7_log_56 : decode cX7_log 56 = .ok (.lstore 4, 2) := by decide +kernel
theorem dX7_log_58 : decode cX7_log 58 = .ok (.iinc 6 1, 3) := by decide +kernel
theorem dX7_log_61 : decode cX7_log 61 = .ok (.goto (-30), 3) := by decide +kernel
theorem dX7_log_64 : decode cX7_log 64 = .ok (.bipush (-4), 2) := by decide +kernel
theorem dX7_log_66 : decode cX7_log 66 = .ok (.ireturn, 1) := by decide +kernel
set_option maxRecDepth 20000 in
theorem ggX7_roots_X7_isBy : GoodIn wsX7_roots wsX7_isBy := goodIn_r _ [5, 6, 7, 8, 9, 4, 10] (by decide +kernel) (by decide +kernel)
set_option maxRecDepth 20000 in
theorem gX7_roots_X7_isBy : GoodIn wsX7_roots (va_wsS RX7 68 yX7_isBy wsX7_isBy) := goodIn_app (goodIn_of _ (by decide +kernel)) ggX7_roots_X7_isBy
set_option maxRecDepth 20000 in
theorem ggX7_roots_X7_isRest : GoodIn wsX7_roots wsX7_isRest := goodIn_r _ [13, 8, 9, 4, 10] (by decide +kernel) (by decide +kernel)
set_option maxRecDepth 20000 in
theorem gX7_roots_X7_isRest : GoodIn wsX7_roots (va_wsS RX7 76 yX7_isRest wsX7_isRest) := goodIn_app (goodIn_of _ (by decide +kernel)) ggX7_roots_X7_isRest
set_option maxRecDepth 20000 in
theorem ggX7_roots_X7_in : GoodIn wsX7_roots wsX7_in := goodIn_r _ [10] (by decide +kernel) (by decide +kernel)
set_option maxRecDepth 20000 in
theorem gX7_roots_X7_in : GoodIn wsX7_roots (va_wsS RX7 60 yX7_in wsX7_in) := goodIn_app (goodIn_of _ (by decide +kernel)) ggX7_roots_X7_in
set_option maxRecDepth 20000 in
theorem ggX7_roots_X7_powerOf : GoodIn wsX7_roots wsX7_powerOf := goodIn_r _ [16, 6] (by decide +kernel) (by decide +kernel)
set_option maxRecDepth 20000 in
theorem gX7_roots_X7_powerOf : GoodIn wsX7_roots (va_wsS RX7 88 yX7_powerOf wsX7_powerOf) := goodIn_app (goodIn_of _ (by decide +kernel)) ggX7_roots_X7_powerOf
theorem dX7_roots_0 : decode cX7_roots 0 = .ok (.iload_n 1, 1) := by decide +kernel
theorem dX7_roots_1 : decode cX7_roots 1 = .ok (.invokestatic 68, 3) := by decide +kernel
theorem dX7_roots_4 : decode cX7_roots 4 = .ok (.ifCond .eq 29, 3) := by decide +kernel
theorem dX7_roots_7 : decode cX7_roots 7 = .ok (.iload_n 1, 1) := by decide +kernel
theorem dX7_roots_8 : decode cX7_roots 8 = .ok (.iload_n 2, 1) := by decide +kernel
theorem dX7_roots_9 : decode cX7_roots 9 = .ok (.invokestatic 76, 3) := by decide +kernel
theorem dX7_roots_12 : decode cX7_roots 12 = .ok (.ifCond .eq 21, 3) := by decide +kernel
theorem dX7_roots_15 : decode cX7_roots 15 = .ok (.iload_n 3, 1) := by decide +kernel
theorem dX7_roots_16 : decode cX7_roots 16 = .ok (.i2l, 1) := by decide +kernel
theorem dX7_roots_17 : decode cX7_roots 17 = .ok (.lconst 1, 1) := by decide +kernel
theorem dX7_roots_18 : decode cX7_roots 18 = .ok (.ldc2_w 92, 3) := by decide +kernel
theorem dX7_roots_21 : decode cX7_roots 21 = .ok (.invokestatic 60, 3) := by decide +kernel
theorem dX7_roots_24 : decode cX7_roots 24 = .ok (.ifCond .eq 9, 3) := by decide +kernel
theorem dX7_roots_27 : decode cX7_roots 27 = .ok (.iload 4, 2) := by decide +kernel
theorem dX7_roots_29 : decode cX7_roots 29 = .ok (.iconst (-1), 1) := by decide +kernel
theorem dX7_roots_30 : decode cX7_roots 30 = .ok (.if_icmp .ge 5, 3) := by decide +kernel
theorem dX7_roots_33 : decode cX7_roots 33 = .ok (.iconst (-1), 1) := by decide +kernel
theorem dX7_roots_34 : decode cX7_roots 34 = .ok (.ireturn, 1) := by decide +kernel
theorem dX7_roots_35 : decode cX7_roots 35 = .ok (.iconst 0, 1) := by decide +kernel
theorem dX7_roots_36 : decode cX7_roots 36 = .ok (.istore 5, 2) := by decide +kernel
theorem dX7_roots_38 : decode cX7_roots 38 = .ok (.iconst 0, 1) := by decide +kernel
theorem dX7_roots_39 : decode cX7_roots 39 = .ok (.istore 6, 2) := by decide +kernel
theorem dX7_roots_41 : decode cX7_roots 41 = .ok (.iload 6, 2) := by decide +kernel
theorem dX7_roots_43 : decode cX7_roots 43 = .ok (.iload_n 1, 1) := by decide +kernel
theorem dX7_roots_44 : decode cX7_roots 44 = .ok (.if_icmp .ge 34, 3) := by decide +kernel
theorem dX7_roots_47 : decode cX7_roots 47 = .ok (.iload_n 1, 1) := by decide +kernel
theorem dX7_roots_48 : decode cX7_roots 48 = .ok (.iload 6, 2) := by decide +kernel
theorem dX7_roots_50 : decode cX7_roots 50 = .ok (.iload_n 3, 1) := by decide +kernel
theorem dX7_roots_51 : decode cX7_roots 51 = .ok (.i2l, 1) := by decide +kernel
theorem dX7_roots_52 : decode cX7_roots 52 = .ok (.invokestatic 88, 3) := by decide +kernel
theorem dX7_roots_55 : decode cX7_roots 55 = .ok (.iload_n 2, 1) := by decide +kernel
theorem dX7_roots_56 : decode cX7_roots 56 = .ok (.if_icmp .ne 16, 3) := by decide +kernel
theorem dX7_roots_59 : decode cX7_roots 59 = .ok (.iload 5, 2) := by decide +kernel
theorem dX7_roots_61 : decode cX7_roots 61 = .ok (.iload 4, 2) := by decide +kernel
theorem dX7_roots_63 : decode cX7_roots 63 = .ok (.if_icmp .ne 6, 3) := by decide +kernel
theorem dX7_roots_66 : decode cX7_roots 66 = .ok (.iload 6, 2) := by decide +kernel
theorem dX7_roots_68 : decode cX7_roots 68 = .ok (.ireturn, 1) := by decide +kernel
theorem dX7_roots_69 : decode cX7_roots 69 = .ok (.iinc 5 1, 3) := by decide +kernel
theorem dX7_roots_72 : decode cX7_roots 72 = .ok (.iinc 6 1, 3) := by decide +kernel
theorem dX7_roots_75 : decode cX7_roots 75 = .ok (.goto (-34), 3) := by decide +kernel
theorem dX7_roots_78 : decode cX7_roots 78 = .ok (.iload 4, 2) := by decide +kernel
theorem dX7_roots_80 : decode cX7_roots 80 = .ok (.ifCond .ge 8, 3) := by decide +kernel
theorem dX7_roots_83 : decode cX7_roots 83 = .ok (.iload 5, 2) := by decide +kernel
theorem dX7_roots_85 : decode cX7_roots 85 = .ok (.goto 5, 3) := by decide +kernel
theorem dX7_roots_88 : decode cX7_roots 88 = .ok (.bipush (-4), 2) := by decide +kernel
theorem dX7_roots_90 : decode cX7_roots 90 = .ok (.ireturn, 1) := by decide +kernel
set_option maxRecDepth 20000 in
theorem ggX7_squares_X7_isBy : GoodIn wsX7_squares wsX7_isBy := goodIn_r _ [6, 7, 8, 9, 10, 5, 11] (by decide +kernel) (by decide +kernel)
set_option maxRecDepth 20000 in
theorem gX7_squares_X7_isBy : GoodIn wsX7_squares (va_wsS RX7 68 yX7_isBy wsX7_isBy) := goodIn_app (goodIn_of _ (by decide +kernel)) ggX7_squares_X7_isBy
set_option maxRecDepth 20000 in
theorem ggX7_squares_X7_in : GoodIn wsX7_squares wsX7_in := goodIn_r _ [11] (by decide +kernel) (by decide +kernel)
set_option maxRecDepth 20000 in
theorem gX7_squares_X7_in : GoodIn wsX7_squares (va_wsS RX7 60 yX7_in wsX7_in) := goodIn_app (goodIn_of _ (by decide +kernel)) ggX7_squares_X7_in
set_option maxRecDepth 20000 in
theorem ggX7_squares_X7_isUnit : GoodIn wsX7_squares wsX7_isUnit := goodIn_r _ [14, 15, 16, 5, 17] (by decide +kernel) (by decide +kernel)
set_option maxRecDepth 20000 in
theorem gX7_squares_X7_isUnit : GoodIn wsX7_squares (va_wsS RX7 72 yX7_isUnit wsX7_isUnit) := goodIn_app (goodIn_of _ (by decide +kernel)) ggX7_squares_X7_isUnit
theorem dX7_squares_0 : decode cX7_squares 0 = .ok (.iload_n 1, 1) := by decide +kernel
theorem dX7_squares_1 : decode cX7_squares 1 = .ok (.invokestatic 68, 3) := by decide +kernel
theorem dX7_squares_4 : decode cX7_squares 4 = .ok (.ifCond .eq 15, 3) := by decide +kernel
theorem dX7_squares_7 : decode cX7_squares 7 = .ok (.iload_n 2, 1) := by decide +kernel
theorem dX7_squares_8 : decode cX7_squares 8 = .ok (.i2l, 1) := by decide +kernel
theorem dX7_squares_9 : decode cX7_squares 9 = .ok (.lconst 0, 1) := by decide +kernel
theorem dX7_squares_10 : decode cX7_squares 10 = .ok (.ldc2_w 94, 3) := by decide +kernel
theorem dX7_squares_13 : decode cX7_squares 13 = .ok (.invokestatic 60, 3) := by decide +kernel
theorem dX7_squares_16 : decode cX7_squares 16 = .ok (.ifCond .ne 5, 3) := by decide +kernel
theorem dX7_squares_19 : decode cX7_squares 19 = .ok (.iconst (-1), 1) := by decide +kernel
theorem dX7_squares_20 : decode cX7_squares 20 = .ok (.ireturn, 1) := by decide +kernel
theorem dX7_squares_21 : decode cX7_squares 21 = .ok (.iconst 0, 1) := by decide +kernel
theorem dX7_squares_22 : decode cX7_squares 22 = .ok (.istore_n 3, 1) := by decide +kernel
theorem dX7_squares_23 : decode cX7_squares 23 = .ok (.iload_n 3, 1) := by decide +kernel
theorem dX7_squares_24 : decode cX7_squares 24 = .ok (.iload_n 1, 1) := by decide +kernel
theorem dX7_squares_25 : decode cX7_squares 25 = .ok (.if_icmp .ge 16, 3) := by decide +kernel
theorem dX7_squares_28 : decode cX7_squares 28 = .ok (.aload_n 0, 1) := by decide +kernel
theorem dX7_squares_29 : decode cX7_squares 29 = .ok (.getfield 46, 3) := by decide +kernel
theorem dX7_squares_32 : decode cX7_squares 32 = .ok (.iload_n 3, 1) := by decide +kernel
theorem dX7_squares_33 : decode cX7_squares 33 = .ok (.iconst 0, 1) := by decide +kernel
theorem dX7_squares_34 : decode cX7_squares 34 = .ok (.bastore, 1) := by decide +kernel
theorem dX7_squares_35 : decode cX7_squares 35 = .ok (.iinc 3 1, 3) := by decide +kernel
theorem dX7_squares_38 : decode cX7_squares 38 = .ok (.goto (-15), 3) := by decide +kernel
theorem dX7_squares_41 : decode cX7_squares 41 = .ok (.iconst 0, 1) := by decide +kernel
theorem dX7_squares_42 : decode cX7_squares 42 = .ok (.istore_n 3, 1) := by decide +kernel
theorem dX7_squares_43 : decode cX7_squares 43 = .ok (.iload_n 3, 1) := by decide +kernel
theorem dX7_squares_44 : decode cX7_squares 44 = .ok (.iload_n 1, 1) := by decide +kernel
theorem dX7_squares_45 : decode cX7_squares 45 = .ok (.if_icmp .ge 32, 3) := by decide +kernel
theorem dX7_squares_48 : decode cX7_squares 48 = .ok (.iload_n 1, 1) := by decide +kernel
theorem dX7_squares_49 : decode cX7_squares 49 = .ok (.iload_n 3, 1) := by decide +kernel
theorem dX7_squares_50 : decode cX7_squares 50 = .ok (.invokestatic 72, 3) := by decide +kernel
theorem dX7_squares_53 : decode cX7_squares 53 = .ok (.ifCond .eq 18, 3) := by decide +kernel
theorem dX7_squares_56 : decode cX7_squares 56 = .ok (.aload_n 0, 1) := by decide +kernel
theorem dX7_squares_57 : decode cX7_squares 57 = .ok (.getfield 46, 3) := by decide +kernel
theorem dX7_squares_60 : decode cX7_squares 60 = .ok (.iload_n 3, 1) := by decide +kernel
theorem dX7_squares_61 : decode cX7_squares 61 = .ok (.i2l, 1) := by decide +kernel
theorem dX7_squares_62 : decode cX7_squares 62 = .ok (.iload_n 3, 1) := by decide +kernel
theorem dX7_squares_63 : decode cX7_squares 63 = .ok (.i2l, 1) := by decide +kernel
theorem dX7_squares_64 : decode cX7_squares 64 = .ok (.lmul, 1) := by decide +kernel
theorem dX7_squares_65 : decode cX7_squares 65 = .ok (.iload_n 1, 1) := by decide +kernel
theorem dX7_squares_66 : decode cX7_squares 66 = .ok (.i2l, 1) := by decide +kernel
theorem dX7_squares_67 : decode cX7_squares 67 = .ok (.lrem, 1) := by decide +kernel
theorem dX7_squares_68 : decode cX7_squares 68 = .ok (.l2i, 1) := by decide +kernel
theorem dX7_squares_69 : decode cX7_squares 69 = .ok (.iconst 1, 1) := by decide +kernel
theorem dX7_squares_70 : decode cX7_squares 70 = .ok (.bastore, 1) := by decide +kernel
theorem dX7_squares_71 : decode cX7_squares 71 = .ok (.iinc 3 1, 3) := by decide +kernel
theorem dX7_squares_74 : decode cX7_squares 74 = .ok (.goto (-31), 3) := by decide +kernel
theorem dX7_squares_77 : decode cX7_squares 77 = .ok (.iconst 0, 1) := by decide +kernel
theorem dX7_squares_78 : decode cX7_squares 78 = .ok (.istore_n 3, 1) := by decide +kernel
theorem dX7_squares_79 : decode cX7_squares 79 = .ok (.iconst 0, 1) := by decide +kernel
theorem dX7_squares_80 : decode cX7_squares 80 = .ok (.istore 4, 2) := by decide +kernel
theorem dX7_squares_82 : decode cX7_squares 82 = .ok (.iconst 0, 1) := by decide +kernel
theorem dX7_squares_83 : decode cX7_squares 83 = .ok (.istore 5, 2) := by decide +kernel
theorem dX7_squares_85 : decode cX7_squares 85 = .ok (.iconst 0, 1) := by decide +kernel
theorem dX7_squares_86 : decode cX7_squares 86 = .ok (.istore 6, 2) := by decide +kernel
theorem dX7_squares_88 : decode cX7_squares 88 = .ok (.bipush (-4), 2) := by decide +kernel
theorem dX7_squares_90 : decode cX7_squares 90 = .ok (.istore 7, 2) := by decide +kernel
theorem dX7_squares_92 : decode cX7_squares 92 = .ok (.iconst 0, 1) := by decide +kernel
theorem dX7_squares_93 : decode cX7_squares 93 = .ok (.istore 8, 2) := by decide +kernel
theorem dX7_squares_95 : decode cX7_squares 95 = .ok (.iload 8, 2) := by decide +kernel
theorem dX7_squares_97 : decode cX7_squares 97 = .ok (.iload_n 1, 1) := by decide +kernel
theorem dX7_squares_98 : decode cX7_squares 98 = .ok (.if_icmp .ge 100, 3) := by decide +kernel
theorem dX7_squares_101 : decode cX7_squares 101 = .ok (.iload_n 3, 1) := by decide +kernel
theorem dX7_squares_102 : decode cX7_squares 102 = .ok (.aload_n 0, 1) := by decide +kernel
theorem dX7_squares_103 : decode cX7_squares 103 = .ok (.getfield 46, 3) := by decide +kernel
theorem dX7_squares_106 : decode cX7_squares 106 = .ok (.iload 8, 2) := by decide +kernel
theorem dX7_squares_108 : decode cX7_squares 108 = .ok (.baload, 1) := by decide +kernel
theorem dX7_squares_109 : decode cX7_squares 109 = .ok (.ifCond .eq 7, 3) := by decide +kernel
theorem dX7_squares_112 : decode cX7_squares 112 = .ok (.iconst 1, 1) := by decide +kernel
theorem dX7_squares_113 : decode cX7_squares 113 = .ok (.goto 4, 3) := by decide +kernel
theorem dX7_squares_116 : decode cX7_squares 116 = .ok (.iconst 0, 1) := by decide +kernel
theorem dX7_squares_117 : decode cX7_squares 117 = .ok (.iadd, 1) := by decide +kernel
theorem dX7_squares_118 : decode cX7_squares 118 = .ok (.istore_n 3, 1) := by decide +kernel
theorem dX7_squares_119 : decode cX7_squares 119 = .ok (.aload_n 0, 1) := by decide +kernel
theorem dX7_squares_120 : decode cX7_squares 120 = .ok (.getfield 46, 3) := by decide +kernel
theorem dX7_squares_123 : decode cX7_squares 123 = .ok (.iload 8, 2) := by decide +kernel
theorem dX7_squares_125 : decode cX7_squares 125 = .ok (.baload, 1) := by decide +kernel
theorem dX7_squares_126 : decode cX7_squares 126 = .ok (.ifCond .eq 10, 3) := by decide +kernel
theorem dX7_squares_129 : decode cX7_squares 129 = .ok (.iload 4, 2) := by decide +kernel
theorem dX7_squares_131 : decode cX7_squares 131 = .ok (.iconst 1, 1) := by decide +kernel
theorem dX7_squares_132 : decode cX7_squares 132 = .ok (.iadd, 1) := by decide +kernel
theorem dX7_squares_133 : decode cX7_squares 133 = .ok (.goto 4, 3) := by decide +kernel
theorem dX7_squares_136 : decode cX7_squares 136 = .ok (.iconst 0, 1) := by decide +kernel
theorem dX7_squares_137 : decode cX7_squares 137 = .ok (.istore 4, 2) := by decide +kernel
theorem dX7_squares_139 : decode cX7_squares 139 = .ok (.iload 4, 2) := by decide +kernel
theorem dX7_squares_141 : decode cX7_squares 141 = .ok (.iload 5, 2) := by decide +kernel
theorem dX7_squares_143 : decode cX7_squares 143 = .ok (.if_icmp .le 16, 3) := by decide +kernel
theorem dX7_squares_146 : decode cX7_squares 146 = .ok (.iload 4, 2) := by decide +kernel
theorem dX7_squares_148 : decode cX7_squares 148 = .ok (.istore 5, 2) := by decide +kernel
theorem dX7_squares_150 : decode cX7_squares 150 = .ok (.iload 8, 2) := by decide +kernel
theorem dX7_squares_152 : decode cX7_squares 152 = .ok (.iload 4, 2) := by decide +kernel
theorem dX7_squares_154 : decode cX7_squares 154 = .ok (.isub, 1) := by decide +kernel
theorem dX7_squares_155 : decode cX7_squares 155 = .ok (.iconst 1, 1) := by decide +kernel
theorem dX7_squares_156 : decode cX7_squares 156 = .ok (.iadd, 1) := by decide +kernel
theorem dX7_squares_157 : decode cX7_squares 157 = .ok (.istore 6, 2) := by decide +kernel
theorem dX7_squares_159 : decode cX7_squares 159 = .ok (.iload 7, 2) := by decide +kernel
theorem dX7_squares_161 : decode cX7_squares 161 = .ok (.ifCond .ge 27, 3) := by decide +kernel
theorem dX7_squares_164 : decode cX7_squares 164 = .ok (.aload_n 0, 1) := by decide +kernel
theorem dX7_squares_165 : decode cX7_squares 165 = .ok (.getfield 46, 3) := by decide +kernel
theorem dX7_squares_168 : decode cX7_squares 168 = .ok (.iload 8, 2) := by decide +kernel
theorem dX7_squares_170 : decode cX7_squares 170 = .ok (.baload, 1) := by decide +kernel
theorem dX7_squares_171 : decode cX7_squares 171 = .ok (.ifCond .ne 17, 3) := by decide +kernel
theorem dX7_squares_174 : decode cX7_squares 174 = .ok (.iload_n 1, 1) := by decide +kernel
theorem dX7_squares_175 : decode cX7_squares 175 = .ok (.iload 8, 2) := by decide +kernel
theorem dX7_squares_177 : decode cX7_squares 177 = .ok (.invokestatic 72, 3) := by decide +kernel
theorem dX7_squares_180 : decode cX7_squares 180 = .ok (.ifCond .eq 8, 3) := by decide +kernel
theorem dX7_squares_183 : decode cX7_squares 183 = .ok (.iload 8, 2) := by decide +kernel
theorem dX7_squares_185 : decode cX7_squares 185 = .ok (.goto 5, 3) := by decide +kernel
theorem dX7_squares_188 : decode cX7_squares 188 = .ok (.iload 7, 2) := by decide +kernel
theorem dX7_squares_190 : decode cX7_squares 190 = .ok (.istore 7, 2) := by decide +kernel
theorem dX7_squares_192 : decode cX7_squares 192 = .ok (.iinc 8 1, 3) := by decide +kernel
theorem dX7_squares_195 : decode cX7_squares 195 = .ok (.goto (-100), 3) := by decide +kernel
theorem dX7_squares_198 : decode cX7_squares 198 = .ok (.iload_n 2, 1) := by decide +kernel
theorem dX7_squares_199 : decode cX7_squares 199 = .ok (.ifCond .ne 7, 3) := by decide +kernel
theorem dX7_squares_202 : decode cX7_squares 202 = .ok (.iload_n 3, 1) := by decide +kernel
theorem dX7_squares_203 : decode cX7_squares 203 = .ok (.goto 25, 3) := by decide +kernel
theorem dX7_squares_206 : decode cX7_squares 206 = .ok (.iload_n 2, 1) := by decide +kernel
theorem dX7_squares_207 : decode cX7_squares 207 = .ok (.iconst 1, 1) := by decide +kernel
theorem dX7_squares_208 : decode cX7_squares 208 = .ok (.if_icmp .ne 8, 3) := by decide +kernel
theorem dX7_squares_211 : decode cX7_squares 211 = .ok (.iload 5, 2) := by decide +kernel
theorem dX7_squares_213 : decode cX7_squares 213 = .ok (.goto 15, 3) := by decide +kernel
theorem dX7_squares_216 : decode cX7_squares 216 = .ok (.iload_n 2, 1) := by decide +kernel
theorem dX7_squares_217 : decode cX7_squares 217 = .ok (.iconst 2, 1) := by decide +kernel
theorem dX7_squares_218 : decode cX7_squares 218 = .ok (.if_icmp .ne 8, 3) := by decide +kernel
theorem dX7_squares_221 : decode cX7_squares 221 = .ok (.iload 6, 2) := by decide +kernel
theorem dX7_squares_223 : decode cX7_squares 223 = .ok (.goto 5, 3) := by decide +kernel
theorem dX7_squares_226 : decode cX7_squares 226 = .ok (.iload 7, 2) := by decide +kernel
theorem dX7_squares_228 : decode cX7_squares 228 = .ok (.ireturn, 1) := by decide +kernel
set_option maxRecDepth 20000 in
theorem ggX7_sign_X7_in : GoodIn wsX7_sign wsX7_in := goodIn_r _ [6] (by decide +kernel) (by decide +kernel)
set_option maxRecDepth 20000 in
theorem gX7_sign_X7_in : GoodIn wsX7_sign (va_wsS RX7 60 yX7_in wsX7_in) := goodIn_app (goodIn_of _ (by decide +kernel)) ggX7_sign_X7_in
set_option maxRecDepth 20000 in
theorem ggX7_sign_X7_powerOf : GoodIn wsX7_sign wsX7_powerOf := goodIn_r _ [9, 10] (by decide +kernel) (by decide +kernel)
set_option maxRecDepth 20000 in
theorem gX7_sign_X7_powerOf : GoodIn wsX7_sign (va_wsS RX7 88 yX7_powerOf wsX7_powerOf) := goodIn_app (goodIn_of _ (by decide +kernel)) ggX7_sign_X7_powerOf
theorem dX7_sign_0 : decode cX7_sign 0 = .ok (.iload_n 1, 1) := by decide +kernel
theorem dX7_sign_1 : decode cX7_sign 1 = .ok (.i2l, 1) := by decide +kernel
theorem dX7_sign_2 : decode cX7_sign 2 = .ok (.lconst 0, 1) := by decide +kernel
theorem dX7_sign_3 : decode cX7_sign 3 = .ok (.ldc2_w 96, 3) := by decide +kernel
theorem dX7_sign_6 : decode cX7_sign 6 = .ok (.invokestatic 60, 3) := by decide +kernel
theorem dX7_sign_9 : decode cX7_sign 9 = .ok (.ifCond .eq 21, 3) := by decide +kernel
theorem dX7_sign_12 : decode cX7_sign 12 = .ok (.iload_n 2, 1) := by decide +kernel
theorem dX7_sign_13 : decode cX7_sign 13 = .ok (.i2l, 1) := by decide +kernel
theorem dX7_sign_14 : decode cX7_sign 14 = .ok (.lconst 1, 1) := by decide +kernel
theorem dX7_sign_15 : decode cX7_sign 15 = .ok (.ldc2_w 98, 3) := by decide +kernel
theorem dX7_sign_18 : decode cX7_sign 18 = .ok (.invokestatic 60, 3) := by decide +kernel
theorem dX7_sign_21 : decode cX7_sign 21 = .ok (.ifCond .eq 9, 3) := by decide +kernel
theorem dX7_sign_24 : decode cX7_sign 24 = .ok (.iload_n 2, 1) := by decide +kernel
theorem dX7_sign_25 : decode cX7_sign 25 = .ok (.iconst 2, 1) := by decide +kernel
theorem dX7_sign_26 : decode cX7_sign 26 = .ok (.irem, 1) := by decide +kernel
theorem dX7_sign_27 : decode cX7_sign 27 = .ok (.ifCond .ne 6, 3) := by decide +kernel
theorem dX7_sign_30 : decode cX7_sign 30 = .ok (.bipush (-100), 2) := by decide +kernel
theorem dX7_sign_32 : decode cX7_sign 32 = .ok (.ireturn, 1) := by decide +kernel
theorem dX7_sign_33 : decode cX7_sign 33 = .ok (.iconst 1, 1) := by decide +kernel
theorem dX7_sign_34 : decode cX7_sign 34 = .ok (.istore_n 3, 1) := by decide +kernel
theorem dX7_sign_35 : decode cX7_sign 35 = .ok (.iload_n 2, 1) := by decide +kernel
theorem dX7_sign_36 : decode cX7_sign 36 = .ok (.istore 4, 2) := by decide +kernel
theorem dX7_sign_38 : decode cX7_sign 38 = .ok (.iconst 3, 1) := by decide +kernel
theorem dX7_sign_39 : decode cX7_sign 39 = .ok (.istore 5, 2) := by decide +kernel
theorem dX7_sign_41 : decode cX7_sign 41 = .ok (.iload 4, 2) := by decide +kernel
theorem dX7_sign_43 : decode cX7_sign 43 = .ok (.iconst 1, 1) := by decide +kernel
theorem dX7_sign_44 : decode cX7_sign 44 = .ok (.if_icmp .le 77, 3) := by decide +kernel
theorem dX7_sign_47 : decode cX7_sign 47 = .ok (.iload 5, 2) := by decide +kernel
theorem dX7_sign_49 : decode cX7_sign 49 = .ok (.iload 5, 2) := by decide +kernel
theorem dX7_sign_51 : decode cX7_sign 51 = .ok (.imul, 1) := by decide +kernel
theorem dX7_sign_52 : decode cX7_sign 52 = .ok (.iload 4, 2) := by decide +kernel
theorem dX7_sign_54 : decode cX7_sign 54 = .ok (.if_icmp .le 7, 3) := by decide +kernel
theorem dX7_sign_57 : decode cX7_sign 57 = .ok (.iload 4, 2) := by decide +kernel
theorem dX7_sign_59 : decode cX7_sign 59 = .ok (.istore 5, 2) := by decide +kernel
theorem dX7_sign_61 : decode cX7_sign 61 = .ok (.iload 4, 2) := by decide +kernel
theorem dX7_sign_63 : decode cX7_sign 63 = .ok (.iload 5, 2) := by decide +kernel
theorem dX7_sign_65 : decode cX7_sign 65 = .ok (.irem, 1) := by decide +kernel
theorem dX7_sign_66 : decode cX7_sign 66 = .ok (.ifCond .eq 9, 3) := by decide +kernel
theorem dX7_sign_69 : decode cX7_sign 69 = .ok (.iinc 5 2, 3) := by decide +kernel
theorem dX7_sign_72 : decode cX7_sign 72 = .ok (.goto (-31), 3) := by decide +kernel
theorem dX7_sign_75 : decode cX7_sign 75 = .ok (.iload_n 3, 1) := by decide +kernel
theorem dX7_sign_76 : decode cX7_sign 76 = .ok (.iload_n 1, 1) := by decide +kernel
theorem dX7_sign_77 : decode cX7_sign 77 = .ok (.iload 5, 2) := by decide +kernel
theorem dX7_sign_79 : decode cX7_sign 79 = .ok (.irem, 1) := by decide +kernel
theorem dX7_sign_80 : decode cX7_sign 80 = .ok (.ifCond .ne 7, 3) := by decide +kernel
theorem dX7_sign_83 : decode cX7_sign 83 = .ok (.iconst 0, 1) := by decide +kernel
theorem dX7_sign_84 : decode cX7_sign 84 = .ok (.goto 25, 3) := by decide +kernel
theorem dX7_sign_87 : decode cX7_sign 87 = .ok (.iload 5, 2) := by decide +kernel
theorem dX7_sign_89 : decode cX7_sign 89 = .ok (.iload_n 1, 1) := by decide +kernel
theorem dX7_sign_90 : decode cX7_sign 90 = .ok (.iload 5, 2) := by decide +kernel
theorem dX7_sign_92 : decode cX7_sign 92 = .ok (.iconst 1, 1) := by decide +kernel
theorem dX7_sign_93 : decode cX7_sign 93 = .ok (.isub, 1) := by decide +kernel
theorem dX7_sign_94 : decode cX7_sign 94 = .ok (.iconst 2, 1) := by decide +kernel
theorem dX7_sign_95 : decode cX7_sign 95 = .ok (.idiv, 1) := by decide +kernel
theorem dX7_sign_96 : decode cX7_sign 96 = .ok (.i2l, 1) := by decide +kernel
theorem dX7_sign_97 : decode cX7_sign 97 = .ok (.invokestatic 88, 3) := by decide +kernel
theorem dX7_sign_100 : decode cX7_sign 100 = .ok (.iconst 1, 1) := by decide +kernel
theorem dX7_sign_101 : decode cX7_sign 101 = .ok (.if_icmp .ne 7, 3) := by decide +kernel
theorem dX7_sign_104 : decode cX7_sign 104 = .ok (.iconst 1, 1) := by decide +kernel
theorem dX7_sign_105 : decode cX7_sign 105 = .ok (.goto 4, 3) := by decide +kernel
theorem dX7_sign_108 : decode cX7_sign 108 = .ok (.iconst (-1), 1) := by decide +kernel
theorem dX7_sign_109 : decode cX7_sign 109 = .ok (.imul, 1) := by decide +kernel
theorem dX7_sign_110 : decode cX7_sign 110 = .ok (.istore_n 3, 1) := by decide +kernel
theorem dX7_sign_111 : decode cX7_sign 111 = .ok (.iload 4, 2) := by decide +kernel
theorem dX7_sign_113 : decode cX7_sign 113 = .ok (.iload 5, 2) := by decide +kernel
theorem dX7_sign_115 : decode cX7_sign 115 = .ok (.idiv, 1) := by decide +kernel
theorem dX7_sign_116 : decode cX7_sign 116 = .ok (.istore 4, 2) := by decide +kernel
theorem dX7_sign_118 : decode cX7_sign 118 = .ok (.goto (-77), 3) := by decide +kernel
theorem dX7_sign_121 : decode cX7_sign 121 = .ok (.iload_n 3, 1) := by decide +kernel
theorem dX7_sign_122 : decode cX7_sign 122 = .ok (.ireturn, 1) := by decide +kernel
set_option maxRecDepth 20000 in
theorem ggX7_write_X7_in : GoodIn wsX7_write wsX7_in := goodIn_r _ [7] (by decide +kernel) (by decide +kernel)
set_option maxRecDepth 20000 in
theorem gX7_write_X7_in : GoodIn wsX7_write (va_wsS RX7 60 yX7_in wsX7_in) := goodIn_app (goodIn_of _ (by decide +kernel)) ggX7_write_X7_in
theorem dX7_write_0 : decode cX7_write 0 = .ok (.iload_n 1, 1) := by decide +kernel
theorem dX7_write_1 : decode cX7_write 1 = .ok (.i2l, 1) := by decide +kernel
theorem dX7_write_2 : decode cX7_write 2 = .ok (.lconst 1, 1) := by decide +kernel
theorem dX7_write_3 : decode cX7_write 3 = .ok (.ldc2_w 100, 3) := by decide +kernel
theorem dX7_write_6 : decode cX7_write 6 = .ok (.invokestatic 60, 3) := by decide +kernel
theorem dX7_write_9 : decode cX7_write 9 = .ok (.ifCond .ne 5, 3) := by decide +kernel
theorem dX7_write_12 : decode cX7_write 12 = .ok (.iconst (-1), 1) := by decide +kernel
theorem dX7_write_13 : decode cX7_write 13 = .ok (.ireturn, 1) := by decide +kernel
theorem dX7_write_14 : decode cX7_write 14 = .ok (.aload_n 0, 1) := by decide +kernel
theorem dX7_write_15 : decode cX7_write 15 = .ok (.getfield 102, 3) := by decide +kernel
theorem dX7_write_18 : decode cX7_write 18 = .ok (.iload_n 1, 1) := by decide +kernel
theorem dX7_write_19 : decode cX7_write 19 = .ok (.iadd, 1) := by decide +kernel
theorem dX7_write_20 : decode cX7_write 20 = .ok (.sipush 200, 3) := by decide +kernel
theorem dX7_write_23 : decode cX7_write 23 = .ok (.if_icmp .le 6, 3) := by decide +kernel
theorem dX7_write_26 : decode cX7_write 26 = .ok (.bipush (-3), 2) := by decide +kernel
theorem dX7_write_28 : decode cX7_write 28 = .ok (.ireturn, 1) := by decide +kernel
theorem dX7_write_29 : decode cX7_write 29 = .ok (.iload_n 1, 1) := by decide +kernel
theorem dX7_write_30 : decode cX7_write 30 = .ok (.iconst 1, 1) := by decide +kernel
theorem dX7_write_31 : decode cX7_write 31 = .ok (.isub, 1) := by decide +kernel
theorem dX7_write_32 : decode cX7_write 32 = .ok (.istore 4, 2) := by decide +kernel
theorem dX7_write_34 : decode cX7_write 34 = .ok (.iload 4, 2) := by decide +kernel
theorem dX7_write_36 : decode cX7_write 36 = .ok (.ifCond .lt 37, 3) := by decide +kernel
theorem dX7_write_39 : decode cX7_write 39 = .ok (.aload_n 0, 1) := by decide +kernel
theorem dX7_write_40 : decode cX7_write 40 = .ok (.getfield 7, 3) := by decide +kernel
theorem dX7_write_43 : decode cX7_write 43 = .ok (.aload_n 0, 1) := by decide +kernel
theorem dX7_write_44 : decode cX7_write 44 = .ok (.getfield 102, 3) := by decide +kernel
theorem dX7_write_47 : decode cX7_write 47 = .ok (.lload_n 2, 1) := by decide +kernel
theorem dX7_write_48 : decode cX7_write 48 = .ok (.bipush 8, 2) := by decide +kernel
theorem dX7_write_50 : decode cX7_write 50 = .ok (.iload 4, 2) := by decide +kernel
theorem dX7_write_52 : decode cX7_write 52 = .ok (.imul, 1) := by decide +kernel
theorem dX7_write_53 : decode cX7_write 53 = .ok (.lshr, 1) := by decide +kernel
theorem dX7_write_54 : decode cX7_write 54 = .ok (.l2i, 1) := by decide +kernel
theorem dX7_write_55 : decode cX7_write 55 = .ok (.i2b, 1) := by decide +kernel
theorem dX7_write_56 : decode cX7_write 56 = .ok (.bastore, 1) := by decide +kernel
theorem dX7_write_57 : decode cX7_write 57 = .ok (.aload_n 0, 1) := by decide +kernel
theorem dX7_write_58 : decode cX7_write 58 = .ok (.dup, 1) := by decide +kernel
theorem dX7_write_59 : decode cX7_write 59 = .ok (.getfield 102, 3) := by decide +kernel
theorem dX7_write_62 : decode cX7_write 62 = .ok (.iconst 1, 1) := by decide +kernel
theorem dX7_write_63 : decode cX7_write 63 = .ok (.iadd, 1) := by decide +kernel
theorem dX7_write_64 : decode cX7_write 64 = .ok (.putfield 102, 3) := by decide +kernel
theorem dX7_write_67 : decode cX7_write 67 = .ok (.iinc 4 (-1), 3) := by decide +kernel
theorem dX7_write_70 : decode cX7_write 70 = .ok (.goto (-36), 3) := by decide +kernel
theorem dX7_write_73 : decode cX7_write 73 = .ok (.aload_n 0, 1) := by decide +kernel
theorem dX7_write_74 : decode cX7_write 74 = .ok (.getfield 102, 3) := by decide +kernel
theorem dX7_write_77 : decode cX7_write 77 = .ok (.ireturn, 1) := by decide +kernel
theorem dX7_wipe_0 : decode cX7_wipe 0 = .ok (.aload_n 0, 1) := by decide +kernel
theorem dX7_wipe_1 : decode cX7_wipe 1 = .ok (.getfield 102, 3) := by decide +kernel
theorem dX7_wipe_4 : decode cX7_wipe 4 = .ok (.istore_n 1, 1) := by decide +kernel
theorem dX7_wipe_5 : decode cX7_wipe 5 = .ok (.aload_n 0, 1) := by decide +kernel
theorem dX7_wipe_6 : decode cX7_wipe 6 = .ok (.iconst 0, 1) := by decide +kernel
theorem dX7_wipe_7 : decode cX7_wipe 7 = .ok (.putfield 102, 3) := by decide +kernel
theorem dX7_wipe_10 : decode cX7_wipe 10 = .ok (.iload_n 1, 1) := by decide +kernel
theorem dX7_wipe_11 : decode cX7_wipe 11 = .ok (.ireturn, 1) := by decide +kernel
set_option maxRecDepth 20000 in
theorem ggX7_number_X7_in : GoodIn wsX7_number wsX7_in := goodIn_r _ [10] (by decide +kernel) (by decide +kernel)
set_option maxRecDepth 20000 in
theorem gX7_number_X7_in : GoodIn wsX7_number (va_wsS RX7 60 yX7_in wsX7_in) := goodIn_app (goodIn_of _ (by decide +kernel)) ggX7_number_X7_in
theorem dX7_number_0 : decode cX7_number 0 = .ok (.iconst 0, 1) := by decide +kernel
theorem dX7_number_1 : decode cX7_number 1 = .ok (.istore_n 1, 1) := by decide +kernel
theorem dX7_number_2 : decode cX7_number 2 = .ok (.iconst 0, 1) := by decide +kernel
theorem dX7_number_3 : decode cX7_number 3 = .ok (.istore_n 2, 1) := by decide +kernel
theorem dX7_number_4 : decode cX7_number 4 = .ok (.aload_n 0, 1) := by decide +kernel
theorem dX7_number_5 : decode cX7_number 5 = .ok (.getfield 105, 3) := by decide +kernel
theorem dX7_number_8 : decode cX7_number 8 = .ok (.aload_n 0, 1) := by decide +kernel
theorem dX7_number_9 : decode cX7_number 9 = .ok (.getfield 102, 3) := by decide +kernel
theorem dX7_number_12 : decode cX7_number 12 = .ok (.if_icmp .ge 68, 3) := by decide +kernel
theorem dX7_number_15 : decode cX7_number 15 = .ok (.aload_n 0, 1) := by decide +kernel
theorem dX7_number_16 : decode cX7_number 16 = .ok (.getfield 7, 3) := by decide +kernel
theorem dX7_number_19 : decode cX7_number 19 = .ok (.aload_n 0, 1) := by decide +kernel
theorem dX7_number_20 : decode cX7_number 20 = .ok (.getfield 105, 3) := by decide +kernel
theorem dX7_number_23 : decode cX7_number 23 = .ok (.baload, 1) := by decide +kernel
theorem dX7_number_24 : decode cX7_number 24 = .ok (.i2l, 1) := by decide +kernel
theorem dX7_number_25 : decode cX7_number 25 = .ok (.ldc2_w 108, 3) := by decide +kernel
theorem dX7_number_28 : decode cX7_number 28 = .ok (.ldc2_w 110, 3) := by decide +kernel
theorem dX7_number_31 : decode cX7_number 31 = .ok (.invokestatic 60, 3) := by decide +kernel
theorem dX7_number_34 : decode cX7_number 34 = .ok (.ifCond .eq 46, 3) := by decide +kernel
theorem dX7_number_37 : decode cX7_number 37 = .ok (.iload_n 2, 1) := by decide +kernel
theorem dX7_number_38 : decode cX7_number 38 = .ok (.iconst 4, 1) := by decide +kernel
theorem dX7_number_39 : decode cX7_number 39 = .ok (.if_icmp .ge 23, 3) := by decide +kernel
theorem dX7_number_42 : decode cX7_number 42 = .ok (.bipush 10, 2) := by decide +kernel
theorem dX7_number_44 : decode cX7_number 44 = .ok (.iload_n 1, 1) := by decide +kernel
theorem dX7_number_45 : decode cX7_number 45 = .ok (.imul, 1) := by decide +kernel
theorem dX7_number_46 : decode cX7_number 46 = .ok (.aload_n 0, 1) := by decide +kernel
theorem dX7_number_47 : decode cX7_number 47 = .ok (.getfield 7, 3) := by decide +kernel
theorem dX7_number_50 : decode cX7_number 50 = .ok (.aload_n 0, 1) := by decide +kernel
theorem dX7_number_51 : decode cX7_number 51 = .ok (.getfield 105, 3) := by decide +kernel
theorem dX7_number_54 : decode cX7_number 54 = .ok (.baload, 1) := by decide +kernel
theorem dX7_number_55 : decode cX7_number 55 = .ok (.iadd, 1) := by decide +kernel
theorem dX7_number_56 : decode cX7_number 56 = .ok (.bipush 48, 2) := by decide +kernel
theorem dX7_number_58 : decode cX7_number 58 = .ok (.isub, 1) := by decide +kernel
theorem dX7_number_59 : decode cX7_number 59 = .ok (.goto 4, 3) := by decide +kernel
theorem dX7_number_62 : decode cX7_number 62 = .ok (.iload_n 1, 1) := by decide +kernel
theorem dX7_number_63 : decode cX7_number 63 = .ok (.istore_n 1, 1) := by decide +kernel
theorem dX7_number_64 : decode cX7_number 64 = .ok (.iinc 2 1, 3) := by decide +kernel
theorem dX7_number_67 : decode cX7_number 67 = .ok (.aload_n 0, 1) := by decide +kernel
theorem dX7_number_68 : decode cX7_number 68 = .ok (.dup, 1) := by decide +kernel
theorem dX7_number_69 : decode cX7_number 69 = .ok (.getfield 105, 3) := by decide +kernel
theorem dX7_number_72 : decode cX7_number 72 = .ok (.iconst 1, 1) := by decide +kernel
theorem dX7_number_73 : decode cX7_number 73 = .ok (.iadd, 1) := by decide +kernel
theorem dX7_number_74 : decode cX7_number 74 = .ok (.putfield 105, 3) := by decide +kernel
theorem dX7_number_77 : decode cX7_number 77 = .ok (.goto (-73), 3) := by decide +kernel
theorem dX7_number_80 : decode cX7_number 80 = .ok (.iload_n 2, 1) := by decide +kernel
theorem dX7_number_81 : decode cX7_number 81 = .ok (.i2l, 1) := by decide +kernel
theorem dX7_number_82 : decode cX7_number 82 = .ok (.lconst 1, 1) := by decide +kernel
theorem dX7_number_83 : decode cX7_number 83 = .ok (.ldc2_w 112, 3) := by decide +kernel
theorem dX7_number_86 : decode cX7_number 86 = .ok (.invokestatic 60, 3) := by decide +kernel
theorem dX7_number_89 : decode cX7_number 89 = .ok (.ifCond .eq 7, 3) := by decide +kernel
theorem dX7_number_92 : decode cX7_number 92 = .ok (.iload_n 1, 1) := by decide +kernel
theorem dX7_number_93 : decode cX7_number 93 = .ok (.goto 4, 3) := by decide +kernel
theorem dX7_number_96 : decode cX7_number 96 = .ok (.iconst (-1), 1) := by decide +kernel
theorem dX7_number_97 : decode cX7_number 97 = .ok (.ireturn, 1) := by decide +kernel
set_option maxRecDepth 20000 in
theorem ggX7_more_X7_number : GoodIn wsX7_more wsX7_number := goodIn_r _ [8, 1, 2, 3, 9, 10, 11, 12, 13, 7, 14, 15, 16, 17, 18, 19, 20, 21, 22, 23, 24, 25, 26, 27, 28, 29, 30, 31, 32] (by decide +kernel) (by decide +kernel)
set_option maxRecDepth 20000 in
theorem gX7_more_X7_number : GoodIn wsX7_more (wsV RX7 114 RX7 yX7_number wsX7_number) := goodIn_app (goodIn_of _ (by decide +kernel)) ggX7_more_X7_number
theorem dX7_more_0 : decode cX7_more 0 = .ok (.aload_n 0, 1) := by decide +kernel
theorem dX7_more_1 : decode cX7_more 1 = .ok (.getfield 105, 3) := by decide +kernel
theorem dX7_more_4 : decode cX7_more 4 = .ok (.aload_n 0, 1) := by decide +kernel
theorem dX7_more_5 : decode cX7_more 5 = .ok (.getfield 102, 3) := by decide +kernel
theorem dX7_more_8 : decode cX7_more 8 = .ok (.if_icmp .ge 17, 3) := by decide +kernel
theorem dX7_more_11 : decode cX7_more 11 = .ok (.aload_n 0, 1) := by decide +kernel
theorem dX7_more_12 : decode cX7_more 12 = .ok (.getfield 7, 3) := by decide +kernel
theorem dX7_more_15 : decode cX7_more 15 = .ok (.aload_n 0, 1) := by decide +kernel
theorem dX7_more_16 : decode cX7_more 16 = .ok (.getfield 105, 3) := by decide +kernel
theorem dX7_more_19 : decode cX7_more 19 = .ok (.baload, 1) := by decide +kernel
theorem dX7_more_20 : decode cX7_more 20 = .ok (.bipush 44, 2) := by decide +kernel
theorem dX7_more_22 : decode cX7_more 22 = .ok (.if_icmp .eq 5, 3) := by decide +kernel
theorem dX7_more_25 : decode cX7_more 25 = .ok (.iconst (-1), 1) := by decide +kernel
theorem dX7_more_26 : decode cX7_more 26 = .ok (.ireturn, 1) := by decide +kernel
theorem dX7_more_27 : decode cX7_more 27 = .ok (.aload_n 0, 1) := by decide +kernel
theorem dX7_more_28 : decode cX7_more 28 = .ok (.dup, 1) := by decide +kernel
theorem dX7_more_29 : decode cX7_more 29 = .ok (.getfield 105, 3) := by decide +kernel
theorem dX7_more_32 : decode cX7_more 32 = .ok (.iconst 1, 1) := by decide +kernel
theorem dX7_more_33 : decode cX7_more 33 = .ok (.iadd, 1) := by decide +kernel
theorem dX7_more_34 : decode cX7_more 34 = .ok (.putfield 105, 3) := by decide +kernel
theorem dX7_more_37 : decode cX7_more 37 = .ok (.aload_n 0, 1) := by decide +kernel
theorem dX7_more_38 : decode cX7_more 38 = .ok (.invokevirtual 114, 3) := by decide +kernel
theorem dX7_more_41 : decode cX7_more 41 = .ok (.ireturn, 1) := by decide +kernel
set_option maxRecDepth 20000 in
theorem ggX7_isItem_X7_number : GoodIn wsX7_isItem wsX7_number := goodIn_r _ [16, 2, 7, 1, 17, 18, 19, 20, 21, 15, 22, 27, 28, 29, 30, 31, 32, 33, 34, 35, 36, 37, 38, 39, 40, 41, 42, 43, 44] (by decide +kernel) (by decide +kernel)
set_option maxRecDepth 20000 in
theorem gX7_isItem_X7_number : GoodIn wsX7_isItem (wsV RX7 114 RX7 yX7_number wsX7_number) := goodIn_app (goodIn_of _ (by decide +kernel)) ggX7_isItem_X7_number
set_option maxRecDepth 20000 in
theorem ggX7_isItem_X7_more : GoodIn wsX7_isItem wsX7_more := goodIn_r _ [26, 2, 7, 1, 12, 13, 14, 15, 16, 17, 18, 19, 20, 21, 22, 27, 28, 29, 30, 31, 32, 33, 34, 35, 36, 37, 38, 39, 40, 41, 42, 43, 44] (by decide +kernel) (by decide +kernel)
set_option maxRecDepth 20000 in
theorem gX7_isItem_X7_more : GoodIn wsX7_isItem (wsV RX7 121 RX7 yX7_more wsX7_more) := goodIn_app (goodIn_of _ (by decide +kernel)) ggX7_isItem_X7_more
set_option maxRecDepth 20000 in
theorem ggX7_isItem_X7_in : GoodIn wsX7_isItem wsX7_in := goodIn_r _ [22] (by decide +kernel) (by decide +kernel)
set_option maxRecDepth 20000 in
theorem gX7_isItem_X7_in : GoodIn wsX7_isItem (va_wsS RX7 60 yX7_in wsX7_in) := goodIn_app (goodIn_of _ (by decide +kernel)) ggX7_isItem_X7_in
theorem dX7_isItem_0 : decode cX7_isItem 0 = .ok (.aload_n 0, 1) := by decide +kernel
theorem dX7_isItem_1 : decode cX7_isItem 1 = .ok (.getfield 7, 3) := by decide +kernel
theorem dX7_isItem_4 : decode cX7_isItem 4 = .ok (.aload_n 0, 1) := by decide +kernel
theorem dX7_isItem_5 : decode cX7_isItem 5 = .ok (.getfield 105, 3) := by decide +kernel
theorem dX7_isItem_8 : decode cX7_isItem 8 = .ok (.baload, 1) := by decide +kernel
theorem dX7_isItem_9 : decode cX7_isItem 9 = .ok (.istore_n 1, 1) := by decide +kernel
theorem dX7_isItem_10 : decode cX7_isItem 10 = .ok (.aload_n 0, 1) := by decide +kernel
theorem dX7_isItem_11 : decode cX7_isItem 11 = .ok (.dup, 1) := by decide +kernel
theorem dX7_isItem_12 : decode cX7_isItem 12 = .ok (.getfield 105, 3) := by decide +kernel
theorem dX7_isItem_15 : decode cX7_isItem 15 = .ok (.iconst 1, 1) := by decide +kernel
theorem dX7_isItem_16 : decode cX7_isItem 16 = .ok (.iadd, 1) := by decide +kernel
theorem dX7_isItem_17 : decode cX7_isItem 17 = .ok (.putfield 105, 3) := by decide +kernel
theorem dX7_isItem_20 : decode cX7_isItem 20 = .ok (.aload_n 0, 1) := by decide +kernel
theorem dX7_isItem_21 : decode cX7_isItem 21 = .ok (.getfield 118, 3) := by decide +kernel
theorem dX7_isItem_24 : decode cX7_isItem 24 = .ok (.bipush 8, 2) := by decide +kernel
theorem dX7_isItem_26 : decode cX7_isItem 26 = .ok (.if_icmp .eq 27, 3) := by decide +kernel
theorem dX7_isItem_29 : decode cX7_isItem 29 = .ok (.iload_n 1, 1) := by decide +kernel
theorem dX7_isItem_30 : decode cX7_isItem 30 = .ok (.bipush 108, 2) := by decide +kernel
theorem dX7_isItem_32 : decode cX7_isItem 32 = .ok (.if_icmp .eq 23, 3) := by decide +kernel
theorem dX7_isItem_35 : decode cX7_isItem 35 = .ok (.iload_n 1, 1) := by decide +kernel
theorem dX7_isItem_36 : decode cX7_isItem 36 = .ok (.bipush 112, 2) := by decide +kernel
theorem dX7_isItem_38 : decode cX7_isItem 38 = .ok (.if_icmp .eq 17, 3) := by decide +kernel
theorem dX7_isItem_41 : decode cX7_isItem 41 = .ok (.iload_n 1, 1) := by decide +kernel
theorem dX7_isItem_42 : decode cX7_isItem 42 = .ok (.bipush 110, 2) := by decide +kernel
theorem dX7_isItem_44 : decode cX7_isItem 44 = .ok (.if_icmp .eq 11, 3) := by decide +kernel
theorem dX7_isItem_47 : decode cX7_isItem 47 = .ok (.iload_n 1, 1) := by decide +kernel
theorem dX7_isItem_48 : decode cX7_isItem 48 = .ok (.bipush 98, 2) := by decide +kernel
theorem dX7_isItem_50 : decode cX7_isItem 50 = .ok (.if_icmp .eq 5, 3) := by decide +kernel
theorem dX7_isItem_53 : decode cX7_isItem 53 = .ok (.iconst 0, 1) := by decide +kernel
theorem dX7_isItem_54 : decode cX7_isItem 54 = .ok (.ireturn, 1) := by decide +kernel
theorem dX7_isItem_55 : decode cX7_isItem 55 = .ok (.aload_n 0, 1) := by decide +kernel
theorem dX7_isItem_56 : decode cX7_isItem 56 = .ok (.invokevirtual 114, 3) := by decide +kernel
theorem dX7_isItem_59 : decode cX7_isItem 59 = .ok (.istore_n 2, 1) := by decide +kernel
theorem dX7_isItem_60 : decode cX7_isItem 60 = .ok (.iload_n 1, 1) := by decide +kernel
theorem dX7_isItem_61 : decode cX7_isItem 61 = .ok (.bipush 110, 2) := by decide +kernel
theorem dX7_isItem_63 : decode cX7_isItem 63 = .ok (.if_icmp .ne 7, 3) := by decide +kernel
theorem dX7_isItem_66 : decode cX7_isItem 66 = .ok (.iload_n 2, 1) := by decide +kernel
theorem dX7_isItem_67 : decode cX7_isItem 67 = .ok (.goto 7, 3) := by decide +kernel
theorem dX7_isItem_70 : decode cX7_isItem 70 = .ok (.aload_n 0, 1) := by decide +kernel
theorem dX7_isItem_71 : decode cX7_isItem 71 = .ok (.invokevirtual 121, 3) := by decide +kernel
theorem dX7_isItem_74 : decode cX7_isItem 74 = .ok (.istore_n 3, 1) := by decide +kernel
theorem dX7_isItem_75 : decode cX7_isItem 75 = .ok (.aload_n 0, 1) := by decide +kernel
theorem dX7_isItem_76 : decode cX7_isItem 76 = .ok (.invokevirtual 121, 3) := by decide +kernel
theorem dX7_isItem_79 : decode cX7_isItem 79 = .ok (.istore 4, 2) := by decide +kernel
theorem dX7_isItem_81 : decode cX7_isItem 81 = .ok (.iload_n 2, 1) := by decide +kernel
theorem dX7_isItem_82 : decode cX7_isItem 82 = .ok (.ifCond .lt 36, 3) := by decide +kernel
theorem dX7_isItem_85 : decode cX7_isItem 85 = .ok (.iload 4, 2) := by decide +kernel
theorem dX7_isItem_87 : decode cX7_isItem 87 = .ok (.i2l, 1) := by decide +kernel
theorem dX7_isItem_88 : decode cX7_isItem 88 = .ok (.ldc2_w 56, 3) := by decide +kernel
theorem dX7_isItem_91 : decode cX7_isItem 91 = .ok (.ldc2_w 124, 3) := by decide +kernel
theorem dX7_isItem_94 : decode cX7_isItem 94 = .ok (.invokestatic 60, 3) := by decide +kernel
theorem dX7_isItem_97 : decode cX7_isItem 97 = .ok (.ifCond .eq 21, 3) := by decide +kernel
theorem dX7_isItem_100 : decode cX7_isItem 100 = .ok (.iload_n 3, 1) := by decide +kernel
theorem dX7_isItem_101 : decode cX7_isItem 101 = .ok (.i2l, 1) := by decide +kernel
theorem dX7_isItem_102 : decode cX7_isItem 102 = .ok (.lconst 0, 1) := by decide +kernel
theorem dX7_isItem_103 : decode cX7_isItem 103 = .ok (.iload 4, 2) := by decide +kernel
theorem dX7_isItem_105 : decode cX7_isItem 105 = .ok (.iconst 1, 1) := by decide +kernel
theorem dX7_isItem_106 : decode cX7_isItem 106 = .ok (.isub, 1) := by decide +kernel
theorem dX7_isItem_107 : decode cX7_isItem 107 = .ok (.i2l, 1) := by decide +kernel
theorem dX7_isItem_108 : decode cX7_isItem 108 = .ok (.invokestatic 60, 3) := by decide +kernel
theorem dX7_isItem_111 : decode cX7_isItem 111 = .ok (.ifCond .eq 7, 3) := by decide +kernel
theorem dX7_isItem_114 : decode cX7_isItem 114 = .ok (.iconst 1, 1) := by decide +kernel
theorem dX7_isItem_115 : decode cX7_isItem 115 = .ok (.goto 4, 3) := by decide +kernel
theorem dX7_isItem_118 : decode cX7_isItem 118 = .ok (.iconst 0, 1) := by decide +kernel
theorem dX7_isItem_119 : decode cX7_isItem 119 = .ok (.istore 5, 2) := by decide +kernel
theorem dX7_isItem_121 : decode cX7_isItem 121 = .ok (.iload 5, 2) := by decide +kernel
theorem dX7_isItem_123 : decode cX7_isItem 123 = .ok (.ifCond .eq 48, 3) := by decide +kernel
theorem dX7_isItem_126 : decode cX7_isItem 126 = .ok (.iload_n 1, 1) := by decide +kernel
theorem dX7_isItem_127 : decode cX7_isItem 127 = .ok (.bipush 112, 2) := by decide +kernel
theorem dX7_isItem_129 : decode cX7_isItem 129 = .ok (.if_icmp .ne 18, 3) := by decide +kernel
theorem dX7_isItem_132 : decode cX7_isItem 132 = .ok (.iload_n 2, 1) := by decide +kernel
theorem dX7_isItem_133 : decode cX7_isItem 133 = .ok (.i2l, 1) := by decide +kernel
theorem dX7_isItem_134 : decode cX7_isItem 134 = .ok (.lconst 1, 1) := by decide +kernel
theorem dX7_isItem_135 : decode cX7_isItem 135 = .ok (.ldc2_w 126, 3) := by decide +kernel
theorem dX7_isItem_138 : decode cX7_isItem 138 = .ok (.invokestatic 60, 3) := by decide +kernel
theorem dX7_isItem_141 : decode cX7_isItem 141 = .ok (.ifCond .eq 30, 3) := by decide +kernel
theorem dX7_isItem_144 : decode cX7_isItem 144 = .ok (.goto 23, 3) := by decide +kernel
theorem dX7_isItem_147 : decode cX7_isItem 147 = .ok (.iload_n 1, 1) := by decide +kernel
theorem dX7_isItem_148 : decode cX7_isItem 148 = .ok (.bipush 98, 2) := by decide +kernel
theorem dX7_isItem_150 : decode cX7_isItem 150 = .ok (.if_icmp .ne 11, 3) := by decide +kernel
theorem dX7_isItem_153 : decode cX7_isItem 153 = .ok (.iload_n 2, 1) := by decide +kernel
theorem dX7_isItem_154 : decode cX7_isItem 154 = .ok (.iload_n 3, 1) := by decide +kernel
theorem dX7_isItem_155 : decode cX7_isItem 155 = .ok (.if_icmp .gt 16, 3) := by decide +kernel
theorem dX7_isItem_158 : decode cX7_isItem 158 = .ok (.goto 9, 3) := by decide +kernel
theorem dX7_isItem_161 : decode cX7_isItem 161 = .ok (.iload_n 2, 1) := by decide +kernel
theorem dX7_isItem_162 : decode cX7_isItem 162 = .ok (.iload 4, 2) := by decide +kernel
theorem dX7_isItem_164 : decode cX7_isItem 164 = .ok (.if_icmp .ge 7, 3) := by decide +kernel
theorem dX7_isItem_167 : decode cX7_isItem 167 = .ok (.iconst 1, 1) := by decide +kernel
theorem dX7_isItem_168 : decode cX7_isItem 168 = .ok (.goto 4, 3) := by decide +kernel
theorem dX7_isItem_171 : decode cX7_isItem 171 = .ok (.iconst 0, 1) := by decide +kernel
theorem dX7_isItem_172 : decode cX7_isItem 172 = .ok (.istore 5, 2) := by decide +kernel
theorem dX7_isItem_174 : decode cX7_isItem 174 = .ok (.iload 5, 2) := by decide +kernel
theorem dX7_isItem_176 : decode cX7_isItem 176 = .ok (.ifCond .eq 28, 3) := by decide +kernel
theorem dX7_isItem_179 : decode cX7_isItem 179 = .ok (.aload_n 0, 1) := by decide +kernel
theorem dX7_isItem_180 : decode cX7_isItem 180 = .ok (.getfield 105, 3) := by decide +kernel
theorem dX7_isItem_183 : decode cX7_isItem 183 = .ok (.aload_n 0, 1) := by decide +kernel
theorem dX7_isItem_184 : decode cX7_isItem 184 = .ok (.getfield 102, 3) := by decide +kernel
theorem dX7_isItem_187 : decode cX7_isItem 187 = .ok (.if_icmp .ge 17, 3) := by decide +kernel
theorem dX7_isItem_190 : decode cX7_isItem 190 = .ok (.aload_n 0, 1) := by decide +kernel
theorem dX7_isItem_191 : decode cX7_isItem 191 = .ok (.getfield 7, 3) := by decide +kernel
theorem dX7_isItem_194 : decode cX7_isItem 194 = .ok (.aload_n 0, 1) := by decide +kernel
theorem dX7_isItem_195 : decode cX7_isItem 195 = .ok (.getfield 105, 3) := by decide +kernel
theorem dX7_isItem_198 : decode cX7_isItem 198 = .ok (.baload, 1) := by decide +kernel
theorem dX7_isItem_199 : decode cX7_isItem 199 = .ok (.bipush 59, 2) := by decide +kernel
theorem dX7_isItem_201 : decode cX7_isItem 201 = .ok (.if_icmp .eq 5, 3) := by decide +kernel
theorem dX7_isItem_204 : decode cX7_isItem 204 = .ok (.iconst 0, 1) := by decide +kernel
theorem dX7_isItem_205 : decode cX7_isItem 205 = .ok (.ireturn, 1) := by decide +kernel
theorem dX7_isItem_206 : decode cX7_isItem 206 = .ok (.aload_n 0, 1) := by decide +kernel
theorem dX7_isItem_207 : decode cX7_isItem 207 = .ok (.dup, 1) := by decide +kernel
theorem dX7_isItem_208 : decode cX7_isItem 208 = .ok (.getfield 105, 3) := by decide +kernel
theorem dX7_isItem_211 : decode cX7_isItem 211 = .ok (.iconst 1, 1) := by decide +kernel
theorem dX7_isItem_212 : decode cX7_isItem 212 = .ok (.iadd, 1) := by decide +kernel
theorem dX7_isItem_213 : decode cX7_isItem 213 = .ok (.putfield 105, 3) := by decide +kernel
theorem dX7_isItem_216 : decode cX7_isItem 216 = .ok (.aload_n 0, 1) := by decide +kernel
theorem dX7_isItem_217 : decode cX7_isItem 217 = .ok (.getfield 30, 3) := by decide +kernel
theorem dX7_isItem_220 : decode cX7_isItem 220 = .ok (.aload_n 0, 1) := by decide +kernel
theorem dX7_isItem_221 : decode cX7_isItem 221 = .ok (.getfield 118, 3) := by decide +kernel
theorem dX7_isItem_224 : decode cX7_isItem 224 = .ok (.iload_n 1, 1) := by decide +kernel
theorem dX7_isItem_225 : decode cX7_isItem 225 = .ok (.iastore, 1) := by decide +kernel
theorem dX7_isItem_226 : decode cX7_isItem 226 = .ok (.aload_n 0, 1) := by decide +kernel
theorem dX7_isItem_227 : decode cX7_isItem 227 = .ok (.getfield 33, 3) := by decide +kernel
theorem dX7_isItem_230 : decode cX7_isItem 230 = .ok (.aload_n 0, 1) := by decide +kernel
theorem dX7_isItem_231 : decode cX7_isItem 231 = .ok (.getfield 118, 3) := by decide +kernel
theorem dX7_isItem_234 : decode cX7_isItem 234 = .ok (.iload_n 2, 1) := by decide +kernel
theorem dX7_isItem_235 : decode cX7_isItem 235 = .ok (.iastore, 1) := by decide +kernel
theorem dX7_isItem_236 : decode cX7_isItem 236 = .ok (.aload_n 0, 1) := by decide +kernel
theorem dX7_isItem_237 : decode cX7_isItem 237 = .ok (.getfield 36, 3) := by decide +kernel
theorem dX7_isItem_240 : decode cX7_isItem 240 = .ok (.aload_n 0, 1) := by decide +kernel
theorem dX7_isItem_241 : decode cX7_isItem 241 = .ok (.getfield 118, 3) := by decide +kernel
theorem dX7_isItem_244 : decode cX7_isItem 244 = .ok (.iload_n 3, 1) := by decide +kernel
theorem dX7_isItem_245 : decode cX7_isItem 245 = .ok (.iastore, 1) := by decide +kernel
theorem dX7_isItem_246 : decode cX7_isItem 246 = .ok (.aload_n 0, 1) := by decide +kernel
theorem dX7_isItem_247 : decode cX7_isItem 247 = .ok (.getfield 39, 3) := by decide +kernel
theorem dX7_isItem_250 : decode cX7_isItem 250 = .ok (.aload_n 0, 1) := by decide +kernel
theorem dX7_isItem_251 : decode cX7_isItem 251 = .ok (.getfield 118, 3) := by decide +kernel
theorem dX7_isItem_254 : decode cX7_isItem 254 = .ok (.iload 4, 2) := by decide +kernel
theorem dX7_isItem_256 : decode cX7_isItem 256 = .ok (.iastore, 1) := by decide +kernel
theorem dX7_isItem_257 : decode cX7_isItem 257 = .ok (.aload_n 0, 1) := by decide +kernel
theorem dX7_isItem_258 : decode cX7_isItem 258 = .ok (.dup, 1) := by decide +kernel
theorem dX7_isItem_259 : decode cX7_isItem 259 = .ok (.getfield 118, 3) := by decide +kernel
theorem dX7_isItem_262 : decode cX7_isItem 262 = .ok (.iconst 1, 1) := by decide +kernel
theorem dX7_isItem_263 : decode cX7_isItem 263 = .ok (.iadd, 1) := by decide +kernel
theorem dX7_isItem_264 : decode cX7_isItem 264 = .ok (.putfield 118, 3) := by decide +kernel
theorem dX7_isItem_267 : decode cX7_isItem 267 = .ok (.iconst 1, 1) := by decide +kernel
theorem dX7_isItem_268 : decode cX7_isItem 268 = .ok (.ireturn, 1) := by decide +kernel
set_option maxRecDepth 20000 in
theorem ggX7_fault_X7_isItem : GoodIn wsX7_fault wsX7_isItem := goodIn_r _ [8, 9, 1, 2, 10, 11, 12, 3, 13, 14, 15, 16, 17, 18, 19, 7, 20, 21, 22, 23, 24, 25, 26, 27, 28, 29, 30, 31, 32, 33, 34, 35, 36, 37, 38, 39, 40, 41, 42, 43, 44, 45, 46, 47, 48] (by decide +kernel) (by decide +kernel)
set_option maxRecDepth 20000 in
theorem gX7_fault_X7_isItem : GoodIn wsX7_fault (wsV RX7 128 RX7 yX7_isItem wsX7_isItem) := goodIn_app (goodIn_of _ (by decide +kernel)) ggX7_fault_X7_isItem
theorem dX7_fault_0 : decode cX7_fault 0 = .ok (.aload_n 0, 1) := by decide +kernel
theorem dX7_fault_1 : decode cX7_fault 1 = .ok (.iconst 0, 1) := by decide +kernel
theorem dX7_fault_2 : decode cX7_fault 2 = .ok (.putfield 105, 3) := by decide +kernel
theorem dX7_fault_5 : decode cX7_fault 5 = .ok (.aload_n 0, 1) := by decide +kernel
theorem dX7_fault_6 : decode cX7_fault 6 = .ok (.iconst 0, 1) := by decide +kernel
theorem dX7_fault_7 : decode cX7_fault 7 = .ok (.putfield 118, 3) := by decide +kernel
theorem dX7_fault_10 : decode cX7_fault 10 = .ok (.aload_n 0, 1) := by decide +kernel
theorem dX7_fault_11 : decode cX7_fault 11 = .ok (.getfield 105, 3) := by decide +kernel
theorem dX7_fault_14 : decode cX7_fault 14 = .ok (.aload_n 0, 1) := by decide +kernel
theorem dX7_fault_15 : decode cX7_fault 15 = .ok (.getfield 102, 3) := by decide +kernel
theorem dX7_fault_18 : decode cX7_fault 18 = .ok (.if_icmp .ge 20, 3) := by decide +kernel
theorem dX7_fault_21 : decode cX7_fault 21 = .ok (.aload_n 0, 1) := by decide +kernel
theorem dX7_fault_22 : decode cX7_fault 22 = .ok (.getfield 105, 3) := by decide +kernel
theorem dX7_fault_25 : decode cX7_fault 25 = .ok (.istore_n 1, 1) := by decide +kernel
theorem dX7_fault_26 : decode cX7_fault 26 = .ok (.aload_n 0, 1) := by decide +kernel
theorem dX7_fault_27 : decode cX7_fault 27 = .ok (.invokevirtual 128, 3) := by decide +kernel
theorem dX7_fault_30 : decode cX7_fault 30 = .ok (.ifCond .ne 5, 3) := by decide +kernel
theorem dX7_fault_33 : decode cX7_fault 33 = .ok (.iload_n 1, 1) := by decide +kernel
theorem dX7_fault_34 : decode cX7_fault 34 = .ok (.ireturn, 1) := by decide +kernel
theorem dX7_fault_35 : decode cX7_fault 35 = .ok (.goto (-25), 3) := by decide +kernel
theorem dX7_fault_38 : decode cX7_fault 38 = .ok (.bipush (-4), 2) := by decide +kernel
theorem dX7_fault_40 : decode cX7_fault 40 = .ok (.ireturn, 1) := by decide +kernel
set_option maxRecDepth 20000 in
theorem ggX7_lay_X7_fault : GoodIn wsX7_lay wsX7_fault := goodIn_r _ [17, 18, 1, 19, 20, 21, 22, 16, 23, 24, 25, 26, 27, 7, 9, 11, 2, 28, 29, 30, 31, 32, 33, 34, 35, 36, 37, 38, 39, 40, 41, 45, 46, 47, 48, 49, 50, 51, 52, 53, 54, 55, 56, 57, 58, 59, 60, 61, 62] (by decide +kernel) (by decide +kernel)
set_option maxRecDepth 20000 in
theorem gX7_lay_X7_fault : GoodIn wsX7_lay (wsV RX7 132 RX7 yX7_fault wsX7_fault) := goodIn_app (goodIn_of _ (by decide +kernel)) ggX7_lay_X7_fault
set_option maxRecDepth 20000 in
theorem ggX7_lay_X7_common : GoodIn wsX7_lay wsX7_common := goodIn_r _ [44] (by decide +kernel) (by decide +kernel)
set_option maxRecDepth 20000 in
theorem gX7_lay_X7_common : GoodIn wsX7_lay (va_wsS RX7 64 yX7_common wsX7_common) := goodIn_app (goodIn_of _ (by decide +kernel)) ggX7_lay_X7_common
theorem dX7_lay_0 : decode cX7_lay 0 = .ok (.aload_n 0, 1) := by decide +kernel
theorem dX7_lay_1 : decode cX7_lay 1 = .ok (.invokevirtual 132, 3) := by decide +kernel
theorem dX7_lay_4 : decode cX7_lay 4 = .ok (.bipush (-4), 2) := by decide +kernel
theorem dX7_lay_6 : decode cX7_lay 6 = .ok (.if_icmp .eq 6, 3) := by decide +kernel
theorem dX7_lay_9 : decode cX7_lay 9 = .ok (.bipush (-2), 2) := by decide +kernel
theorem dX7_lay_11 : decode cX7_lay 11 = .ok (.ireturn, 1) := by decide +kernel
theorem dX7_lay_12 : decode cX7_lay 12 = .ok (.iconst 1, 1) := by decide +kernel
theorem dX7_lay_13 : decode cX7_lay 13 = .ok (.istore_n 1, 1) := by decide +kernel
theorem dX7_lay_14 : decode cX7_lay 14 = .ok (.iconst 0, 1) := by decide +kernel
theorem dX7_lay_15 : decode cX7_lay 15 = .ok (.istore_n 2, 1) := by decide +kernel
theorem dX7_lay_16 : decode cX7_lay 16 = .ok (.iload_n 2, 1) := by decide +kernel
theorem dX7_lay_17 : decode cX7_lay 17 = .ok (.aload_n 0, 1) := by decide +kernel
theorem dX7_lay_18 : decode cX7_lay 18 = .ok (.getfield 118, 3) := by decide +kernel
theorem dX7_lay_21 : decode cX7_lay 21 = .ok (.if_icmp .ge 46, 3) := by decide +kernel
theorem dX7_lay_24 : decode cX7_lay 24 = .ok (.iload_n 1, 1) := by decide +kernel
theorem dX7_lay_25 : decode cX7_lay 25 = .ok (.i2l, 1) := by decide +kernel
theorem dX7_lay_26 : decode cX7_lay 26 = .ok (.iload_n 1, 1) := by decide +kernel
theorem dX7_lay_27 : decode cX7_lay 27 = .ok (.aload_n 0, 1) := by decide +kernel
theorem dX7_lay_28 : decode cX7_lay 28 = .ok (.getfield 39, 3) := by decide +kernel
theorem dX7_lay_31 : decode cX7_lay 31 = .ok (.iload_n 2, 1) := by decide +kernel
theorem dX7_lay_32 : decode cX7_lay 32 = .ok (.iaload, 1) := by decide +kernel
theorem dX7_lay_33 : decode cX7_lay 33 = .ok (.invokestatic 64, 3) := by decide +kernel
theorem dX7_lay_36 : decode cX7_lay 36 = .ok (.i2l, 1) := by decide +kernel
theorem dX7_lay_37 : decode cX7_lay 37 = .ok (.ldiv, 1) := by decide +kernel
theorem dX7_lay_38 : decode cX7_lay 38 = .ok (.aload_n 0, 1) := by decide +kernel
theorem dX7_lay_39 : decode cX7_lay 39 = .ok (.getfield 39, 3) := by decide +kernel
theorem dX7_lay_42 : decode cX7_lay 42 = .ok (.iload_n 2, 1) := by decide +kernel
theorem dX7_lay_43 : decode cX7_lay 43 = .ok (.iaload, 1) := by decide +kernel
theorem dX7_lay_44 : decode cX7_lay 44 = .ok (.i2l, 1) := by decide +kernel
theorem dX7_lay_45 : decode cX7_lay 45 = .ok (.lmul, 1) := by decide +kernel
theorem dX7_lay_46 : decode cX7_lay 46 = .ok (.lstore_n 3, 1) := by decide +kernel
theorem dX7_lay_47 : decode cX7_lay 47 = .ok (.lload_n 3, 1) := by decide +kernel
theorem dX7_lay_48 : decode cX7_lay 48 = .ok (.ldc2_w 135, 3) := by decide +kernel
theorem dX7_lay_51 : decode cX7_lay 51 = .ok (.lcmp, 1) := by decide +kernel
theorem dX7_lay_52 : decode cX7_lay 52 = .ok (.ifCond .le 6, 3) := by decide +kernel
theorem dX7_lay_55 : decode cX7_lay 55 = .ok (.bipush (-2), 2) := by decide +kernel
theorem dX7_lay_57 : decode cX7_lay 57 = .ok (.ireturn, 1) := by decide +kernel
theorem dX7_lay_58 : decode cX7_lay 58 = .ok (.lload_n 3, 1) := by decide +kernel
theorem dX7_lay_59 : decode cX7_lay 59 = .ok (.l2i, 1) := by decide +kernel
theorem dX7_lay_60 : decode cX7_lay 60 = .ok (.istore_n 1, 1) := by decide +kernel
theorem dX7_lay_61 : decode cX7_lay 61 = .ok (.iinc 2 1, 3) := by decide +kernel
theorem dX7_lay_64 : decode cX7_lay 64 = .ok (.goto (-48), 3) := by decide +kernel
theorem dX7_lay_67 : decode cX7_lay 67 = .ok (.aload_n 0, 1) := by decide +kernel
theorem dX7_lay_68 : decode cX7_lay 68 = .ok (.iload_n 1, 1) := by decide +kernel
theorem dX7_lay_69 : decode cX7_lay 69 = .ok (.putfield 13, 3) := by decide +kernel
theorem dX7_lay_72 : decode cX7_lay 72 = .ok (.aload_n 0, 1) := by decide +kernel
theorem dX7_lay_73 : decode cX7_lay 73 = .ok (.aload_n 0, 1) := by decide +kernel
theorem dX7_lay_74 : decode cX7_lay 74 = .ok (.getfield 118, 3) := by decide +kernel
theorem dX7_lay_77 : decode cX7_lay 77 = .ok (.putfield 137, 3) := by decide +kernel
theorem dX7_lay_80 : decode cX7_lay 80 = .ok (.iconst 0, 1) := by decide +kernel
theorem dX7_lay_81 : decode cX7_lay 81 = .ok (.istore_n 2, 1) := by decide +kernel
theorem dX7_lay_82 : decode cX7_lay 82 = .ok (.iload_n 2, 1) := by decide +kernel
theorem dX7_lay_83 : decode cX7_lay 83 = .ok (.aload_n 0, 1) := by decide +kernel
theorem dX7_lay_84 : decode cX7_lay 84 = .ok (.getfield 137, 3) := by decide +kernel
theorem dX7_lay_87 : decode cX7_lay 87 = .ok (.if_icmp .ge 57, 3) := by decide +kernel
theorem dX7_lay_90 : decode cX7_lay 90 = .ok (.aload_n 0, 1) := by decide +kernel
theorem dX7_lay_91 : decode cX7_lay 91 = .ok (.getfield 17, 3) := by decide +kernel
theorem dX7_lay_94 : decode cX7_lay 94 = .ok (.iload_n 2, 1) := by decide +kernel
theorem dX7_lay_95 : decode cX7_lay 95 = .ok (.aload_n 0, 1) := by decide +kernel
theorem dX7_lay_96 : decode cX7_lay 96 = .ok (.getfield 30, 3) := by decide +kernel
theorem dX7_lay_99 : decode cX7_lay 99 = .ok (.iload_n 2, 1) := by decide +kernel
theorem dX7_lay_100 : decode cX7_lay 100 = .ok (.iaload, 1) := by decide +kernel
theorem dX7_lay_101 : decode cX7_lay 101 = .ok (.iastore, 1) := by decide +kernel
theorem dX7_lay_102 : decode cX7_lay 102 = .ok (.aload_n 0, 1) := by decide +kernel
theorem dX7_lay_103 : decode cX7_lay 103 = .ok (.getfield 21, 3) := by decide +kernel
theorem dX7_lay_106 : decode cX7_lay 106 = .ok (.iload_n 2, 1) := by decide +kernel
theorem dX7_lay_107 : decode cX7_lay 107 = .ok (.aload_n 0, 1) := by decide +kernel
theorem dX7_lay_108 : decode cX7_lay 108 = .ok (.getfield 33, 3) := by decide +kernel
theorem dX7_lay_111 : decode cX7_lay 111 = .ok (.iload_n 2, 1) := by decide +kernel
theorem dX7_lay_112 : decode cX7_lay 112 = .ok (.iaload, 1) := by decide +kernel
theorem dX7_lay_113 : decode cX7_lay 113 = .ok (.iastore, 1) := by decide +kernel
theorem dX7_lay_114 : decode cX7_lay 114 = .ok (.aload_n 0, 1) := by decide +kernel
theorem dX7_lay_115 : decode cX7_lay 115 = .ok (.getfield 24, 3) := by decide +kernel
theorem dX7_lay_118 : decode cX7_lay 118 = .ok (.iload_n 2, 1) := by decide +kernel
theorem dX7_lay_119 : decode cX7_lay 119 = .ok (.aload_n 0, 1) := by decide +kernel
theorem dX7_lay_120 : decode cX7_lay 120 = .ok (.getfield 36, 3) := by decide +kernel
theorem dX7_lay_123 : decode cX7_lay 123 = .ok (.iload_n 2, 1) := by decide +kernel
theorem dX7_lay_124 : decode cX7_lay 124 = .ok (.iaload, 1) := by decide +kernel
theorem dX7_lay_125 : decode cX7_lay 125 = .ok (.iastore, 1) := by decide +kernel
theorem dX7_lay_126 : decode cX7_lay 126 = .ok (.aload_n 0, 1) := by decide +kernel
theorem dX7_lay_127 : decode cX7_lay 127 = .ok (.getfield 27, 3) := by decide +kernel
theorem dX7_lay_130 : decode cX7_lay 130 = .ok (.iload_n 2, 1) := by decide +kernel
theorem dX7_lay_131 : decode cX7_lay 131 = .ok (.aload_n 0, 1) := by decide +kernel
theorem dX7_lay_132 : decode cX7_lay 132 = .ok (.getfield 39, 3) := by decide +kernel
theorem dX7_lay_135 : decode cX7_lay 135 = .ok (.iload_n 2, 1) := by decide +kernel
theorem dX7_lay_136 : decode cX7_lay 136 = .ok (.iaload, 1) := by decide +kernel
theorem dX7_lay_137 : decode cX7_lay 137 = .ok (.iastore, 1) := by decide +kernel
theorem dX7_lay_138 : decode cX7_lay 138 = .ok (.iinc 2 1, 3) := by decide +kernel
theorem dX7_lay_141 : decode cX7_lay 141 = .ok (.goto (-59), 3) := by decide +kernel
theorem dX7_lay_144 : decode cX7_lay 144 = .ok (.aload_n 0, 1) := by decide +kernel
theorem dX7_lay_145 : decode cX7_lay 145 = .ok (.getfield 13, 3) := by decide +kernel
theorem dX7_lay_148 : decode cX7_lay 148 = .ok (.ireturn, 1) := by decide +kernel
set_option maxRecDepth 20000 in
theorem ggX7_holds_X7_powerOf : GoodIn wsX7_holds wsX7_powerOf := goodIn_r _ [8, 9] (by decide +kernel) (by decide +kernel)
set_option maxRecDepth 20000 in
theorem gX7_holds_X7_powerOf : GoodIn wsX7_holds (va_wsS RX7 88 yX7_powerOf wsX7_powerOf) := goodIn_app (goodIn_of _ (by decide +kernel)) ggX7_holds_X7_powerOf
set_option maxRecDepth 20000 in
theorem ggX7_holds_X7_in : GoodIn wsX7_holds wsX7_in := goodIn_r _ [12] (by decide +kernel) (by decide +kernel)
set_option maxRecDepth 20000 in
theorem gX7_holds_X7_in : GoodIn wsX7_holds (va_wsS RX7 60 yX7_in wsX7_in) := goodIn_app (goodIn_of _ (by decide +kernel)) ggX7_holds_X7_in
theorem dX7_holds_0 : decode cX7_holds 0 = .ok (.aload_n 0, 1) := by decide +kernel
theorem dX7_holds_1 : decode cX7_holds 1 = .ok (.getfield 27, 3) := by decide +kernel
theorem dX7_holds_4 : decode cX7_holds 4 = .ok (.iload_n 1, 1) := by decide +kernel
theorem dX7_holds_5 : decode cX7_holds 5 = .ok (.iaload, 1) := by decide +kernel
theorem dX7_holds_6 : decode cX7_holds 6 = .ok (.istore_n 3, 1) := by decide +kernel
theorem dX7_holds_7 : decode cX7_holds 7 = .ok (.iload_n 2, 1) := by decide +kernel
theorem dX7_holds_8 : decode cX7_holds 8 = .ok (.iload_n 3, 1) := by decide +kernel
theorem dX7_holds_9 : decode cX7_holds 9 = .ok (.irem, 1) := by decide +kernel
theorem dX7_holds_10 : decode cX7_holds 10 = .ok (.istore 4, 2) := by decide +kernel
theorem dX7_holds_12 : decode cX7_holds 12 = .ok (.aload_n 0, 1) := by decide +kernel
theorem dX7_holds_13 : decode cX7_holds 13 = .ok (.getfield 17, 3) := by decide +kernel
theorem dX7_holds_16 : decode cX7_holds 16 = .ok (.iload_n 1, 1) := by decide +kernel
theorem dX7_holds_17 : decode cX7_holds 17 = .ok (.iaload, 1) := by decide +kernel
theorem dX7_holds_18 : decode cX7_holds 18 = .ok (.tableswitch 105 108 112 #[34, 105, 88, 105, 60], 34) := by decide +kernel
theorem dX7_holds_52 : decode cX7_holds 52 = .ok (.aload_n 0, 1) := by decide +kernel
theorem dX7_holds_53 : decode cX7_holds 53 = .ok (.getfield 21, 3) := by decide +kernel
theorem dX7_holds_56 : decode cX7_holds 56 = .ok (.iload_n 1, 1) := by decide +kernel
theorem dX7_holds_57 : decode cX7_holds 57 = .ok (.iaload, 1) := by decide +kernel
theorem dX7_holds_58 : decode cX7_holds 58 = .ok (.iload 4, 2) := by decide +kernel
theorem dX7_holds_60 : decode cX7_holds 60 = .ok (.imul, 1) := by decide +kernel
theorem dX7_holds_61 : decode cX7_holds 61 = .ok (.iload_n 3, 1) := by decide +kernel
theorem dX7_holds_62 : decode cX7_holds 62 = .ok (.irem, 1) := by decide +kernel
theorem dX7_holds_63 : decode cX7_holds 63 = .ok (.aload_n 0, 1) := by decide +kernel
theorem dX7_holds_64 : decode cX7_holds 64 = .ok (.getfield 24, 3) := by decide +kernel
theorem dX7_holds_67 : decode cX7_holds 67 = .ok (.iload_n 1, 1) := by decide +kernel
theorem dX7_holds_68 : decode cX7_holds 68 = .ok (.iaload, 1) := by decide +kernel
theorem dX7_holds_69 : decode cX7_holds 69 = .ok (.if_icmp .ne 7, 3) := by decide +kernel
theorem dX7_holds_72 : decode cX7_holds 72 = .ok (.iconst 1, 1) := by decide +kernel
theorem dX7_holds_73 : decode cX7_holds 73 = .ok (.goto 4, 3) := by decide +kernel
theorem dX7_holds_76 : decode cX7_holds 76 = .ok (.iconst 0, 1) := by decide +kernel
theorem dX7_holds_77 : decode cX7_holds 77 = .ok (.ireturn, 1) := by decide +kernel
theorem dX7_holds_78 : decode cX7_holds 78 = .ok (.iload_n 3, 1) := by decide +kernel
theorem dX7_holds_79 : decode cX7_holds 79 = .ok (.iload 4, 2) := by decide +kernel
theorem dX7_holds_81 : decode cX7_holds 81 = .ok (.aload_n 0, 1) := by decide +kernel
theorem dX7_holds_82 : decode cX7_holds 82 = .ok (.getfield 21, 3) := by decide +kernel
theorem dX7_holds_85 : decode cX7_holds 85 = .ok (.iload_n 1, 1) := by decide +kernel
theorem dX7_holds_86 : decode cX7_holds 86 = .ok (.iaload, 1) := by decide +kernel
theorem dX7_holds_87 : decode cX7_holds 87 = .ok (.i2l, 1) := by decide +kernel
theorem dX7_holds_88 : decode cX7_holds 88 = .ok (.invokestatic 88, 3) := by decide +kernel
theorem dX7_holds_91 : decode cX7_holds 91 = .ok (.aload_n 0, 1) := by decide +kernel
theorem dX7_holds_92 : decode cX7_holds 92 = .ok (.getfield 24, 3) := by decide +kernel
theorem dX7_holds_95 : decode cX7_holds 95 = .ok (.iload_n 1, 1) := by decide +kernel
theorem dX7_holds_96 : decode cX7_holds 96 = .ok (.iaload, 1) := by decide +kernel
theorem dX7_holds_97 : decode cX7_holds 97 = .ok (.if_icmp .ne 7, 3) := by decide +kernel
theorem dX7_holds_100 : decode cX7_holds 100 = .ok (.iconst 1, 1) := by decide +kernel
theorem dX7_holds_101 : decode cX7_holds 101 = .ok (.goto 4, 3) := by decide +kernel
theorem dX7_holds_104 : decode cX7_holds 104 = .ok (.iconst 0, 1) := by decide +kernel
theorem dX7_holds_105 : decode cX7_holds 105 = .ok (.ireturn, 1) := by decide +kernel
theorem dX7_holds_106 : decode cX7_holds 106 = .ok (.iload 4, 2) := by decide +kernel
theorem dX7_holds_108 : decode cX7_holds 108 = .ok (.aload_n 0, 1) := by decide +kernel
theorem dX7_holds_109 : decode cX7_holds 109 = .ok (.getfield 21, 3) := by decide +kernel
theorem dX7_holds_112 : decode cX7_holds 112 = .ok (.iload_n 1, 1) := by decide +kernel
theorem dX7_holds_113 : decode cX7_holds 113 = .ok (.iaload, 1) := by decide +kernel
theorem dX7_holds_114 : decode cX7_holds 114 = .ok (.if_icmp .eq 7, 3) := by decide +kernel
theorem dX7_holds_117 : decode cX7_holds 117 = .ok (.iconst 1, 1) := by decide +kernel
theorem dX7_holds_118 : decode cX7_holds 118 = .ok (.goto 4, 3) := by decide +kernel
theorem dX7_holds_121 : decode cX7_holds 121 = .ok (.iconst 0, 1) := by decide +kernel
theorem dX7_holds_122 : decode cX7_holds 122 = .ok (.ireturn, 1) := by decide +kernel
theorem dX7_holds_123 : decode cX7_holds 123 = .ok (.iload 4, 2) := by decide +kernel
theorem dX7_holds_125 : decode cX7_holds 125 = .ok (.i2l, 1) := by decide +kernel
theorem dX7_holds_126 : decode cX7_holds 126 = .ok (.aload_n 0, 1) := by decide +kernel
theorem dX7_holds_127 : decode cX7_holds 127 = .ok (.getfield 21, 3) := by decide +kernel
theorem dX7_holds_130 : decode cX7_holds 130 = .ok (.iload_n 1, 1) := by decide +kernel
theorem dX7_holds_131 : decode cX7_holds 131 = .ok (.iaload, 1) := by decide +kernel
theorem dX7_holds_132 : decode cX7_holds 132 = .ok (.i2l, 1) := by decide +kernel
theorem dX7_holds_133 : decode cX7_holds 133 = .ok (.aload_n 0, 1) := by decide +kernel
theorem dX7_holds_134 : decode cX7_holds 134 = .ok (.getfield 24, 3) := by decide +kernel
theorem dX7_holds_137 : decode cX7_holds 137 = .ok (.iload_n 1, 1) := by decide +kernel
theorem dX7_holds_138 : decode cX7_holds 138 = .ok (.iaload, 1) := by decide +kernel
theorem dX7_holds_139 : decode cX7_holds 139 = .ok (.i2l, 1) := by decide +kernel
theorem dX7_holds_140 : decode cX7_holds 140 = .ok (.invokestatic 60, 3) := by decide +kernel
theorem dX7_holds_143 : decode cX7_holds 143 = .ok (.ireturn, 1) := by decide +kernel
set_option maxRecDepth 20000 in
theorem ggX7_fails_X7_holds : GoodIn wsX7_fails wsX7_holds := goodIn_r _ [6, 7, 8, 9, 10, 11, 12, 5, 13, 14, 15, 16, 17, 18, 19, 20, 21, 22, 23, 24, 25, 26, 27, 28, 29, 30, 31, 32, 33, 34, 35] (by decide +kernel) (by decide +kernel)
set_option maxRecDepth 20000 in
theorem gX7_fails_X7_holds : GoodIn wsX7_fails (wsV RX7 140 RX7 yX7_holds wsX7_holds) := goodIn_app (goodIn_of _ (by decide +kernel)) ggX7_fails_X7_holds
theorem dX7_fails_0 : decode cX7_fails 0 = .ok (.iconst 0, 1) := by decide +kernel
theorem dX7_fails_1 : decode cX7_fails 1 = .ok (.istore_n 2, 1) := by decide +kernel
theorem dX7_fails_2 : decode cX7_fails 2 = .ok (.iconst 0, 1) := by decide +kernel
theorem dX7_fails_3 : decode cX7_fails 3 = .ok (.istore_n 3, 1) := by decide +kernel
theorem dX7_fails_4 : decode cX7_fails 4 = .ok (.iload_n 3, 1) := by decide +kernel
theorem dX7_fails_5 : decode cX7_fails 5 = .ok (.aload_n 0, 1) := by decide +kernel
theorem dX7_fails_6 : decode cX7_fails 6 = .ok (.getfield 137, 3) := by decide +kernel
theorem dX7_fails_9 : decode cX7_fails 9 = .ok (.if_icmp .ge 28, 3) := by decide +kernel
theorem dX7_fails_12 : decode cX7_fails 12 = .ok (.iload_n 2, 1) := by decide +kernel
theorem dX7_fails_13 : decode cX7_fails 13 = .ok (.aload_n 0, 1) := by decide +kernel
theorem dX7_fails_14 : decode cX7_fails 14 = .ok (.iload_n 3, 1) := by decide +kernel
theorem dX7_fails_15 : decode cX7_fails 15 = .ok (.iload_n 1, 1) := by decide +kernel
theorem dX7_fails_16 : decode cX7_fails 16 = .ok (.invokevirtual 140, 3) := by decide +kernel
theorem dX7_fails_19 : decode cX7_fails 19 = .ok (.ifCond .eq 7, 3) := by decide +kernel
theorem dX7_fails_22 : decode cX7_fails 22 = .ok (.iconst 0, 1) := by decide +kernel
theorem dX7_fails_23 : decode cX7_fails 23 = .ok (.goto 6, 3) := by decide +kernel
theorem dX7_fails_26 : decode cX7_fails 26 = .ok (.iconst 1, 1) := by decide +kernel
theorem dX7_fails_27 : decode cX7_fails 27 = .ok (.iload_n 3, 1) := by decide +kernel
theorem dX7_fails_28 : decode cX7_fails 28 = .ok (.ishl, 1) := by decide +kernel
theorem dX7_fails_29 : decode cX7_fails 29 = .ok (.ior, 1) := by decide +kernel
theorem dX7_fails_30 : decode cX7_fails 30 = .ok (.istore_n 2, 1) := by decide +kernel
theorem dX7_fails_31 : decode cX7_fails 31 = .ok (.iinc 3 1, 3) := by decide +kernel
theorem dX7_fails_34 : decode cX7_fails 34 = .ok (.goto (-30), 3) := by decide +kernel
theorem dX7_fails_37 : decode cX7_fails 37 = .ok (.iload_n 2, 1) := by decide +kernel
theorem dX7_fails_38 : decode cX7_fails 38 = .ok (.ireturn, 1) := by decide +kernel
set_option maxRecDepth 20000 in
theorem ggX7_leftOf_X7_fails : GoodIn wsX7_leftOf wsX7_fails := goodIn_r _ [6, 7, 8, 9, 10, 5, 11, 12, 13, 14, 15, 16, 17, 18, 19, 20, 21, 22, 23, 24, 25, 26, 27, 28, 29, 30, 31, 32, 33, 34, 35, 36, 37, 38, 39, 40] (by decide +kernel) (by decide +kernel)
set_option maxRecDepth 20000 in
theorem gX7_leftOf_X7_fails : GoodIn wsX7_leftOf (wsV RX7 143 RX7 yX7_fails wsX7_fails) := goodIn_app (goodIn_of _ (by decide +kernel)) ggX7_leftOf_X7_fails
theorem dX7_leftOf_0 : decode cX7_leftOf 0 = .ok (.iconst 0, 1) := by decide +kernel
theorem dX7_leftOf_1 : decode cX7_leftOf 1 = .ok (.istore_n 1, 1) := by decide +kernel
theorem dX7_leftOf_2 : decode cX7_leftOf 2 = .ok (.iconst 0, 1) := by decide +kernel
theorem dX7_leftOf_3 : decode cX7_leftOf 3 = .ok (.istore_n 2, 1) := by decide +kernel
theorem dX7_leftOf_4 : decode cX7_leftOf 4 = .ok (.iload_n 2, 1) := by decide +kernel
theorem dX7_leftOf_5 : decode cX7_leftOf 5 = .ok (.aload_n 0, 1) := by decide +kernel
theorem dX7_leftOf_6 : decode cX7_leftOf 6 = .ok (.getfield 13, 3) := by decide +kernel
theorem dX7_leftOf_9 : decode cX7_leftOf 9 = .ok (.if_icmp .ge 25, 3) := by decide +kernel
theorem dX7_leftOf_12 : decode cX7_leftOf 12 = .ok (.iload_n 1, 1) := by decide +kernel
theorem dX7_leftOf_13 : decode cX7_leftOf 13 = .ok (.aload_n 0, 1) := by decide +kernel
theorem dX7_leftOf_14 : decode cX7_leftOf 14 = .ok (.iload_n 2, 1) := by decide +kernel
theorem dX7_leftOf_15 : decode cX7_leftOf 15 = .ok (.invokevirtual 143, 3) := by decide +kernel
theorem dX7_leftOf_18 : decode cX7_leftOf 18 = .ok (.ifCond .ne 7, 3) := by decide +kernel
theorem dX7_leftOf_21 : decode cX7_leftOf 21 = .ok (.iconst 1, 1) := by decide +kernel
theorem dX7_leftOf_22 : decode cX7_leftOf 22 = .ok (.goto 4, 3) := by decide +kernel
theorem dX7_leftOf_25 : decode cX7_leftOf 25 = .ok (.iconst 0, 1) := by decide +kernel
theorem dX7_leftOf_26 : decode cX7_leftOf 26 = .ok (.iadd, 1) := by decide +kernel
theorem dX7_leftOf_27 : decode cX7_leftOf 27 = .ok (.istore_n 1, 1) := by decide +kernel
theorem dX7_leftOf_28 : decode cX7_leftOf 28 = .ok (.iinc 2 1, 3) := by decide +kernel
theorem dX7_leftOf_31 : decode cX7_leftOf 31 = .ok (.goto (-27), 3) := by decide +kernel
theorem dX7_leftOf_34 : decode cX7_leftOf 34 = .ok (.iload_n 1, 1) := by decide +kernel
theorem dX7_leftOf_35 : decode cX7_leftOf 35 = .ok (.ireturn, 1) := by decide +kernel
set_option maxRecDepth 20000 in
theorem ggX7_left_X7_leftOf : GoodIn wsX7_left wsX7_leftOf := goodIn_r _ [5, 6, 7, 8, 9, 4, 10, 11, 12, 13, 14, 15, 16, 17, 18, 19, 20, 21, 22, 23, 24, 25, 26, 27, 28, 29, 30, 31, 32, 33, 34, 35, 36, 37, 38, 39, 40, 41, 42, 43, 44] (by decide +kernel) (by decide +kernel)
set_option maxRecDepth 20000 in
theorem gX7_left_X7_leftOf : GoodIn wsX7_left (wsV RX7 146 RX7 yX7_leftOf wsX7_leftOf) := goodIn_app (goodIn_of _ (by decide +kernel)) ggX7_left_X7_leftOf
theorem dX7_left_0 : decode cX7_left 0 = .ok (.aload_n 0, 1) := by decide +kernel
theorem dX7_left_1 : decode cX7_left 1 = .ok (.invokevirtual 146, 3) := by decide +kernel
theorem dX7_left_4 : decode cX7_left 4 = .ok (.ireturn, 1) := by decide +kernel
set_option maxRecDepth 20000 in
theorem ggX7_ith_X7_in : GoodIn wsX7_ith wsX7_in := goodIn_r _ [8] (by decide +kernel) (by decide +kernel)
set_option maxRecDepth 20000 in
theorem gX7_ith_X7_in : GoodIn wsX7_ith (va_wsS RX7 60 yX7_in wsX7_in) := goodIn_app (goodIn_of _ (by decide +kernel)) ggX7_ith_X7_in
set_option maxRecDepth 20000 in
theorem ggX7_ith_X7_leftOf : GoodIn wsX7_ith wsX7_leftOf := goodIn_r _ [12, 4, 13, 14, 15, 7, 16, 17, 18, 19, 20, 21, 22, 23, 24, 25, 26, 27, 28, 29, 5, 6, 8, 30, 31, 32, 33, 34, 35, 36, 37, 38, 39, 40, 41, 42, 43, 44, 45, 46, 47] (by decide +kernel) (by decide +kernel)
set_option maxRecDepth 20000 in
theorem gX7_ith_X7_leftOf : GoodIn wsX7_ith (wsV RX7 146 RX7 yX7_leftOf wsX7_leftOf) := goodIn_app (goodIn_of _ (by decide +kernel)) ggX7_ith_X7_leftOf
set_option maxRecDepth 20000 in
theorem ggX7_ith_X7_fails : GoodIn wsX7_ith wsX7_fails := goodIn_r _ [16, 17, 18, 19, 20, 7, 21, 22, 23, 24, 25, 26, 27, 28, 29, 5, 6, 8, 30, 31, 32, 33, 34, 35, 36, 37, 38, 39, 40, 41, 42, 43, 44, 45, 46, 47] (by decide +kernel) (by decide +kernel)
set_option maxRecDepth 20000 in
theorem gX7_ith_X7_fails : GoodIn wsX7_ith (wsV RX7 143 RX7 yX7_fails wsX7_fails) := goodIn_app (goodIn_of _ (by decide +kernel)) ggX7_ith_X7_fails
theorem dX7_ith_0 : decode cX7_ith 0 = .ok (.lload_n 1, 1) := by decide +kernel
theorem dX7_ith_1 : decode cX7_ith 1 = .ok (.lconst 0, 1) := by decide +kernel
theorem dX7_ith_2 : decode cX7_ith 2 = .ok (.ldc2_w 149, 3) := by decide +kernel
theorem dX7_ith_5 : decode cX7_ith 5 = .ok (.invokestatic 60, 3) := by decide +kernel
theorem dX7_ith_8 : decode cX7_ith 8 = .ok (.ifCond .ne 7, 3) := by decide +kernel
theorem dX7_ith_11 : decode cX7_ith 11 = .ok (.ldc2_w 151, 3) := by decide +kernel
theorem dX7_ith_14 : decode cX7_ith 14 = .ok (.lreturn, 1) := by decide +kernel
theorem dX7_ith_15 : decode cX7_ith 15 = .ok (.aload_n 0, 1) := by decide +kernel
theorem dX7_ith_16 : decode cX7_ith 16 = .ok (.invokevirtual 146, 3) := by decide +kernel
theorem dX7_ith_19 : decode cX7_ith 19 = .ok (.istore_n 3, 1) := by decide +kernel
theorem dX7_ith_20 : decode cX7_ith 20 = .ok (.iload_n 3, 1) := by decide +kernel
theorem dX7_ith_21 : decode cX7_ith 21 = .ok (.ifCond .ne 7, 3) := by decide +kernel
theorem dX7_ith_24 : decode cX7_ith 24 = .ok (.ldc2_w 153, 3) := by decide +kernel
theorem dX7_ith_27 : decode cX7_ith 27 = .ok (.lreturn, 1) := by decide +kernel
theorem dX7_ith_28 : decode cX7_ith 28 = .ok (.lload_n 1, 1) := by decide +kernel
theorem dX7_ith_29 : decode cX7_ith 29 = .ok (.iload_n 3, 1) := by decide +kernel
theorem dX7_ith_30 : decode cX7_ith 30 = .ok (.i2l, 1) := by decide +kernel
theorem dX7_ith_31 : decode cX7_ith 31 = .ok (.lrem, 1) := by decide +kernel
theorem dX7_ith_32 : decode cX7_ith 32 = .ok (.lstore 4, 2) := by decide +kernel
theorem dX7_ith_34 : decode cX7_ith 34 = .ok (.iconst 0, 1) := by decide +kernel
theorem dX7_ith_35 : decode cX7_ith 35 = .ok (.istore 6, 2) := by decide +kernel
theorem dX7_ith_37 : decode cX7_ith 37 = .ok (.aload_n 0, 1) := by decide +kernel
theorem dX7_ith_38 : decode cX7_ith 38 = .ok (.iload 6, 2) := by decide +kernel
theorem dX7_ith_40 : decode cX7_ith 40 = .ok (.invokevirtual 143, 3) := by decide +kernel
theorem dX7_ith_43 : decode cX7_ith 43 = .ok (.ifCond .ne 10, 3) := by decide +kernel
theorem dX7_ith_46 : decode cX7_ith 46 = .ok (.lload 4, 2) := by decide +kernel
theorem dX7_ith_48 : decode cX7_ith 48 = .ok (.lconst 0, 1) := by decide +kernel
theorem dX7_ith_49 : decode cX7_ith 49 = .ok (.lcmp, 1) := by decide +kernel
theorem dX7_ith_50 : decode cX7_ith 50 = .ok (.ifCond .le 28, 3) := by decide +kernel
theorem dX7_ith_53 : decode cX7_ith 53 = .ok (.lload 4, 2) := by decide +kernel
theorem dX7_ith_55 : decode cX7_ith 55 = .ok (.aload_n 0, 1) := by decide +kernel
theorem dX7_ith_56 : decode cX7_ith 56 = .ok (.iload 6, 2) := by decide +kernel
theorem dX7_ith_58 : decode cX7_ith 58 = .ok (.invokevirtual 143, 3) := by decide +kernel
theorem dX7_ith_61 : decode cX7_ith 61 = .ok (.ifCond .ne 7, 3) := by decide +kernel
theorem dX7_ith_64 : decode cX7_ith 64 = .ok (.lconst 1, 1) := by decide +kernel
theorem dX7_ith_65 : decode cX7_ith 65 = .ok (.goto 4, 3) := by decide +kernel
theorem dX7_ith_68 : decode cX7_ith 68 = .ok (.lconst 0, 1) := by decide +kernel
theorem dX7_ith_69 : decode cX7_ith 69 = .ok (.lsub, 1) := by decide +kernel
theorem dX7_ith_70 : decode cX7_ith 70 = .ok (.lstore 4, 2) := by decide +kernel
theorem dX7_ith_72 : decode cX7_ith 72 = .ok (.iinc 6 1, 3) := by decide +kernel
theorem dX7_ith_75 : decode cX7_ith 75 = .ok (.goto (-38), 3) := by decide +kernel
theorem dX7_ith_78 : decode cX7_ith 78 = .ok (.lload_n 1, 1) := by decide +kernel
theorem dX7_ith_79 : decode cX7_ith 79 = .ok (.iload_n 3, 1) := by decide +kernel
theorem dX7_ith_80 : decode cX7_ith 80 = .ok (.i2l, 1) := by decide +kernel
theorem dX7_ith_81 : decode cX7_ith 81 = .ok (.ldiv, 1) := by decide +kernel
theorem dX7_ith_82 : decode cX7_ith 82 = .ok (.aload_n 0, 1) := by decide +kernel
theorem dX7_ith_83 : decode cX7_ith 83 = .ok (.getfield 13, 3) := by decide +kernel
theorem dX7_ith_86 : decode cX7_ith 86 = .ok (.i2l, 1) := by decide +kernel
theorem dX7_ith_87 : decode cX7_ith 87 = .ok (.lmul, 1) := by decide +kernel
theorem dX7_ith_88 : decode cX7_ith 88 = .ok (.iload 6, 2) := by decide +kernel
theorem dX7_ith_90 : decode cX7_ith 90 = .ok (.i2l, 1) := by decide +kernel
theorem dX7_ith_91 : decode cX7_ith 91 = .ok (.ladd, 1) := by decide +kernel
theorem dX7_ith_92 : decode cX7_ith 92 = .ok (.lreturn, 1) := by decide +kernel
set_option maxRecDepth 20000 in
theorem ggX7_from_X7_in : GoodIn wsX7_from wsX7_in := goodIn_r _ [8] (by decide +kernel) (by decide +kernel)
set_option maxRecDepth 20000 in
theorem gX7_from_X7_in : GoodIn wsX7_from (va_wsS RX7 60 yX7_in wsX7_in) := goodIn_app (goodIn_of _ (by decide +kernel)) ggX7_from_X7_in
set_option maxRecDepth 20000 in
theorem ggX7_from_X7_fails : GoodIn wsX7_from wsX7_fails := goodIn_r _ [12, 13, 14, 15, 16, 7, 17, 18, 19, 20, 21, 22, 23, 24, 25, 5, 6, 8, 26, 27, 28, 29, 30, 31, 32, 33, 34, 35, 36, 37, 38, 39, 40, 41, 42, 43] (by decide +kernel) (by decide +kernel)
set_option maxRecDepth 20000 in
theorem gX7_from_X7_fails : GoodIn wsX7_from (wsV RX7 143 RX7 yX7_fails wsX7_fails) := goodIn_app (goodIn_of _ (by decide +kernel)) ggX7_from_X7_fails
theorem dX7_from_0 : decode cX7_from 0 = .ok (.lload_n 1, 1) := by decide +kernel
theorem dX7_from_1 : decode cX7_from 1 = .ok (.lconst 0, 1) := by decide +kernel
theorem dX7_from_2 : decode cX7_from 2 = .ok (.ldc2_w 155, 3) := by decide +kernel
theorem dX7_from_5 : decode cX7_from 5 = .ok (.invokestatic 60, 3) := by decide +kernel
theorem dX7_from_8 : decode cX7_from 8 = .ok (.ifCond .ne 7, 3) := by decide +kernel
theorem dX7_from_11 : decode cX7_from 11 = .ok (.ldc2_w 151, 3) := by decide +kernel
theorem dX7_from_14 : decode cX7_from 14 = .ok (.lreturn, 1) := by decide +kernel
theorem dX7_from_15 : decode cX7_from 15 = .ok (.iconst 0, 1) := by decide +kernel
theorem dX7_from_16 : decode cX7_from 16 = .ok (.istore_n 3, 1) := by decide +kernel
theorem dX7_from_17 : decode cX7_from 17 = .ok (.iload_n 3, 1) := by decide +kernel
theorem dX7_from_18 : decode cX7_from 18 = .ok (.aload_n 0, 1) := by decide +kernel
theorem dX7_from_19 : decode cX7_from 19 = .ok (.getfield 13, 3) := by decide +kernel
theorem dX7_from_22 : decode cX7_from 22 = .ok (.if_icmp .ge 32, 3) := by decide +kernel
theorem dX7_from_25 : decode cX7_from 25 = .ok (.aload_n 0, 1) := by decide +kernel
theorem dX7_from_26 : decode cX7_from 26 = .ok (.lload_n 1, 1) := by decide +kernel
theorem dX7_from_27 : decode cX7_from 27 = .ok (.iload_n 3, 1) := by decide +kernel
theorem dX7_from_28 : decode cX7_from 28 = .ok (.i2l, 1) := by decide +kernel
theorem dX7_from_29 : decode cX7_from 29 = .ok (.ladd, 1) := by decide +kernel
theorem dX7_from_30 : decode cX7_from 30 = .ok (.aload_n 0, 1) := by decide +kernel
theorem dX7_from_31 : decode cX7_from 31 = .ok (.getfield 13, 3) := by decide +kernel
theorem dX7_from_34 : decode cX7_from 34 = .ok (.i2l, 1) := by decide +kernel
theorem dX7_from_35 : decode cX7_from 35 = .ok (.lrem, 1) := by decide +kernel
theorem dX7_from_36 : decode cX7_from 36 = .ok (.l2i, 1) := by decide +kernel
theorem dX7_from_37 : decode cX7_from 37 = .ok (.invokevirtual 143, 3) := by decide +kernel
theorem dX7_from_40 : decode cX7_from 40 = .ok (.ifCond .ne 8, 3) := by decide +kernel
theorem dX7_from_43 : decode cX7_from 43 = .ok (.lload_n 1, 1) := by decide +kernel
theorem dX7_from_44 : decode cX7_from 44 = .ok (.iload_n 3, 1) := by decide +kernel
theorem dX7_from_45 : decode cX7_from 45 = .ok (.i2l, 1) := by decide +kernel
theorem dX7_from_46 : decode cX7_from 46 = .ok (.ladd, 1) := by decide +kernel
theorem dX7_from_47 : decode cX7_from 47 = .ok (.lreturn, 1) := by decide +kernel
theorem dX7_from_48 : decode cX7_from 48 = .ok (.iinc 3 1, 3) := by decide +kernel
theorem dX7_from_51 : decode cX7_from 51 = .ok (.goto (-34), 3) := by decide +kernel
theorem dX7_from_54 : decode cX7_from 54 = .ok (.ldc2_w 153, 3) := by decide +kernel
theorem dX7_from_57 : decode cX7_from 57 = .ok (.lreturn, 1) := by decide +kernel
set_option maxRecDepth 20000 in
theorem ggX7_looksAll_X7_fails : GoodIn wsX7_looksAll wsX7_fails := goodIn_r _ [7, 8, 9, 10, 11, 6, 12, 13, 14, 15, 16, 17, 18, 19, 20, 21, 22, 23, 24, 25, 26, 27, 28, 29, 30, 31, 32, 33, 34, 35, 36, 37, 38, 39, 40, 41] (by decide +kernel) (by decide +kernel)
set_option maxRecDepth 20000 in
theorem gX7_looksAll_X7_fails : GoodIn wsX7_looksAll (wsV RX7 143 RX7 yX7_fails wsX7_fails) := goodIn_app (goodIn_of _ (by decide +kernel)) ggX7_looksAll_X7_fails
theorem dX7_looksAll_0 : decode cX7_looksAll 0 = .ok (.iconst 0, 1) := by decide +kernel
theorem dX7_looksAll_1 : decode cX7_looksAll 1 = .ok (.istore_n 1, 1) := by decide +kernel
theorem dX7_looksAll_2 : decode cX7_looksAll 2 = .ok (.iload_n 1, 1) := by decide +kernel
theorem dX7_looksAll_3 : decode cX7_looksAll 3 = .ok (.sipush 256, 3) := by decide +kernel
theorem dX7_looksAll_6 : decode cX7_looksAll 6 = .ok (.if_icmp .ge 16, 3) := by decide +kernel
theorem dX7_looksAll_9 : decode cX7_looksAll 9 = .ok (.aload_n 0, 1) := by decide +kernel
theorem dX7_looksAll_10 : decode cX7_looksAll 10 = .ok (.getfield 50, 3) := by decide +kernel
theorem dX7_looksAll_13 : decode cX7_looksAll 13 = .ok (.iload_n 1, 1) := by decide +kernel
theorem dX7_looksAll_14 : decode cX7_looksAll 14 = .ok (.iconst 0, 1) := by decide +kernel
theorem dX7_looksAll_15 : decode cX7_looksAll 15 = .ok (.bastore, 1) := by decide +kernel
theorem dX7_looksAll_16 : decode cX7_looksAll 16 = .ok (.iinc 1 1, 3) := by decide +kernel
theorem dX7_looksAll_19 : decode cX7_looksAll 19 = .ok (.goto (-17), 3) := by decide +kernel
theorem dX7_looksAll_22 : decode cX7_looksAll 22 = .ok (.iconst 0, 1) := by decide +kernel
theorem dX7_looksAll_23 : decode cX7_looksAll 23 = .ok (.istore_n 1, 1) := by decide +kernel
theorem dX7_looksAll_24 : decode cX7_looksAll 24 = .ok (.iload_n 1, 1) := by decide +kernel
theorem dX7_looksAll_25 : decode cX7_looksAll 25 = .ok (.aload_n 0, 1) := by decide +kernel
theorem dX7_looksAll_26 : decode cX7_looksAll 26 = .ok (.getfield 13, 3) := by decide +kernel
theorem dX7_looksAll_29 : decode cX7_looksAll 29 = .ok (.if_icmp .ge 20, 3) := by decide +kernel
theorem dX7_looksAll_32 : decode cX7_looksAll 32 = .ok (.aload_n 0, 1) := by decide +kernel
theorem dX7_looksAll_33 : decode cX7_looksAll 33 = .ok (.getfield 50, 3) := by decide +kernel
theorem dX7_looksAll_36 : decode cX7_looksAll 36 = .ok (.aload_n 0, 1) := by decide +kernel
theorem dX7_looksAll_37 : decode cX7_looksAll 37 = .ok (.iload_n 1, 1) := by decide +kernel
theorem dX7_looksAll_38 : decode cX7_looksAll 38 = .ok (.invokevirtual 143, 3) := by decide +kernel
theorem dX7_looksAll_41 : decode cX7_looksAll 41 = .ok (.iconst 1, 1) := by decide +kernel
theorem dX7_looksAll_42 : decode cX7_looksAll 42 = .ok (.bastore, 1) := by decide +kernel
theorem dX7_looksAll_43 : decode cX7_looksAll 43 = .ok (.iinc 1 1, 3) := by decide +kernel
theorem dX7_looksAll_46 : decode cX7_looksAll 46 = .ok (.goto (-22), 3) := by decide +kernel
theorem dX7_looksAll_49 : decode cX7_looksAll 49 = .ok (.return_, 1) := by decide +kernel
set_option maxRecDepth 20000 in
theorem ggX7_needless_X7_in : GoodIn wsX7_needless wsX7_in := goodIn_r _ [6] (by decide +kernel) (by decide +kernel)
set_option maxRecDepth 20000 in
theorem gX7_needless_X7_in : GoodIn wsX7_needless (va_wsS RX7 60 yX7_in wsX7_in) := goodIn_app (goodIn_of _ (by decide +kernel)) ggX7_needless_X7_in
set_option maxRecDepth 20000 in
theorem ggX7_needless_X7_looksAll : GoodIn wsX7_needless wsX7_looksAll := goodIn_r _ [10, 2, 11, 12, 13, 14, 5, 15, 1, 16, 17, 18, 19, 20, 21, 22, 23, 24, 25, 26, 27, 3, 4, 6, 28, 29, 30, 31, 32, 33, 34, 35, 36, 37, 38, 39, 40, 41, 42, 43, 44, 45] (by decide +kernel) (by decide +kernel)
set_option maxRecDepth 20000 in
theorem gX7_needless_X7_looksAll : GoodIn wsX7_needless (wsV RX7 157 RX7 yX7_looksAll wsX7_looksAll) := goodIn_app (goodIn_of _ (by decide +kernel)) ggX7_needless_X7_looksAll
theorem dX7_needless_0 : decode cX7_needless 0 = .ok (.iload_n 1, 1) := by decide +kernel
theorem dX7_needless_1 : decode cX7_needless 1 = .ok (.i2l, 1) := by decide +kernel
theorem dX7_needless_2 : decode cX7_needless 2 = .ok (.lconst 0, 1) := by decide +kernel
theorem dX7_needless_3 : decode cX7_needless 3 = .ok (.aload_n 0, 1) := by decide +kernel
theorem dX7_needless_4 : decode cX7_needless 4 = .ok (.getfield 137, 3) := by decide +kernel
theorem dX7_needless_7 : decode cX7_needless 7 = .ok (.iconst 1, 1) := by decide +kernel
theorem dX7_needless_8 : decode cX7_needless 8 = .ok (.isub, 1) := by decide +kernel
theorem dX7_needless_9 : decode cX7_needless 9 = .ok (.i2l, 1) := by decide +kernel
theorem dX7_needless_10 : decode cX7_needless 10 = .ok (.invokestatic 60, 3) := by decide +kernel
theorem dX7_needless_13 : decode cX7_needless 13 = .ok (.ifCond .ne 5, 3) := by decide +kernel
theorem dX7_needless_16 : decode cX7_needless 16 = .ok (.iconst (-1), 1) := by decide +kernel
theorem dX7_needless_17 : decode cX7_needless 17 = .ok (.ireturn, 1) := by decide +kernel
theorem dX7_needless_18 : decode cX7_needless 18 = .ok (.aload_n 0, 1) := by decide +kernel
theorem dX7_needless_19 : decode cX7_needless 19 = .ok (.invokevirtual 157, 3) := by decide +kernel
theorem dX7_needless_22 : decode cX7_needless 22 = .ok (.aload_n 0, 1) := by decide +kernel
theorem dX7_needless_23 : decode cX7_needless 23 = .ok (.getfield 50, 3) := by decide +kernel
theorem dX7_needless_26 : decode cX7_needless 26 = .ok (.iconst 1, 1) := by decide +kernel
theorem dX7_needless_27 : decode cX7_needless 27 = .ok (.iload_n 1, 1) := by decide +kernel
theorem dX7_needless_28 : decode cX7_needless 28 = .ok (.ishl, 1) := by decide +kernel
theorem dX7_needless_29 : decode cX7_needless 29 = .ok (.baload, 1) := by decide +kernel
theorem dX7_needless_30 : decode cX7_needless 30 = .ok (.ifCond .eq 7, 3) := by decide +kernel
theorem dX7_needless_33 : decode cX7_needless 33 = .ok (.iconst 0, 1) := by decide +kernel
theorem dX7_needless_34 : decode cX7_needless 34 = .ok (.goto 4, 3) := by decide +kernel
theorem dX7_needless_37 : decode cX7_needless 37 = .ok (.iconst 1, 1) := by decide +kernel
theorem dX7_needless_38 : decode cX7_needless 38 = .ok (.ireturn, 1) := by decide +kernel
theorem dX7_many_0 : decode cX7_many 0 = .ok (.iconst 0, 1) := by decide +kernel
theorem dX7_many_1 : decode cX7_many 1 = .ok (.istore_n 1, 1) := by decide +kernel
theorem dX7_many_2 : decode cX7_many 2 = .ok (.iconst 0, 1) := by decide +kernel
theorem dX7_many_3 : decode cX7_many 3 = .ok (.istore_n 2, 1) := by decide +kernel
theorem dX7_many_4 : decode cX7_many 4 = .ok (.iload_n 2, 1) := by decide +kernel
theorem dX7_many_5 : decode cX7_many 5 = .ok (.bipush 8, 2) := by decide +kernel
theorem dX7_many_7 : decode cX7_many 7 = .ok (.if_icmp .ge 17, 3) := by decide +kernel
theorem dX7_many_10 : decode cX7_many 10 = .ok (.iload_n 1, 1) := by decide +kernel
theorem dX7_many_11 : decode cX7_many 11 = .ok (.iload_n 0, 1) := by decide +kernel
theorem dX7_many_12 : decode cX7_many 12 = .ok (.iload_n 2, 1) := by decide +kernel
theorem dX7_many_13 : decode cX7_many 13 = .ok (.ishr, 1) := by decide +kernel
theorem dX7_many_14 : decode cX7_many 14 = .ok (.iconst 1, 1) := by decide +kernel
theorem dX7_many_15 : decode cX7_many 15 = .ok (.iand, 1) := by decide +kernel
theorem dX7_many_16 : decode cX7_many 16 = .ok (.iadd, 1) := by decide +kernel
theorem dX7_many_17 : decode cX7_many 17 = .ok (.istore_n 1, 1) := by decide +kernel
theorem dX7_many_18 : decode cX7_many 18 = .ok (.iinc 2 1, 3) := by decide +kernel
theorem dX7_many_21 : decode cX7_many 21 = .ok (.goto (-17), 3) := by decide +kernel
theorem dX7_many_24 : decode cX7_many 24 = .ok (.iload_n 1, 1) := by decide +kernel
theorem dX7_many_25 : decode cX7_many 25 = .ok (.ireturn, 1) := by decide +kernel
set_option maxRecDepth 20000 in
theorem ggX7_lone_X7_looksAll : GoodIn wsX7_lone wsX7_looksAll := goodIn_r _ [7, 2, 8, 9, 10, 11, 6, 12, 1, 13, 14, 15, 16, 17, 18, 19, 20, 21, 22, 23, 24, 25, 26, 27, 31, 32, 33, 34, 35, 36, 37, 38, 39, 40, 41, 42, 43, 44, 45, 46, 47, 48] (by decide +kernel) (by decide +kernel)
set_option maxRecDepth 20000 in
theorem gX7_lone_X7_looksAll : GoodIn wsX7_lone (wsV RX7 157 RX7 yX7_looksAll wsX7_looksAll) := goodIn_app (goodIn_of _ (by decide +kernel)) ggX7_lone_X7_looksAll
set_option maxRecDepth 20000 in
theorem ggX7_lone_X7_many : GoodIn wsX7_lone wsX7_many := goodIn_r _ [30] (by decide +kernel) (by decide +kernel)
set_option maxRecDepth 20000 in
theorem gX7_lone_X7_many : GoodIn wsX7_lone (va_wsS RX7 160 yX7_many wsX7_many) := goodIn_app (goodIn_of _ (by decide +kernel)) ggX7_lone_X7_many
theorem dX7_lone_0 : decode cX7_lone 0 = .ok (.aload_n 0, 1) := by decide +kernel
theorem dX7_lone_1 : decode cX7_lone 1 = .ok (.invokevirtual 157, 3) := by decide +kernel
theorem dX7_lone_4 : decode cX7_lone 4 = .ok (.bipush (-4), 2) := by decide +kernel
theorem dX7_lone_6 : decode cX7_lone 6 = .ok (.istore_n 1, 1) := by decide +kernel
theorem dX7_lone_7 : decode cX7_lone 7 = .ok (.iconst 0, 1) := by decide +kernel
theorem dX7_lone_8 : decode cX7_lone 8 = .ok (.istore_n 2, 1) := by decide +kernel
theorem dX7_lone_9 : decode cX7_lone 9 = .ok (.iload_n 2, 1) := by decide +kernel
theorem dX7_lone_10 : decode cX7_lone 10 = .ok (.iconst 1, 1) := by decide +kernel
theorem dX7_lone_11 : decode cX7_lone 11 = .ok (.aload_n 0, 1) := by decide +kernel
theorem dX7_lone_12 : decode cX7_lone 12 = .ok (.getfield 137, 3) := by decide +kernel
theorem dX7_lone_15 : decode cX7_lone 15 = .ok (.ishl, 1) := by decide +kernel
theorem dX7_lone_16 : decode cX7_lone 16 = .ok (.if_icmp .ge 84, 3) := by decide +kernel
theorem dX7_lone_19 : decode cX7_lone 19 = .ok (.iload_n 1, 1) := by decide +kernel
theorem dX7_lone_20 : decode cX7_lone 20 = .ok (.ifCond .lt 14, 3) := by decide +kernel
theorem dX7_lone_23 : decode cX7_lone 23 = .ok (.iload_n 2, 1) := by decide +kernel
theorem dX7_lone_24 : decode cX7_lone 24 = .ok (.invokestatic 160, 3) := by decide +kernel
theorem dX7_lone_27 : decode cX7_lone 27 = .ok (.iload_n 1, 1) := by decide +kernel
theorem dX7_lone_28 : decode cX7_lone 28 = .ok (.invokestatic 160, 3) := by decide +kernel
theorem dX7_lone_31 : decode cX7_lone 31 = .ok (.if_icmp .ge 7, 3) := by decide +kernel
theorem dX7_lone_34 : decode cX7_lone 34 = .ok (.iconst 1, 1) := by decide +kernel
theorem dX7_lone_35 : decode cX7_lone 35 = .ok (.goto 4, 3) := by decide +kernel
theorem dX7_lone_38 : decode cX7_lone 38 = .ok (.iconst 0, 1) := by decide +kernel
theorem dX7_lone_39 : decode cX7_lone 39 = .ok (.istore_n 3, 1) := by decide +kernel
theorem dX7_lone_40 : decode cX7_lone 40 = .ok (.iconst 0, 1) := by decide +kernel
theorem dX7_lone_41 : decode cX7_lone 41 = .ok (.istore 4, 2) := by decide +kernel
theorem dX7_lone_43 : decode cX7_lone 43 = .ok (.iload 4, 2) := by decide +kernel
theorem dX7_lone_45 : decode cX7_lone 45 = .ok (.sipush 256, 3) := by decide +kernel
theorem dX7_lone_48 : decode cX7_lone 48 = .ok (.if_icmp .ge 36, 3) := by decide +kernel
theorem dX7_lone_51 : decode cX7_lone 51 = .ok (.iload_n 3, 1) := by decide +kernel
theorem dX7_lone_52 : decode cX7_lone 52 = .ok (.ifCond .eq 32, 3) := by decide +kernel
theorem dX7_lone_55 : decode cX7_lone 55 = .ok (.aload_n 0, 1) := by decide +kernel
theorem dX7_lone_56 : decode cX7_lone 56 = .ok (.getfield 50, 3) := by decide +kernel
theorem dX7_lone_59 : decode cX7_lone 59 = .ok (.iload 4, 2) := by decide +kernel
theorem dX7_lone_61 : decode cX7_lone 61 = .ok (.baload, 1) := by decide +kernel
theorem dX7_lone_62 : decode cX7_lone 62 = .ok (.ifCond .eq 10, 3) := by decide +kernel
theorem dX7_lone_65 : decode cX7_lone 65 = .ok (.iload 4, 2) := by decide +kernel
theorem dX7_lone_67 : decode cX7_lone 67 = .ok (.iload_n 2, 1) := by decide +kernel
theorem dX7_lone_68 : decode cX7_lone 68 = .ok (.iand, 1) := by decide +kernel
theorem dX7_lone_69 : decode cX7_lone 69 = .ok (.ifCond .eq 7, 3) := by decide +kernel
theorem dX7_lone_72 : decode cX7_lone 72 = .ok (.iconst 1, 1) := by decide +kernel
theorem dX7_lone_73 : decode cX7_lone 73 = .ok (.goto 4, 3) := by decide +kernel
theorem dX7_lone_76 : decode cX7_lone 76 = .ok (.iconst 0, 1) := by decide +kernel
theorem dX7_lone_77 : decode cX7_lone 77 = .ok (.istore_n 3, 1) := by decide +kernel
theorem dX7_lone_78 : decode cX7_lone 78 = .ok (.iinc 4 1, 3) := by decide +kernel
theorem dX7_lone_81 : decode cX7_lone 81 = .ok (.goto (-38), 3) := by decide +kernel
theorem dX7_lone_84 : decode cX7_lone 84 = .ok (.iload_n 3, 1) := by decide +kernel
theorem dX7_lone_85 : decode cX7_lone 85 = .ok (.ifCond .eq 7, 3) := by decide +kernel
theorem dX7_lone_88 : decode cX7_lone 88 = .ok (.iload_n 2, 1) := by decide +kernel
theorem dX7_lone_89 : decode cX7_lone 89 = .ok (.goto 4, 3) := by decide +kernel
theorem dX7_lone_92 : decode cX7_lone 92 = .ok (.iload_n 1, 1) := by decide +kernel
theorem dX7_lone_93 : decode cX7_lone 93 = .ok (.istore_n 1, 1) := by decide +kernel
theorem dX7_lone_94 : decode cX7_lone 94 = .ok (.iinc 2 1, 3) := by decide +kernel
theorem dX7_lone_97 : decode cX7_lone 97 = .ok (.goto (-88), 3) := by decide +kernel
theorem dX7_lone_100 : decode cX7_lone 100 = .ok (.iload_n 1, 1) := by decide +kernel
theorem dX7_lone_101 : decode cX7_lone 101 = .ok (.ireturn, 1) := by decide +kernel
theorem dX7_isPrime_0 : decode cX7_isPrime 0 = .ok (.iload_n 0, 1) := by decide +kernel
theorem dX7_isPrime_1 : decode cX7_isPrime 1 = .ok (.iconst 1, 1) := by decide +kernel
theorem dX7_isPrime_2 : decode cX7_isPrime 2 = .ok (.if_icmp .le 7, 3) := by decide +kernel
theorem dX7_isPrime_5 : decode cX7_isPrime 5 = .ok (.iconst 1, 1) := by decide +kernel
theorem dX7_isPrime_6 : decode cX7_isPrime 6 = .ok (.goto 4, 3) := by decide +kernel
theorem dX7_isPrime_9 : decode cX7_isPrime 9 = .ok (.iconst 0, 1) := by decide +kernel
theorem dX7_isPrime_10 : decode cX7_isPrime 10 = .ok (.istore_n 1, 1) := by decide +kernel
theorem dX7_isPrime_11 : decode cX7_isPrime 11 = .ok (.iconst 2, 1) := by decide +kernel
theorem dX7_isPrime_12 : decode cX7_isPrime 12 = .ok (.istore_n 2, 1) := by decide +kernel
theorem dX7_isPrime_13 : decode cX7_isPrime 13 = .ok (.iload_n 2, 1) := by decide +kernel
theorem dX7_isPrime_14 : decode cX7_isPrime 14 = .ok (.iload_n 2, 1) := by decide +kernel
theorem dX7_isPrime_15 : decode cX7_isPrime 15 = .ok (.imul, 1) := by decide +kernel
theorem dX7_isPrime_16 : decode cX7_isPrime 16 = .ok (.iload_n 0, 1) := by decide +kernel
theorem dX7_isPrime_17 : decode cX7_isPrime 17 = .ok (.if_icmp .gt 25, 3) := by decide +kernel
theorem dX7_isPrime_20 : decode cX7_isPrime 20 = .ok (.iload_n 1, 1) := by decide +kernel
theorem dX7_isPrime_21 : decode cX7_isPrime 21 = .ok (.ifCond .eq 21, 3) := by decide +kernel
theorem dX7_isPrime_24 : decode cX7_isPrime 24 = .ok (.iload_n 0, 1) := by decide +kernel
theorem dX7_isPrime_25 : decode cX7_isPrime 25 = .ok (.iload_n 2, 1) := by decide +kernel
theorem dX7_isPrime_26 : decode cX7_isPrime 26 = .ok (.irem, 1) := by decide +kernel
theorem dX7_isPrime_27 : decode cX7_isPrime 27 = .ok (.ifCond .eq 7, 3) := by decide +kernel
theorem dX7_isPrime_30 : decode cX7_isPrime 30 = .ok (.iconst 1, 1) := by decide +kernel
theorem dX7_isPrime_31 : decode cX7_isPrime 31 = .ok (.goto 4, 3) := by decide +kernel
theorem dX7_isPrime_34 : decode cX7_isPrime 34 = .ok (.iconst 0, 1) := by decide +kernel
theorem dX7_isPrime_35 : decode cX7_isPrime 35 = .ok (.istore_n 1, 1) := by decide +kernel
theorem dX7_isPrime_36 : decode cX7_isPrime 36 = .ok (.iinc 2 1, 3) := by decide +kernel
theorem dX7_isPrime_39 : decode cX7_isPrime 39 = .ok (.goto (-26), 3) := by decide +kernel
theorem dX7_isPrime_42 : decode cX7_isPrime 42 = .ok (.iload_n 1, 1) := by decide +kernel
theorem dX7_isPrime_43 : decode cX7_isPrime 43 = .ok (.ireturn, 1) := by decide +kernel
set_option maxRecDepth 20000 in
theorem ggX7_isOdd_X7_in : GoodIn wsX7_isOdd wsX7_in := goodIn_r _ [6] (by decide +kernel) (by decide +kernel)
set_option maxRecDepth 20000 in
theorem gX7_isOdd_X7_in : GoodIn wsX7_isOdd (va_wsS RX7 60 yX7_in wsX7_in) := goodIn_app (goodIn_of _ (by decide +kernel)) ggX7_isOdd_X7_in
theorem dX7_isOdd_0 : decode cX7_isOdd 0 = .ok (.iload_n 0, 1) := by decide +kernel
theorem dX7_isOdd_1 : decode cX7_isOdd 1 = .ok (.i2l, 1) := by decide +kernel
theorem dX7_isOdd_2 : decode cX7_isOdd 2 = .ok (.ldc2_w 94, 3) := by decide +kernel
theorem dX7_isOdd_5 : decode cX7_isOdd 5 = .ok (.ldc2_w 163, 3) := by decide +kernel
theorem dX7_isOdd_8 : decode cX7_isOdd 8 = .ok (.invokestatic 60, 3) := by decide +kernel
theorem dX7_isOdd_11 : decode cX7_isOdd 11 = .ok (.ifCond .eq 14, 3) := by decide +kernel
theorem dX7_isOdd_14 : decode cX7_isOdd 14 = .ok (.iload_n 0, 1) := by decide +kernel
theorem dX7_isOdd_15 : decode cX7_isOdd 15 = .ok (.iconst 2, 1) := by decide +kernel
theorem dX7_isOdd_16 : decode cX7_isOdd 16 = .ok (.irem, 1) := by decide +kernel
theorem dX7_isOdd_17 : decode cX7_isOdd 17 = .ok (.iconst 1, 1) := by decide +kernel
theorem dX7_isOdd_18 : decode cX7_isOdd 18 = .ok (.if_icmp .ne 7, 3) := by decide +kernel
theorem dX7_isOdd_21 : decode cX7_isOdd 21 = .ok (.iconst 1, 1) := by decide +kernel
theorem dX7_isOdd_22 : decode cX7_isOdd 22 = .ok (.goto 4, 3) := by decide +kernel
theorem dX7_isOdd_25 : decode cX7_isOdd 25 = .ok (.iconst 0, 1) := by decide +kernel
theorem dX7_isOdd_26 : decode cX7_isOdd 26 = .ok (.ireturn, 1) := by decide +kernel
set_option maxRecDepth 20000 in
theorem ggX7_looksSo_X7_powerOf : GoodIn wsX7_looksSo wsX7_powerOf := goodIn_r _ [4, 5] (by decide +kernel) (by decide +kernel)
set_option maxRecDepth 20000 in
theorem gX7_looksSo_X7_powerOf : GoodIn wsX7_looksSo (va_wsS RX7 88 yX7_powerOf wsX7_powerOf) := goodIn_app (goodIn_of _ (by decide +kernel)) ggX7_looksSo_X7_powerOf
theorem dX7_looksSo_0 : decode cX7_looksSo 0 = .ok (.iload_n 0, 1) := by decide +kernel
theorem dX7_looksSo_1 : decode cX7_looksSo 1 = .ok (.iload_n 1, 1) := by decide +kernel
theorem dX7_looksSo_2 : decode cX7_looksSo 2 = .ok (.iload_n 0, 1) := by decide +kernel
theorem dX7_looksSo_3 : decode cX7_looksSo 3 = .ok (.iconst 1, 1) := by decide +kernel
theorem dX7_looksSo_4 : decode cX7_looksSo 4 = .ok (.isub, 1) := by decide +kernel
theorem dX7_looksSo_5 : decode cX7_looksSo 5 = .ok (.i2l, 1) := by decide +kernel
theorem dX7_looksSo_6 : decode cX7_looksSo 6 = .ok (.invokestatic 88, 3) := by decide +kernel
theorem dX7_looksSo_9 : decode cX7_looksSo 9 = .ok (.iconst 1, 1) := by decide +kernel
theorem dX7_looksSo_10 : decode cX7_looksSo 10 = .ok (.if_icmp .ne 7, 3) := by decide +kernel
theorem dX7_looksSo_13 : decode cX7_looksSo 13 = .ok (.iconst 1, 1) := by decide +kernel
theorem dX7_looksSo_14 : decode cX7_looksSo 14 = .ok (.goto 4, 3) := by decide +kernel
theorem dX7_looksSo_17 : decode cX7_looksSo 17 = .ok (.iconst 0, 1) := by decide +kernel
theorem dX7_looksSo_18 : decode cX7_looksSo 18 = .ok (.ireturn, 1) := by decide +kernel
set_option maxRecDepth 20000 in
theorem ggX7_isStrong_X7_powerOf : GoodIn wsX7_isStrong wsX7_powerOf := goodIn_r _ [4, 5] (by decide +kernel) (by decide +kernel)
set_option maxRecDepth 20000 in
theorem gX7_isStrong_X7_powerOf : GoodIn wsX7_isStrong (va_wsS RX7 88 yX7_powerOf wsX7_powerOf) := goodIn_app (goodIn_of _ (by decide +kernel)) ggX7_isStrong_X7_powerOf
theorem dX7_isStrong_0 : decode cX7_isStrong 0 = .ok (.iload_n 0, 1) := by decide +kernel
theorem dX7_isStrong_1 : decode cX7_isStrong 1 = .ok (.iconst 1, 1) := by decide +kernel
theorem dX7_isStrong_2 : decode cX7_isStrong 2 = .ok (.isub, 1) := by decide +kernel
theorem dX7_isStrong_3 : decode cX7_isStrong 3 = .ok (.istore_n 2, 1) := by decide +kernel
theorem dX7_isStrong_4 : decode cX7_isStrong 4 = .ok (.iconst 0, 1) := by decide +kernel
theorem dX7_isStrong_5 : decode cX7_isStrong 5 = .ok (.istore_n 3, 1) := by decide +kernel
theorem dX7_isStrong_6 : decode cX7_isStrong 6 = .ok (.iload_n 2, 1) := by decide +kernel
theorem dX7_isStrong_7 : decode cX7_isStrong 7 = .ok (.iconst 2, 1) := by decide +kernel
theorem dX7_isStrong_8 : decode cX7_isStrong 8 = .ok (.irem, 1) := by decide +kernel
theorem dX7_isStrong_9 : decode cX7_isStrong 9 = .ok (.ifCond .ne 13, 3) := by decide +kernel
theorem dX7_isStrong_12 : decode cX7_isStrong 12 = .ok (.iload_n 2, 1) := by decide +kernel
theorem dX7_isStrong_13 : decode cX7_isStrong 13 = .ok (.iconst 2, 1) := by decide +kernel
theorem dX7_isStrong_14 : decode cX7_isStrong 14 = .ok (.idiv, 1) := by decide +kernel
theorem dX7_isStrong_15 : decode cX7_isStrong 15 = .ok (.istore_n 2, 1) := by decide +kernel
theorem dX7_isStrong_16 : decode cX7_isStrong 16 = .ok (.iinc 3 1, 3) := by decide +kernel
theorem dX7_isStrong_19 : decode cX7_isStrong 19 = .ok (.goto (-13), 3) := by decide +kernel
theorem dX7_isStrong_22 : decode cX7_isStrong 22 = .ok (.iload_n 0, 1) := by decide +kernel
theorem dX7_isStrong_23 : decode cX7_isStrong 23 = .ok (.iload_n 1, 1) := by decide +kernel
theorem dX7_isStrong_24 : decode cX7_isStrong 24 = .ok (.iload_n 2, 1) := by decide +kernel
theorem dX7_isStrong_25 : decode cX7_isStrong 25 = .ok (.i2l, 1) := by decide +kernel
theorem dX7_isStrong_26 : decode cX7_isStrong 26 = .ok (.invokestatic 88, 3) := by decide +kernel
theorem dX7_isStrong_29 : decode cX7_isStrong 29 = .ok (.i2l, 1) := by decide +kernel
theorem dX7_isStrong_30 : decode cX7_isStrong 30 = .ok (.lstore 4, 2) := by decide +kernel
theorem dX7_isStrong_32 : decode cX7_isStrong 32 = .ok (.lload 4, 2) := by decide +kernel
theorem dX7_isStrong_34 : decode cX7_isStrong 34 = .ok (.lconst 1, 1) := by decide +kernel
theorem dX7_isStrong_35 : decode cX7_isStrong 35 = .ok (.lcmp, 1) := by decide +kernel
theorem dX7_isStrong_36 : decode cX7_isStrong 36 = .ok (.ifCond .ne 7, 3) := by decide +kernel
theorem dX7_isStrong_39 : decode cX7_isStrong 39 = .ok (.iconst 1, 1) := by decide +kernel
theorem dX7_isStrong_40 : decode cX7_isStrong 40 = .ok (.goto 4, 3) := by decide +kernel
theorem dX7_isStrong_43 : decode cX7_isStrong 43 = .ok (.iconst 0, 1) := by decide +kernel
theorem dX7_isStrong_44 : decode cX7_isStrong 44 = .ok (.istore 6, 2) := by decide +kernel
theorem dX7_isStrong_46 : decode cX7_isStrong 46 = .ok (.iconst 0, 1) := by decide +kernel
theorem dX7_isStrong_47 : decode cX7_isStrong 47 = .ok (.istore 7, 2) := by decide +kernel
theorem dX7_isStrong_49 : decode cX7_isStrong 49 = .ok (.iload 7, 2) := by decide +kernel
theorem dX7_isStrong_51 : decode cX7_isStrong 51 = .ok (.iload_n 3, 1) := by decide +kernel
theorem dX7_isStrong_52 : decode cX7_isStrong 52 = .ok (.if_icmp .ge 41, 3) := by decide +kernel
theorem dX7_isStrong_55 : decode cX7_isStrong 55 = .ok (.iload 6, 2) := by decide +kernel
theorem dX7_isStrong_57 : decode cX7_isStrong 57 = .ok (.ifCond .ne 13, 3) := by decide +kernel
theorem dX7_isStrong_60 : decode cX7_isStrong 60 = .ok (.lload 4, 2) := by decide +kernel
theorem dX7_isStrong_62 : decode cX7_isStrong 62 = .ok (.iload_n 0, 1) := by decide +kernel
theorem dX7_isStrong_63 : decode cX7_isStrong 63 = .ok (.iconst 1, 1) := by decide +kernel
theorem dX7_isStrong_64 : decode cX7_isStrong 64 = .ok (.isub, 1) := by decide +kernel
theorem dX7_isStrong_65 : decode cX7_isStrong 65 = .ok (.i2l, 1) := by decide +kernel
theorem dX7_isStrong_66 : decode cX7_isStrong 66 = .ok (.lcmp, 1) := by decide +kernel
theorem dX7_isStrong_67 : decode cX7_isStrong 67 = .ok (.ifCond .ne 7, 3) := by decide +kernel
theorem dX7_isStrong_70 : decode cX7_isStrong 70 = .ok (.iconst 1, 1) := by decide +kernel
theorem dX7_isStrong_71 : decode cX7_isStrong 71 = .ok (.goto 4, 3) := by decide +kernel
theorem dX7_isStrong_74 : decode cX7_isStrong 74 = .ok (.iconst 0, 1) := by decide +kernel
theorem dX7_isStrong_75 : decode cX7_isStrong 75 = .ok (.istore 6, 2) := by decide +kernel
theorem dX7_isStrong_77 : decode cX7_isStrong 77 = .ok (.lload 4, 2) := by decide +kernel
theorem dX7_isStrong_79 : decode cX7_isStrong 79 = .ok (.lload 4, 2) := by decide +kernel
theorem dX7_isStrong_81 : decode cX7_isStrong 81 = .ok (.lmul, 1) := by decide +kernel
theorem dX7_isStrong_82 : decode cX7_isStrong 82 = .ok (.iload_n 0, 1) := by decide +kernel
theorem dX7_isStrong_83 : decode cX7_isStrong 83 = .ok (.i2l, 1) := by decide +kernel
theorem dX7_isStrong_84 : decode cX7_isStrong 84 = .ok (.lrem, 1) := by decide +kernel
theorem dX7_isStrong_85 : decode cX7_isStrong 85 = .ok (.lstore 4, 2) := by decide +kernel
theorem dX7_isStrong_87 : decode cX7_isStrong 87 = .ok (.iinc 7 1, 3) := by decide +kernel
theorem dX7_isStrong_90 : decode cX7_isStrong 90 = .ok (.goto (-41), 3) := by decide +kernel
theorem dX7_isStrong_93 : decode cX7_isStrong 93 = .ok (.iload 6, 2) := by decide +kernel
theorem dX7_isStrong_95 : decode cX7_isStrong 95 = .ok (.ireturn, 1) := by decide +kernel
set_option maxRecDepth 20000 in
theorem ggX7_looks_X7_isOdd : GoodIn wsX7_looks wsX7_isOdd := goodIn_r _ [5, 6, 7, 8, 9, 4, 10] (by decide +kernel) (by decide +kernel)
set_option maxRecDepth 20000 in
theorem gX7_looks_X7_isOdd : GoodIn wsX7_looks (va_wsS RX7 165 yX7_isOdd wsX7_isOdd) := goodIn_app (goodIn_of _ (by decide +kernel)) ggX7_looks_X7_isOdd
set_option maxRecDepth 20000 in
theorem ggX7_looks_X7_in : GoodIn wsX7_looks wsX7_in := goodIn_r _ [10] (by decide +kernel) (by decide +kernel)
set_option maxRecDepth 20000 in
theorem gX7_looks_X7_in : GoodIn wsX7_looks (va_wsS RX7 60 yX7_in wsX7_in) := goodIn_app (goodIn_of _ (by decide +kernel)) ggX7_looks_X7_in
set_option maxRecDepth 20000 in
theorem ggX7_looks_X7_isStrong : GoodIn wsX7_looks wsX7_isStrong := goodIn_r _ [13, 14, 15, 4, 16, 1] (by decide +kernel) (by decide +kernel)
set_option maxRecDepth 20000 in
theorem gX7_looks_X7_isStrong : GoodIn wsX7_looks (va_wsS RX7 168 yX7_isStrong wsX7_isStrong) := goodIn_app (goodIn_of _ (by decide +kernel)) ggX7_looks_X7_isStrong
set_option maxRecDepth 20000 in
theorem ggX7_looks_X7_looksSo : GoodIn wsX7_looks wsX7_looksSo := goodIn_r _ [19, 14, 15, 4, 16, 1] (by decide +kernel) (by decide +kernel)
set_option maxRecDepth 20000 in
theorem gX7_looks_X7_looksSo : GoodIn wsX7_looks (va_wsS RX7 171 yX7_looksSo wsX7_looksSo) := goodIn_app (goodIn_of _ (by decide +kernel)) ggX7_looks_X7_looksSo
set_option maxRecDepth 20000 in
theorem ggX7_looks_X7_isPrime : GoodIn wsX7_looks wsX7_isPrime := goodIn_r _ [22] (by decide +kernel) (by decide +kernel)
set_option maxRecDepth 20000 in
theorem gX7_looks_X7_isPrime : GoodIn wsX7_looks (va_wsS RX7 174 yX7_isPrime wsX7_isPrime) := goodIn_app (goodIn_of _ (by decide +kernel)) ggX7_looks_X7_isPrime
theorem dX7_looks_0 : decode cX7_looks 0 = .ok (.iload_n 1, 1) := by decide +kernel
theorem dX7_looks_1 : decode cX7_looks 1 = .ok (.invokestatic 165, 3) := by decide +kernel
theorem dX7_looks_4 : decode cX7_looks 4 = .ok (.ifCond .eq 28, 3) := by decide +kernel
theorem dX7_looks_7 : decode cX7_looks 7 = .ok (.iload_n 2, 1) := by decide +kernel
theorem dX7_looks_8 : decode cX7_looks 8 = .ok (.i2l, 1) := by decide +kernel
theorem dX7_looks_9 : decode cX7_looks 9 = .ok (.lconst 1, 1) := by decide +kernel
theorem dX7_looks_10 : decode cX7_looks 10 = .ok (.iload_n 1, 1) := by decide +kernel
theorem dX7_looks_11 : decode cX7_looks 11 = .ok (.iconst 1, 1) := by decide +kernel
theorem dX7_looks_12 : decode cX7_looks 12 = .ok (.isub, 1) := by decide +kernel
theorem dX7_looks_13 : decode cX7_looks 13 = .ok (.i2l, 1) := by decide +kernel
theorem dX7_looks_14 : decode cX7_looks 14 = .ok (.invokestatic 60, 3) := by decide +kernel
theorem dX7_looks_17 : decode cX7_looks 17 = .ok (.ifCond .eq 15, 3) := by decide +kernel
theorem dX7_looks_20 : decode cX7_looks 20 = .ok (.iload_n 3, 1) := by decide +kernel
theorem dX7_looks_21 : decode cX7_looks 21 = .ok (.i2l, 1) := by decide +kernel
theorem dX7_looks_22 : decode cX7_looks 22 = .ok (.lconst 0, 1) := by decide +kernel
theorem dX7_looks_23 : decode cX7_looks 23 = .ok (.ldc2_w 56, 3) := by decide +kernel
theorem dX7_looks_26 : decode cX7_looks 26 = .ok (.invokestatic 60, 3) := by decide +kernel
theorem dX7_looks_29 : decode cX7_looks 29 = .ok (.ifCond .ne 5, 3) := by decide +kernel
theorem dX7_looks_32 : decode cX7_looks 32 = .ok (.iconst (-1), 1) := by decide +kernel
theorem dX7_looks_33 : decode cX7_looks 33 = .ok (.ireturn, 1) := by decide +kernel
theorem dX7_looks_34 : decode cX7_looks 34 = .ok (.iload_n 3, 1) := by decide +kernel
theorem dX7_looks_35 : decode cX7_looks 35 = .ok (.iconst 1, 1) := by decide +kernel
theorem dX7_looks_36 : decode cX7_looks 36 = .ok (.if_icmp .ne 11, 3) := by decide +kernel
theorem dX7_looks_39 : decode cX7_looks 39 = .ok (.iload_n 1, 1) := by decide +kernel
theorem dX7_looks_40 : decode cX7_looks 40 = .ok (.iload_n 2, 1) := by decide +kernel
theorem dX7_looks_41 : decode cX7_looks 41 = .ok (.invokestatic 168, 3) := by decide +kernel
theorem dX7_looks_44 : decode cX7_looks 44 = .ok (.goto 27, 3) := by decide +kernel
theorem dX7_looks_47 : decode cX7_looks 47 = .ok (.iload_n 1, 1) := by decide +kernel
theorem dX7_looks_48 : decode cX7_looks 48 = .ok (.iload_n 2, 1) := by decide +kernel
theorem dX7_looks_49 : decode cX7_looks 49 = .ok (.invokestatic 171, 3) := by decide +kernel
theorem dX7_looks_52 : decode cX7_looks 52 = .ok (.ifCond .eq 18, 3) := by decide +kernel
theorem dX7_looks_55 : decode cX7_looks 55 = .ok (.iload_n 3, 1) := by decide +kernel
theorem dX7_looks_56 : decode cX7_looks 56 = .ok (.ifCond .eq 10, 3) := by decide +kernel
theorem dX7_looks_59 : decode cX7_looks 59 = .ok (.iload_n 1, 1) := by decide +kernel
theorem dX7_looks_60 : decode cX7_looks 60 = .ok (.invokestatic 174, 3) := by decide +kernel
theorem dX7_looks_63 : decode cX7_looks 63 = .ok (.ifCond .ne 7, 3) := by decide +kernel
theorem dX7_looks_66 : decode cX7_looks 66 = .ok (.iconst 1, 1) := by decide +kernel
theorem dX7_looks_67 : decode cX7_looks 67 = .ok (.goto 4, 3) := by decide +kernel
theorem dX7_looks_70 : decode cX7_looks 70 = .ok (.iconst 0, 1) := by decide +kernel
theorem dX7_looks_71 : decode cX7_looks 71 = .ok (.istore 4, 2) := by decide +kernel
theorem dX7_looks_73 : decode cX7_looks 73 = .ok (.iload 4, 2) := by decide +kernel
theorem dX7_looks_75 : decode cX7_looks 75 = .ok (.ifCond .eq 7, 3) := by decide +kernel
theorem dX7_looks_78 : decode cX7_looks 78 = .ok (.iconst 1, 1) := by decide +kernel
theorem dX7_looks_79 : decode cX7_looks 79 = .ok (.goto 4, 3) := by decide +kernel
theorem dX7_looks_82 : decode cX7_looks 82 = .ok (.iconst 0, 1) := by decide +kernel
theorem dX7_looks_83 : decode cX7_looks 83 = .ok (.ireturn, 1) := by decide +kernel
set_option maxRecDepth 20000 in
theorem ggX7_lied_X7_isOdd : GoodIn wsX7_lied wsX7_isOdd := goodIn_r _ [5, 6, 7, 8, 9, 4, 10] (by decide +kernel) (by decide +kernel)
set_option maxRecDepth 20000 in
theorem gX7_lied_X7_isOdd : GoodIn wsX7_lied (va_wsS RX7 165 yX7_isOdd wsX7_isOdd) := goodIn_app (goodIn_of _ (by decide +kernel)) ggX7_lied_X7_isOdd
set_option maxRecDepth 20000 in
theorem ggX7_lied_X7_in : GoodIn wsX7_lied wsX7_in := goodIn_r _ [10] (by decide +kernel) (by decide +kernel)
set_option maxRecDepth 20000 in
theorem gX7_lied_X7_in : GoodIn wsX7_lied (va_wsS RX7 60 yX7_in wsX7_in) := goodIn_app (goodIn_of _ (by decide +kernel)) ggX7_lied_X7_in
set_option maxRecDepth 20000 in
theorem ggX7_lied_X7_looksSo : GoodIn wsX7_lied wsX7_looksSo := goodIn_r _ [13, 14, 15, 4, 16, 1] (by decide +kernel) (by decide +kernel)
set_option maxRecDepth 20000 in
theorem gX7_lied_X7_looksSo : GoodIn wsX7_lied (va_wsS RX7 171 yX7_looksSo wsX7_looksSo) := goodIn_app (goodIn_of _ (by decide +kernel)) ggX7_lied_X7_looksSo
set_option maxRecDepth 20000 in
theorem ggX7_lied_X7_isStrong : GoodIn wsX7_lied wsX7_isStrong := goodIn_r _ [19, 14, 15, 4, 16, 1] (by decide +kernel) (by decide +kernel)
set_option maxRecDepth 20000 in
theorem gX7_lied_X7_isStrong : GoodIn wsX7_lied (va_wsS RX7 168 yX7_isStrong wsX7_isStrong) := goodIn_app (goodIn_of _ (by decide +kernel)) ggX7_lied_X7_isStrong
theorem dX7_lied_0 : decode cX7_lied 0 = .ok (.iload_n 1, 1) := by decide +kernel
theorem dX7_lied_1 : decode cX7_lied 1 = .ok (.invokestatic 165, 3) := by decide +kernel
theorem dX7_lied_4 : decode cX7_lied 4 = .ok (.ifCond .eq 15, 3) := by decide +kernel
theorem dX7_lied_7 : decode cX7_lied 7 = .ok (.iload_n 2, 1) := by decide +kernel
theorem dX7_lied_8 : decode cX7_lied 8 = .ok (.i2l, 1) := by decide +kernel
theorem dX7_lied_9 : decode cX7_lied 9 = .ok (.lconst 0, 1) := by decide +kernel
theorem dX7_lied_10 : decode cX7_lied 10 = .ok (.ldc2_w 56, 3) := by decide +kernel
theorem dX7_lied_13 : decode cX7_lied 13 = .ok (.invokestatic 60, 3) := by decide +kernel
theorem dX7_lied_16 : decode cX7_lied 16 = .ok (.ifCond .ne 5, 3) := by decide +kernel
theorem dX7_lied_19 : decode cX7_lied 19 = .ok (.iconst (-1), 1) := by decide +kernel
theorem dX7_lied_20 : decode cX7_lied 20 = .ok (.ireturn, 1) := by decide +kernel
theorem dX7_lied_21 : decode cX7_lied 21 = .ok (.iconst 0, 1) := by decide +kernel
theorem dX7_lied_22 : decode cX7_lied 22 = .ok (.istore_n 3, 1) := by decide +kernel
theorem dX7_lied_23 : decode cX7_lied 23 = .ok (.iconst 0, 1) := by decide +kernel
theorem dX7_lied_24 : decode cX7_lied 24 = .ok (.istore 4, 2) := by decide +kernel
theorem dX7_lied_26 : decode cX7_lied 26 = .ok (.bipush (-4), 2) := by decide +kernel
theorem dX7_lied_28 : decode cX7_lied 28 = .ok (.istore 5, 2) := by decide +kernel
theorem dX7_lied_30 : decode cX7_lied 30 = .ok (.iconst 1, 1) := by decide +kernel
theorem dX7_lied_31 : decode cX7_lied 31 = .ok (.istore 6, 2) := by decide +kernel
theorem dX7_lied_33 : decode cX7_lied 33 = .ok (.iload 6, 2) := by decide +kernel
theorem dX7_lied_35 : decode cX7_lied 35 = .ok (.iload_n 1, 1) := by decide +kernel
theorem dX7_lied_36 : decode cX7_lied 36 = .ok (.if_icmp .ge 92, 3) := by decide +kernel
theorem dX7_lied_39 : decode cX7_lied 39 = .ok (.iload_n 3, 1) := by decide +kernel
theorem dX7_lied_40 : decode cX7_lied 40 = .ok (.iload_n 2, 1) := by decide +kernel
theorem dX7_lied_41 : decode cX7_lied 41 = .ok (.ifCond .ne 16, 3) := by decide +kernel
theorem dX7_lied_44 : decode cX7_lied 44 = .ok (.iload_n 1, 1) := by decide +kernel
theorem dX7_lied_45 : decode cX7_lied 45 = .ok (.iload 6, 2) := by decide +kernel
theorem dX7_lied_47 : decode cX7_lied 47 = .ok (.invokestatic 171, 3) := by decide +kernel
theorem dX7_lied_50 : decode cX7_lied 50 = .ok (.ifCond .eq 7, 3) := by decide +kernel
theorem dX7_lied_53 : decode cX7_lied 53 = .ok (.iconst 1, 1) := by decide +kernel
theorem dX7_lied_54 : decode cX7_lied 54 = .ok (.goto 4, 3) := by decide +kernel
theorem dX7_lied_57 : decode cX7_lied 57 = .ok (.iconst 0, 1) := by decide +kernel
theorem dX7_lied_58 : decode cX7_lied 58 = .ok (.iadd, 1) := by decide +kernel
theorem dX7_lied_59 : decode cX7_lied 59 = .ok (.istore_n 3, 1) := by decide +kernel
theorem dX7_lied_60 : decode cX7_lied 60 = .ok (.iload_n 2, 1) := by decide +kernel
end
section
theorem dX7_lied_61 : decode cX7_lied 61 = .ok (.ifCond .le 16, 3) := by decide +kernel
theorem dX7_lied_64 : decode cX7_lied 64 = .ok (.iload_n 1, 1) := by decide +kernel
theorem dX7_lied_65 : decode cX7_lied 65 = .ok (.iload 6, 2) := by decide +kernel
theorem dX7_lied_67 : decode cX7_lied 67 = .ok (.invokestatic 168, 3) := by decide +kernel
theorem dX7_lied_70 : decode cX7_lied 70 = .ok (.ifCond .eq 7, 3) := by decide +kernel
theorem dX7_lied_73 : decode cX7_lied 73 = .ok (.iconst 1, 1) := by decide +kernel
theorem dX7_lied_74 : decode cX7_lied 74 = .ok (.goto 4, 3) := by decide +kernel
theorem dX7_lied_77 : decode cX7_lied 77 = .ok (.iconst 0, 1) := by decide +kernel
theorem dX7_lied_78 : decode cX7_lied 78 = .ok (.istore 7, 2) := by decide +kernel
theorem dX7_lied_80 : decode cX7_lied 80 = .ok (.iload 4, 2) := by decide +kernel
theorem dX7_lied_82 : decode cX7_lied 82 = .ok (.iload 7, 2) := by decide +kernel
theorem dX7_lied_84 : decode cX7_lied 84 = .ok (.ifCond .eq 7, 3) := by decide +kernel
theorem dX7_lied_87 : decode cX7_lied 87 = .ok (.iconst 1, 1) := by decide +kernel
theorem dX7_lied_88 : decode cX7_lied 88 = .ok (.goto 4, 3) := by decide +kernel
theorem dX7_lied_91 : decode cX7_lied 91 = .ok (.iconst 0, 1) := by decide +kernel
theorem dX7_lied_92 : decode cX7_lied 92 = .ok (.iadd, 1) := by decide +kernel
theorem dX7_lied_93 : decode cX7_lied 93 = .ok (.istore 4, 2) := by decide +kernel
theorem dX7_lied_95 : decode cX7_lied 95 = .ok (.iload_n 2, 1) := by decide +kernel
theorem dX7_lied_96 : decode cX7_lied 96 = .ok (.iconst 2, 1) := by decide +kernel
theorem dX7_lied_97 : decode cX7_lied 97 = .ok (.if_icmp .ne 25, 3) := by decide +kernel
theorem dX7_lied_100 : decode cX7_lied 100 = .ok (.iload 7, 2) := by decide +kernel
theorem dX7_lied_102 : decode cX7_lied 102 = .ok (.ifCond .ne 20, 3) := by decide +kernel
theorem dX7_lied_105 : decode cX7_lied 105 = .ok (.iload 6, 2) := by decide +kernel
theorem dX7_lied_107 : decode cX7_lied 107 = .ok (.iconst 1, 1) := by decide +kernel
theorem dX7_lied_108 : decode cX7_lied 108 = .ok (.if_icmp .le 14, 3) := by decide +kernel
theorem dX7_lied_111 : decode cX7_lied 111 = .ok (.iload 6, 2) := by decide +kernel
theorem dX7_lied_113 : decode cX7_lied 113 = .ok (.iload_n 1, 1) := by decide +kernel
theorem dX7_lied_114 : decode cX7_lied 114 = .ok (.iconst 1, 1) := by decide +kernel
theorem dX7_lied_115 : decode cX7_lied 115 = .ok (.isub, 1) := by decide +kernel
theorem dX7_lied_116 : decode cX7_lied 116 = .ok (.if_icmp .ge 6, 3) := by decide +kernel
theorem dX7_lied_119 : decode cX7_lied 119 = .ok (.iload 6, 2) := by decide +kernel
theorem dX7_lied_121 : decode cX7_lied 121 = .ok (.ireturn, 1) := by decide +kernel
theorem dX7_lied_122 : decode cX7_lied 122 = .ok (.iinc 6 1, 3) := by decide +kernel
theorem dX7_lied_125 : decode cX7_lied 125 = .ok (.goto (-92), 3) := by decide +kernel
theorem dX7_lied_128 : decode cX7_lied 128 = .ok (.iload_n 2, 1) := by decide +kernel
theorem dX7_lied_129 : decode cX7_lied 129 = .ok (.ifCond .ne 7, 3) := by decide +kernel
theorem dX7_lied_132 : decode cX7_lied 132 = .ok (.iload_n 3, 1) := by decide +kernel
theorem dX7_lied_133 : decode cX7_lied 133 = .ok (.goto 15, 3) := by decide +kernel
theorem dX7_lied_136 : decode cX7_lied 136 = .ok (.iload_n 2, 1) := by decide +kernel
theorem dX7_lied_137 : decode cX7_lied 137 = .ok (.iconst 1, 1) := by decide +kernel
theorem dX7_lied_138 : decode cX7_lied 138 = .ok (.if_icmp .ne 8, 3) := by decide +kernel
theorem dX7_lied_141 : decode cX7_lied 141 = .ok (.iload 4, 2) := by decide +kernel
theorem dX7_lied_143 : decode cX7_lied 143 = .ok (.goto 5, 3) := by decide +kernel
theorem dX7_lied_146 : decode cX7_lied 146 = .ok (.iload 5, 2) := by decide +kernel
theorem dX7_lied_148 : decode cX7_lied 148 = .ok (.ireturn, 1) := by decide +kernel
set_option maxRecDepth 20000 in
theorem ggX7_isFalse_X7_isPrime : GoodIn wsX7_isFalse wsX7_isPrime := goodIn_r _ [4] (by decide +kernel) (by decide +kernel)
set_option maxRecDepth 20000 in
theorem gX7_isFalse_X7_isPrime : GoodIn wsX7_isFalse (va_wsS RX7 174 yX7_isPrime wsX7_isPrime) := goodIn_app (goodIn_of _ (by decide +kernel)) ggX7_isFalse_X7_isPrime
set_option maxRecDepth 20000 in
theorem ggX7_isFalse_X7_isUnit : GoodIn wsX7_isFalse wsX7_isUnit := goodIn_r _ [7, 8, 9, 3, 10] (by decide +kernel) (by decide +kernel)
set_option maxRecDepth 20000 in
theorem gX7_isFalse_X7_isUnit : GoodIn wsX7_isFalse (va_wsS RX7 72 yX7_isUnit wsX7_isUnit) := goodIn_app (goodIn_of _ (by decide +kernel)) ggX7_isFalse_X7_isUnit
set_option maxRecDepth 20000 in
theorem ggX7_isFalse_X7_looksSo : GoodIn wsX7_isFalse wsX7_looksSo := goodIn_r _ [13, 14, 15, 3, 16, 17] (by decide +kernel) (by decide +kernel)
set_option maxRecDepth 20000 in
theorem gX7_isFalse_X7_looksSo : GoodIn wsX7_isFalse (va_wsS RX7 171 yX7_looksSo wsX7_looksSo) := goodIn_app (goodIn_of _ (by decide +kernel)) ggX7_isFalse_X7_looksSo
theorem dX7_isFalse_0 : decode cX7_isFalse 0 = .ok (.iload_n 0, 1) := by decide +kernel
theorem dX7_isFalse_1 : decode cX7_isFalse 1 = .ok (.invokestatic 174, 3) := by decide +kernel
theorem dX7_isFalse_4 : decode cX7_isFalse 4 = .ok (.ifCond .eq 5, 3) := by decide +kernel
theorem dX7_isFalse_7 : decode cX7_isFalse 7 = .ok (.iconst 0, 1) := by decide +kernel
theorem dX7_isFalse_8 : decode cX7_isFalse 8 = .ok (.ireturn, 1) := by decide +kernel
theorem dX7_isFalse_9 : decode cX7_isFalse 9 = .ok (.iconst 1, 1) := by decide +kernel
theorem dX7_isFalse_10 : decode cX7_isFalse 10 = .ok (.istore_n 1, 1) := by decide +kernel
theorem dX7_isFalse_11 : decode cX7_isFalse 11 = .ok (.iconst 1, 1) := by decide +kernel
theorem dX7_isFalse_12 : decode cX7_isFalse 12 = .ok (.istore_n 2, 1) := by decide +kernel
theorem dX7_isFalse_13 : decode cX7_isFalse 13 = .ok (.iload_n 2, 1) := by decide +kernel
theorem dX7_isFalse_14 : decode cX7_isFalse 14 = .ok (.iload_n 0, 1) := by decide +kernel
theorem dX7_isFalse_15 : decode cX7_isFalse 15 = .ok (.if_icmp .ge 35, 3) := by decide +kernel
theorem dX7_isFalse_18 : decode cX7_isFalse 18 = .ok (.iload_n 1, 1) := by decide +kernel
theorem dX7_isFalse_19 : decode cX7_isFalse 19 = .ok (.ifCond .eq 31, 3) := by decide +kernel
theorem dX7_isFalse_22 : decode cX7_isFalse 22 = .ok (.iload_n 0, 1) := by decide +kernel
theorem dX7_isFalse_23 : decode cX7_isFalse 23 = .ok (.iload_n 2, 1) := by decide +kernel
theorem dX7_isFalse_24 : decode cX7_isFalse 24 = .ok (.invokestatic 72, 3) := by decide +kernel
theorem dX7_isFalse_27 : decode cX7_isFalse 27 = .ok (.ifCond .eq 11, 3) := by decide +kernel
theorem dX7_isFalse_30 : decode cX7_isFalse 30 = .ok (.iload_n 0, 1) := by decide +kernel
theorem dX7_isFalse_31 : decode cX7_isFalse 31 = .ok (.iload_n 2, 1) := by decide +kernel
theorem dX7_isFalse_32 : decode cX7_isFalse 32 = .ok (.invokestatic 171, 3) := by decide +kernel
theorem dX7_isFalse_35 : decode cX7_isFalse 35 = .ok (.ifCond .eq 7, 3) := by decide +kernel
theorem dX7_isFalse_38 : decode cX7_isFalse 38 = .ok (.iconst 1, 1) := by decide +kernel
theorem dX7_isFalse_39 : decode cX7_isFalse 39 = .ok (.goto 4, 3) := by decide +kernel
theorem dX7_isFalse_42 : decode cX7_isFalse 42 = .ok (.iconst 0, 1) := by decide +kernel
theorem dX7_isFalse_43 : decode cX7_isFalse 43 = .ok (.istore_n 1, 1) := by decide +kernel
theorem dX7_isFalse_44 : decode cX7_isFalse 44 = .ok (.iinc 2 1, 3) := by decide +kernel
theorem dX7_isFalse_47 : decode cX7_isFalse 47 = .ok (.goto (-34), 3) := by decide +kernel
theorem dX7_isFalse_50 : decode cX7_isFalse 50 = .ok (.iload_n 1, 1) := by decide +kernel
theorem dX7_isFalse_51 : decode cX7_isFalse 51 = .ok (.ireturn, 1) := by decide +kernel
set_option maxRecDepth 20000 in
theorem ggX7_falseOnes_X7_in : GoodIn wsX7_falseOnes wsX7_in := goodIn_r _ [6] (by decide +kernel) (by decide +kernel)
set_option maxRecDepth 20000 in
theorem gX7_falseOnes_X7_in : GoodIn wsX7_falseOnes (va_wsS RX7 60 yX7_in wsX7_in) := goodIn_app (goodIn_of _ (by decide +kernel)) ggX7_falseOnes_X7_in
set_option maxRecDepth 20000 in
theorem ggX7_falseOnes_X7_isFalse : GoodIn wsX7_falseOnes wsX7_isFalse := goodIn_r _ [9, 10, 11, 5, 12, 13, 14, 15, 16, 17, 18, 19, 20, 21, 22, 23, 24, 25] (by decide +kernel) (by decide +kernel)
set_option maxRecDepth 20000 in
theorem gX7_falseOnes_X7_isFalse : GoodIn wsX7_falseOnes (va_wsS RX7 179 yX7_isFalse wsX7_isFalse) := goodIn_app (goodIn_of _ (by decide +kernel)) ggX7_falseOnes_X7_isFalse
theorem dX7_falseOnes_0 : decode cX7_falseOnes 0 = .ok (.iload_n 1, 1) := by decide +kernel
theorem dX7_falseOnes_1 : decode cX7_falseOnes 1 = .ok (.i2l, 1) := by decide +kernel
theorem dX7_falseOnes_2 : decode cX7_falseOnes 2 = .ok (.ldc2_w 94, 3) := by decide +kernel
theorem dX7_falseOnes_5 : decode cX7_falseOnes 5 = .ok (.ldc2_w 177, 3) := by decide +kernel
theorem dX7_falseOnes_8 : decode cX7_falseOnes 8 = .ok (.invokestatic 60, 3) := by decide +kernel
theorem dX7_falseOnes_11 : decode cX7_falseOnes 11 = .ok (.ifCond .eq 8, 3) := by decide +kernel
theorem dX7_falseOnes_14 : decode cX7_falseOnes 14 = .ok (.iload_n 2, 1) := by decide +kernel
theorem dX7_falseOnes_15 : decode cX7_falseOnes 15 = .ok (.iconst (-1), 1) := by decide +kernel
theorem dX7_falseOnes_16 : decode cX7_falseOnes 16 = .ok (.if_icmp .ge 5, 3) := by decide +kernel
theorem dX7_falseOnes_19 : decode cX7_falseOnes 19 = .ok (.iconst (-1), 1) := by decide +kernel
theorem dX7_falseOnes_20 : decode cX7_falseOnes 20 = .ok (.ireturn, 1) := by decide +kernel
theorem dX7_falseOnes_21 : decode cX7_falseOnes 21 = .ok (.iconst 0, 1) := by decide +kernel
theorem dX7_falseOnes_22 : decode cX7_falseOnes 22 = .ok (.istore_n 3, 1) := by decide +kernel
theorem dX7_falseOnes_23 : decode cX7_falseOnes 23 = .ok (.iconst 3, 1) := by decide +kernel
theorem dX7_falseOnes_24 : decode cX7_falseOnes 24 = .ok (.istore 4, 2) := by decide +kernel
theorem dX7_falseOnes_26 : decode cX7_falseOnes 26 = .ok (.iload 4, 2) := by decide +kernel
theorem dX7_falseOnes_28 : decode cX7_falseOnes 28 = .ok (.iload_n 1, 1) := by decide +kernel
theorem dX7_falseOnes_29 : decode cX7_falseOnes 29 = .ok (.if_icmp .gt 28, 3) := by decide +kernel
theorem dX7_falseOnes_32 : decode cX7_falseOnes 32 = .ok (.iload 4, 2) := by decide +kernel
theorem dX7_falseOnes_34 : decode cX7_falseOnes 34 = .ok (.invokestatic 179, 3) := by decide +kernel
theorem dX7_falseOnes_37 : decode cX7_falseOnes 37 = .ok (.ifCond .eq 14, 3) := by decide +kernel
theorem dX7_falseOnes_40 : decode cX7_falseOnes 40 = .ok (.iload_n 3, 1) := by decide +kernel
theorem dX7_falseOnes_41 : decode cX7_falseOnes 41 = .ok (.iload_n 2, 1) := by decide +kernel
theorem dX7_falseOnes_42 : decode cX7_falseOnes 42 = .ok (.if_icmp .ne 6, 3) := by decide +kernel
theorem dX7_falseOnes_45 : decode cX7_falseOnes 45 = .ok (.iload 4, 2) := by decide +kernel
theorem dX7_falseOnes_47 : decode cX7_falseOnes 47 = .ok (.ireturn, 1) := by decide +kernel
theorem dX7_falseOnes_48 : decode cX7_falseOnes 48 = .ok (.iinc 3 1, 3) := by decide +kernel
theorem dX7_falseOnes_51 : decode cX7_falseOnes 51 = .ok (.iinc 4 2, 3) := by decide +kernel
theorem dX7_falseOnes_54 : decode cX7_falseOnes 54 = .ok (.goto (-28), 3) := by decide +kernel
theorem dX7_falseOnes_57 : decode cX7_falseOnes 57 = .ok (.iload_n 2, 1) := by decide +kernel
theorem dX7_falseOnes_58 : decode cX7_falseOnes 58 = .ok (.ifCond .ge 7, 3) := by decide +kernel
theorem dX7_falseOnes_61 : decode cX7_falseOnes 61 = .ok (.iload_n 3, 1) := by decide +kernel
theorem dX7_falseOnes_62 : decode cX7_falseOnes 62 = .ok (.goto 5, 3) := by decide +kernel
theorem dX7_falseOnes_65 : decode cX7_falseOnes 65 = .ok (.bipush (-4), 2) := by decide +kernel
theorem dX7_falseOnes_67 : decode cX7_falseOnes 67 = .ok (.ireturn, 1) := by decide +kernel
set_option maxRecDepth 20000 in
theorem ggX7_fooled_X7_in : GoodIn wsX7_fooled wsX7_in := goodIn_r _ [8] (by decide +kernel) (by decide +kernel)
set_option maxRecDepth 20000 in
theorem gX7_fooled_X7_in : GoodIn wsX7_fooled (va_wsS RX7 60 yX7_in wsX7_in) := goodIn_app (goodIn_of _ (by decide +kernel)) ggX7_fooled_X7_in
set_option maxRecDepth 20000 in
theorem ggX7_fooled_X7_isPrime : GoodIn wsX7_fooled wsX7_isPrime := goodIn_r _ [11] (by decide +kernel) (by decide +kernel)
set_option maxRecDepth 20000 in
theorem gX7_fooled_X7_isPrime : GoodIn wsX7_fooled (va_wsS RX7 174 yX7_isPrime wsX7_isPrime) := goodIn_app (goodIn_of _ (by decide +kernel)) ggX7_fooled_X7_isPrime
set_option maxRecDepth 20000 in
theorem ggX7_fooled_X7_isStrong : GoodIn wsX7_fooled wsX7_isStrong := goodIn_r _ [14, 15, 16, 7, 17, 1] (by decide +kernel) (by decide +kernel)
set_option maxRecDepth 20000 in
theorem gX7_fooled_X7_isStrong : GoodIn wsX7_fooled (va_wsS RX7 168 yX7_isStrong wsX7_isStrong) := goodIn_app (goodIn_of _ (by decide +kernel)) ggX7_fooled_X7_isStrong
theorem dX7_fooled_0 : decode cX7_fooled 0 = .ok (.iload_n 1, 1) := by decide +kernel
theorem dX7_fooled_1 : decode cX7_fooled 1 = .ok (.i2l, 1) := by decide +kernel
theorem dX7_fooled_2 : decode cX7_fooled 2 = .ok (.ldc2_w 56, 3) := by decide +kernel
theorem dX7_fooled_5 : decode cX7_fooled 5 = .ok (.ldc2_w 182, 3) := by decide +kernel
theorem dX7_fooled_8 : decode cX7_fooled 8 = .ok (.invokestatic 60, 3) := by decide +kernel
theorem dX7_fooled_11 : decode cX7_fooled 11 = .ok (.ifCond .eq 22, 3) := by decide +kernel
theorem dX7_fooled_14 : decode cX7_fooled 14 = .ok (.iload_n 2, 1) := by decide +kernel
theorem dX7_fooled_15 : decode cX7_fooled 15 = .ok (.i2l, 1) := by decide +kernel
theorem dX7_fooled_16 : decode cX7_fooled 16 = .ok (.ldc2_w 94, 3) := by decide +kernel
theorem dX7_fooled_19 : decode cX7_fooled 19 = .ok (.ldc2_w 163, 3) := by decide +kernel
theorem dX7_fooled_22 : decode cX7_fooled 22 = .ok (.invokestatic 60, 3) := by decide +kernel
theorem dX7_fooled_25 : decode cX7_fooled 25 = .ok (.ifCond .eq 8, 3) := by decide +kernel
theorem dX7_fooled_28 : decode cX7_fooled 28 = .ok (.iload_n 3, 1) := by decide +kernel
theorem dX7_fooled_29 : decode cX7_fooled 29 = .ok (.iconst (-1), 1) := by decide +kernel
theorem dX7_fooled_30 : decode cX7_fooled 30 = .ok (.if_icmp .ge 5, 3) := by decide +kernel
theorem dX7_fooled_33 : decode cX7_fooled 33 = .ok (.iconst (-1), 1) := by decide +kernel
theorem dX7_fooled_34 : decode cX7_fooled 34 = .ok (.ireturn, 1) := by decide +kernel
theorem dX7_fooled_35 : decode cX7_fooled 35 = .ok (.iconst 0, 1) := by decide +kernel
theorem dX7_fooled_36 : decode cX7_fooled 36 = .ok (.istore 4, 2) := by decide +kernel
theorem dX7_fooled_38 : decode cX7_fooled 38 = .ok (.iconst 3, 1) := by decide +kernel
theorem dX7_fooled_39 : decode cX7_fooled 39 = .ok (.istore 5, 2) := by decide +kernel
theorem dX7_fooled_41 : decode cX7_fooled 41 = .ok (.iload 5, 2) := by decide +kernel
theorem dX7_fooled_43 : decode cX7_fooled 43 = .ok (.iload_n 2, 1) := by decide +kernel
theorem dX7_fooled_44 : decode cX7_fooled 44 = .ok (.if_icmp .gt 70, 3) := by decide +kernel
theorem dX7_fooled_47 : decode cX7_fooled 47 = .ok (.iload 5, 2) := by decide +kernel
theorem dX7_fooled_49 : decode cX7_fooled 49 = .ok (.invokestatic 174, 3) := by decide +kernel
theorem dX7_fooled_52 : decode cX7_fooled 52 = .ok (.ifCond .ne 7, 3) := by decide +kernel
theorem dX7_fooled_55 : decode cX7_fooled 55 = .ok (.iconst 1, 1) := by decide +kernel
theorem dX7_fooled_56 : decode cX7_fooled 56 = .ok (.goto 4, 3) := by decide +kernel
theorem dX7_fooled_59 : decode cX7_fooled 59 = .ok (.iconst 0, 1) := by decide +kernel
theorem dX7_fooled_60 : decode cX7_fooled 60 = .ok (.istore 6, 2) := by decide +kernel
theorem dX7_fooled_62 : decode cX7_fooled 62 = .ok (.iconst 2, 1) := by decide +kernel
theorem dX7_fooled_63 : decode cX7_fooled 63 = .ok (.istore 7, 2) := by decide +kernel
theorem dX7_fooled_65 : decode cX7_fooled 65 = .ok (.iload 7, 2) := by decide +kernel
theorem dX7_fooled_67 : decode cX7_fooled 67 = .ok (.iload_n 1, 1) := by decide +kernel
theorem dX7_fooled_68 : decode cX7_fooled 68 = .ok (.if_icmp .gt 23, 3) := by decide +kernel
theorem dX7_fooled_71 : decode cX7_fooled 71 = .ok (.iload 6, 2) := by decide +kernel
theorem dX7_fooled_73 : decode cX7_fooled 73 = .ok (.ifCond .eq 18, 3) := by decide +kernel
theorem dX7_fooled_76 : decode cX7_fooled 76 = .ok (.iload 5, 2) := by decide +kernel
theorem dX7_fooled_78 : decode cX7_fooled 78 = .ok (.iload 7, 2) := by decide +kernel
theorem dX7_fooled_80 : decode cX7_fooled 80 = .ok (.invokestatic 168, 3) := by decide +kernel
theorem dX7_fooled_83 : decode cX7_fooled 83 = .ok (.istore 6, 2) := by decide +kernel
theorem dX7_fooled_85 : decode cX7_fooled 85 = .ok (.iinc 7 1, 3) := by decide +kernel
theorem dX7_fooled_88 : decode cX7_fooled 88 = .ok (.goto (-23), 3) := by decide +kernel
theorem dX7_fooled_91 : decode cX7_fooled 91 = .ok (.iload 6, 2) := by decide +kernel
theorem dX7_fooled_93 : decode cX7_fooled 93 = .ok (.ifCond .eq 15, 3) := by decide +kernel
theorem dX7_fooled_96 : decode cX7_fooled 96 = .ok (.iload 4, 2) := by decide +kernel
theorem dX7_fooled_98 : decode cX7_fooled 98 = .ok (.iload_n 3, 1) := by decide +kernel
theorem dX7_fooled_99 : decode cX7_fooled 99 = .ok (.if_icmp .ne 6, 3) := by decide +kernel
theorem dX7_fooled_102 : decode cX7_fooled 102 = .ok (.iload 5, 2) := by decide +kernel
theorem dX7_fooled_104 : decode cX7_fooled 104 = .ok (.ireturn, 1) := by decide +kernel
theorem dX7_fooled_105 : decode cX7_fooled 105 = .ok (.iinc 4 1, 3) := by decide +kernel
theorem dX7_fooled_108 : decode cX7_fooled 108 = .ok (.iinc 5 2, 3) := by decide +kernel
theorem dX7_fooled_111 : decode cX7_fooled 111 = .ok (.goto (-70), 3) := by decide +kernel
theorem dX7_fooled_114 : decode cX7_fooled 114 = .ok (.iload_n 3, 1) := by decide +kernel
theorem dX7_fooled_115 : decode cX7_fooled 115 = .ok (.ifCond .ge 8, 3) := by decide +kernel
theorem dX7_fooled_118 : decode cX7_fooled 118 = .ok (.iload 4, 2) := by decide +kernel
theorem dX7_fooled_120 : decode cX7_fooled 120 = .ok (.goto 5, 3) := by decide +kernel
theorem dX7_fooled_123 : decode cX7_fooled 123 = .ok (.bipush (-4), 2) := by decide +kernel
theorem dX7_fooled_125 : decode cX7_fooled 125 = .ok (.ireturn, 1) := by decide +kernel
set_option maxRecDepth 20000 in
theorem ggX7_isBase_X7_in : GoodIn wsX7_isBase wsX7_in := goodIn_r _ [6] (by decide +kernel) (by decide +kernel)
set_option maxRecDepth 20000 in
theorem gX7_isBase_X7_in : GoodIn wsX7_isBase (va_wsS RX7 60 yX7_in wsX7_in) := goodIn_app (goodIn_of _ (by decide +kernel)) ggX7_isBase_X7_in
theorem dX7_isBase_0 : decode cX7_isBase 0 = .ok (.iload_n 0, 1) := by decide +kernel
theorem dX7_isBase_1 : decode cX7_isBase 1 = .ok (.i2l, 1) := by decide +kernel
theorem dX7_isBase_2 : decode cX7_isBase 2 = .ok (.ldc2_w 56, 3) := by decide +kernel
theorem dX7_isBase_5 : decode cX7_isBase 5 = .ok (.ldc2_w 184, 3) := by decide +kernel
theorem dX7_isBase_8 : decode cX7_isBase 8 = .ok (.invokestatic 60, 3) := by decide +kernel
theorem dX7_isBase_11 : decode cX7_isBase 11 = .ok (.ireturn, 1) := by decide +kernel
set_option maxRecDepth 20000 in
theorem ggX7_aheadOf_X7_common : GoodIn wsX7_aheadOf wsX7_common := goodIn_r _ [4] (by decide +kernel) (by decide +kernel)
set_option maxRecDepth 20000 in
theorem gX7_aheadOf_X7_common : GoodIn wsX7_aheadOf (va_wsS RX7 64 yX7_common wsX7_common) := goodIn_app (goodIn_of _ (by decide +kernel)) ggX7_aheadOf_X7_common
theorem dX7_aheadOf_0 : decode cX7_aheadOf 0 = .ok (.iload_n 1, 1) := by decide +kernel
theorem dX7_aheadOf_1 : decode cX7_aheadOf 1 = .ok (.istore_n 2, 1) := by decide +kernel
theorem dX7_aheadOf_2 : decode cX7_aheadOf 2 = .ok (.iconst 0, 1) := by decide +kernel
theorem dX7_aheadOf_3 : decode cX7_aheadOf 3 = .ok (.istore_n 3, 1) := by decide +kernel
theorem dX7_aheadOf_4 : decode cX7_aheadOf 4 = .ok (.iload_n 2, 1) := by decide +kernel
theorem dX7_aheadOf_5 : decode cX7_aheadOf 5 = .ok (.iload_n 0, 1) := by decide +kernel
theorem dX7_aheadOf_6 : decode cX7_aheadOf 6 = .ok (.invokestatic 64, 3) := by decide +kernel
theorem dX7_aheadOf_9 : decode cX7_aheadOf 9 = .ok (.iconst 1, 1) := by decide +kernel
theorem dX7_aheadOf_10 : decode cX7_aheadOf 10 = .ok (.if_icmp .le 17, 3) := by decide +kernel
theorem dX7_aheadOf_13 : decode cX7_aheadOf 13 = .ok (.iload_n 2, 1) := by decide +kernel
theorem dX7_aheadOf_14 : decode cX7_aheadOf 14 = .ok (.iload_n 2, 1) := by decide +kernel
theorem dX7_aheadOf_15 : decode cX7_aheadOf 15 = .ok (.iload_n 0, 1) := by decide +kernel
theorem dX7_aheadOf_16 : decode cX7_aheadOf 16 = .ok (.invokestatic 64, 3) := by decide +kernel
theorem dX7_aheadOf_19 : decode cX7_aheadOf 19 = .ok (.idiv, 1) := by decide +kernel
theorem dX7_aheadOf_20 : decode cX7_aheadOf 20 = .ok (.istore_n 2, 1) := by decide +kernel
theorem dX7_aheadOf_21 : decode cX7_aheadOf 21 = .ok (.iinc 3 1, 3) := by decide +kernel
theorem dX7_aheadOf_24 : decode cX7_aheadOf 24 = .ok (.goto (-20), 3) := by decide +kernel
theorem dX7_aheadOf_27 : decode cX7_aheadOf 27 = .ok (.iload_n 3, 1) := by decide +kernel
theorem dX7_aheadOf_28 : decode cX7_aheadOf 28 = .ok (.ireturn, 1) := by decide +kernel
set_option maxRecDepth 20000 in
theorem ggX7_roundOf_X7_common : GoodIn wsX7_roundOf wsX7_common := goodIn_r _ [4] (by decide +kernel) (by decide +kernel)
set_option maxRecDepth 20000 in
theorem gX7_roundOf_X7_common : GoodIn wsX7_roundOf (va_wsS RX7 64 yX7_common wsX7_common) := goodIn_app (goodIn_of _ (by decide +kernel)) ggX7_roundOf_X7_common
set_option maxRecDepth 20000 in
theorem ggX7_roundOf_X7_orderOf : GoodIn wsX7_roundOf wsX7_orderOf := goodIn_r _ [7] (by decide +kernel) (by decide +kernel)
set_option maxRecDepth 20000 in
theorem gX7_roundOf_X7_orderOf : GoodIn wsX7_roundOf (va_wsS RX7 79 yX7_orderOf wsX7_orderOf) := goodIn_app (goodIn_of _ (by decide +kernel)) ggX7_roundOf_X7_orderOf
theorem dX7_roundOf_0 : decode cX7_roundOf 0 = .ok (.iload_n 1, 1) := by decide +kernel
theorem dX7_roundOf_1 : decode cX7_roundOf 1 = .ok (.istore_n 2, 1) := by decide +kernel
theorem dX7_roundOf_2 : decode cX7_roundOf 2 = .ok (.iload_n 2, 1) := by decide +kernel
theorem dX7_roundOf_3 : decode cX7_roundOf 3 = .ok (.iload_n 0, 1) := by decide +kernel
theorem dX7_roundOf_4 : decode cX7_roundOf 4 = .ok (.invokestatic 64, 3) := by decide +kernel
theorem dX7_roundOf_7 : decode cX7_roundOf 7 = .ok (.iconst 1, 1) := by decide +kernel
theorem dX7_roundOf_8 : decode cX7_roundOf 8 = .ok (.if_icmp .le 14, 3) := by decide +kernel
theorem dX7_roundOf_11 : decode cX7_roundOf 11 = .ok (.iload_n 2, 1) := by decide +kernel
theorem dX7_roundOf_12 : decode cX7_roundOf 12 = .ok (.iload_n 2, 1) := by decide +kernel
theorem dX7_roundOf_13 : decode cX7_roundOf 13 = .ok (.iload_n 0, 1) := by decide +kernel
theorem dX7_roundOf_14 : decode cX7_roundOf 14 = .ok (.invokestatic 64, 3) := by decide +kernel
theorem dX7_roundOf_17 : decode cX7_roundOf 17 = .ok (.idiv, 1) := by decide +kernel
theorem dX7_roundOf_18 : decode cX7_roundOf 18 = .ok (.istore_n 2, 1) := by decide +kernel
theorem dX7_roundOf_19 : decode cX7_roundOf 19 = .ok (.goto (-17), 3) := by decide +kernel
theorem dX7_roundOf_22 : decode cX7_roundOf 22 = .ok (.iload_n 2, 1) := by decide +kernel
theorem dX7_roundOf_23 : decode cX7_roundOf 23 = .ok (.iconst 1, 1) := by decide +kernel
theorem dX7_roundOf_24 : decode cX7_roundOf 24 = .ok (.if_icmp .ne 7, 3) := by decide +kernel
theorem dX7_roundOf_27 : decode cX7_roundOf 27 = .ok (.iconst 0, 1) := by decide +kernel
theorem dX7_roundOf_28 : decode cX7_roundOf 28 = .ok (.goto 10, 3) := by decide +kernel
theorem dX7_roundOf_31 : decode cX7_roundOf 31 = .ok (.iload_n 2, 1) := by decide +kernel
theorem dX7_roundOf_32 : decode cX7_roundOf 32 = .ok (.iload_n 0, 1) := by decide +kernel
theorem dX7_roundOf_33 : decode cX7_roundOf 33 = .ok (.iload_n 2, 1) := by decide +kernel
theorem dX7_roundOf_34 : decode cX7_roundOf 34 = .ok (.irem, 1) := by decide +kernel
theorem dX7_roundOf_35 : decode cX7_roundOf 35 = .ok (.invokestatic 79, 3) := by decide +kernel
theorem dX7_roundOf_38 : decode cX7_roundOf 38 = .ok (.ireturn, 1) := by decide +kernel
set_option maxRecDepth 20000 in
theorem ggX7_broken_X7_isBase : GoodIn wsX7_broken wsX7_isBase := goodIn_r _ [4, 5, 6, 7, 8, 3, 9] (by decide +kernel) (by decide +kernel)
set_option maxRecDepth 20000 in
theorem gX7_broken_X7_isBase : GoodIn wsX7_broken (va_wsS RX7 186 yX7_isBase wsX7_isBase) := goodIn_app (goodIn_of _ (by decide +kernel)) ggX7_broken_X7_isBase
set_option maxRecDepth 20000 in
theorem ggX7_broken_X7_isBy : GoodIn wsX7_broken wsX7_isBy := goodIn_r _ [12, 5, 13, 7, 8, 3, 9] (by decide +kernel) (by decide +kernel)
set_option maxRecDepth 20000 in
theorem gX7_broken_X7_isBy : GoodIn wsX7_broken (va_wsS RX7 68 yX7_isBy wsX7_isBy) := goodIn_app (goodIn_of _ (by decide +kernel)) ggX7_broken_X7_isBy
set_option maxRecDepth 20000 in
theorem ggX7_broken_X7_in : GoodIn wsX7_broken wsX7_in := goodIn_r _ [9] (by decide +kernel) (by decide +kernel)
set_option maxRecDepth 20000 in
theorem gX7_broken_X7_in : GoodIn wsX7_broken (va_wsS RX7 60 yX7_in wsX7_in) := goodIn_app (goodIn_of _ (by decide +kernel)) ggX7_broken_X7_in
set_option maxRecDepth 20000 in
theorem ggX7_broken_X7_aheadOf : GoodIn wsX7_broken wsX7_aheadOf := goodIn_r _ [16, 17, 18, 3, 19] (by decide +kernel) (by decide +kernel)
set_option maxRecDepth 20000 in
theorem gX7_broken_X7_aheadOf : GoodIn wsX7_broken (va_wsS RX7 189 yX7_aheadOf wsX7_aheadOf) := goodIn_app (goodIn_of _ (by decide +kernel)) ggX7_broken_X7_aheadOf
set_option maxRecDepth 20000 in
theorem ggX7_broken_X7_roundOf : GoodIn wsX7_broken wsX7_roundOf := goodIn_r _ [22, 17, 18, 3, 19, 23, 24, 25] (by decide +kernel) (by decide +kernel)
set_option maxRecDepth 20000 in
theorem gX7_broken_X7_roundOf : GoodIn wsX7_broken (va_wsS RX7 192 yX7_roundOf wsX7_roundOf) := goodIn_app (goodIn_of _ (by decide +kernel)) ggX7_broken_X7_roundOf
theorem dX7_broken_0 : decode cX7_broken 0 = .ok (.iload_n 1, 1) := by decide +kernel
theorem dX7_broken_1 : decode cX7_broken 1 = .ok (.invokestatic 186, 3) := by decide +kernel
theorem dX7_broken_4 : decode cX7_broken 4 = .ok (.ifCond .eq 20, 3) := by decide +kernel
theorem dX7_broken_7 : decode cX7_broken 7 = .ok (.iload_n 2, 1) := by decide +kernel
theorem dX7_broken_8 : decode cX7_broken 8 = .ok (.invokestatic 68, 3) := by decide +kernel
theorem dX7_broken_11 : decode cX7_broken 11 = .ok (.ifCond .eq 13, 3) := by decide +kernel
theorem dX7_broken_14 : decode cX7_broken 14 = .ok (.iload_n 3, 1) := by decide +kernel
theorem dX7_broken_15 : decode cX7_broken 15 = .ok (.i2l, 1) := by decide +kernel
theorem dX7_broken_16 : decode cX7_broken 16 = .ok (.lconst 0, 1) := by decide +kernel
theorem dX7_broken_17 : decode cX7_broken 17 = .ok (.lconst 1, 1) := by decide +kernel
theorem dX7_broken_18 : decode cX7_broken 18 = .ok (.invokestatic 60, 3) := by decide +kernel
theorem dX7_broken_21 : decode cX7_broken 21 = .ok (.ifCond .ne 5, 3) := by decide +kernel
theorem dX7_broken_24 : decode cX7_broken 24 = .ok (.iconst (-1), 1) := by decide +kernel
theorem dX7_broken_25 : decode cX7_broken 25 = .ok (.ireturn, 1) := by decide +kernel
theorem dX7_broken_26 : decode cX7_broken 26 = .ok (.iload_n 3, 1) := by decide +kernel
theorem dX7_broken_27 : decode cX7_broken 27 = .ok (.ifCond .ne 11, 3) := by decide +kernel
theorem dX7_broken_30 : decode cX7_broken 30 = .ok (.iload_n 1, 1) := by decide +kernel
theorem dX7_broken_31 : decode cX7_broken 31 = .ok (.iload_n 2, 1) := by decide +kernel
theorem dX7_broken_32 : decode cX7_broken 32 = .ok (.invokestatic 189, 3) := by decide +kernel
theorem dX7_broken_35 : decode cX7_broken 35 = .ok (.goto 8, 3) := by decide +kernel
theorem dX7_broken_38 : decode cX7_broken 38 = .ok (.iload_n 1, 1) := by decide +kernel
theorem dX7_broken_39 : decode cX7_broken 39 = .ok (.iload_n 2, 1) := by decide +kernel
theorem dX7_broken_40 : decode cX7_broken 40 = .ok (.invokestatic 192, 3) := by decide +kernel
theorem dX7_broken_43 : decode cX7_broken 43 = .ok (.ireturn, 1) := by decide +kernel
set_option maxRecDepth 20000 in
theorem ggX7_figure_X7_isBase : GoodIn wsX7_figure wsX7_isBase := goodIn_r _ [5, 6, 7, 8, 9, 4, 10] (by decide +kernel) (by decide +kernel)
set_option maxRecDepth 20000 in
theorem gX7_figure_X7_isBase : GoodIn wsX7_figure (va_wsS RX7 186 yX7_isBase wsX7_isBase) := goodIn_app (goodIn_of _ (by decide +kernel)) ggX7_figure_X7_isBase
set_option maxRecDepth 20000 in
theorem ggX7_figure_X7_isBy : GoodIn wsX7_figure wsX7_isBy := goodIn_r _ [13, 6, 14, 8, 9, 4, 10] (by decide +kernel) (by decide +kernel)
set_option maxRecDepth 20000 in
theorem gX7_figure_X7_isBy : GoodIn wsX7_figure (va_wsS RX7 68 yX7_isBy wsX7_isBy) := goodIn_app (goodIn_of _ (by decide +kernel)) ggX7_figure_X7_isBy
set_option maxRecDepth 20000 in
theorem ggX7_figure_X7_in : GoodIn wsX7_figure wsX7_in := goodIn_r _ [10] (by decide +kernel) (by decide +kernel)
set_option maxRecDepth 20000 in
theorem gX7_figure_X7_in : GoodIn wsX7_figure (va_wsS RX7 60 yX7_in wsX7_in) := goodIn_app (goodIn_of _ (by decide +kernel)) ggX7_figure_X7_in
set_option maxRecDepth 20000 in
theorem ggX7_figure_X7_powerOf : GoodIn wsX7_figure wsX7_powerOf := goodIn_r _ [17, 6] (by decide +kernel) (by decide +kernel)
set_option maxRecDepth 20000 in
theorem gX7_figure_X7_powerOf : GoodIn wsX7_figure (va_wsS RX7 88 yX7_powerOf wsX7_powerOf) := goodIn_app (goodIn_of _ (by decide +kernel)) ggX7_figure_X7_powerOf
theorem dX7_figure_0 : decode cX7_figure 0 = .ok (.iload_n 1, 1) := by decide +kernel
theorem dX7_figure_1 : decode cX7_figure 1 = .ok (.invokestatic 186, 3) := by decide +kernel
theorem dX7_figure_4 : decode cX7_figure 4 = .ok (.ifCond .eq 22, 3) := by decide +kernel
theorem dX7_figure_7 : decode cX7_figure 7 = .ok (.iload_n 2, 1) := by decide +kernel
theorem dX7_figure_8 : decode cX7_figure 8 = .ok (.invokestatic 68, 3) := by decide +kernel
theorem dX7_figure_11 : decode cX7_figure 11 = .ok (.ifCond .eq 15, 3) := by decide +kernel
theorem dX7_figure_14 : decode cX7_figure 14 = .ok (.iload_n 3, 1) := by decide +kernel
theorem dX7_figure_15 : decode cX7_figure 15 = .ok (.i2l, 1) := by decide +kernel
theorem dX7_figure_16 : decode cX7_figure 16 = .ok (.lconst 0, 1) := by decide +kernel
theorem dX7_figure_17 : decode cX7_figure 17 = .ok (.ldc2_w 96, 3) := by decide +kernel
theorem dX7_figure_20 : decode cX7_figure 20 = .ok (.invokestatic 60, 3) := by decide +kernel
theorem dX7_figure_23 : decode cX7_figure 23 = .ok (.ifCond .ne 5, 3) := by decide +kernel
theorem dX7_figure_26 : decode cX7_figure 26 = .ok (.iconst (-1), 1) := by decide +kernel
theorem dX7_figure_27 : decode cX7_figure 27 = .ok (.ireturn, 1) := by decide +kernel
theorem dX7_figure_28 : decode cX7_figure 28 = .ok (.iload_n 1, 1) := by decide +kernel
theorem dX7_figure_29 : decode cX7_figure 29 = .ok (.iload_n 2, 1) := by decide +kernel
theorem dX7_figure_30 : decode cX7_figure 30 = .ok (.iload_n 1, 1) := by decide +kernel
theorem dX7_figure_31 : decode cX7_figure 31 = .ok (.iload_n 3, 1) := by decide +kernel
theorem dX7_figure_32 : decode cX7_figure 32 = .ok (.i2l, 1) := by decide +kernel
theorem dX7_figure_33 : decode cX7_figure 33 = .ok (.invokestatic 88, 3) := by decide +kernel
theorem dX7_figure_36 : decode cX7_figure 36 = .ok (.imul, 1) := by decide +kernel
theorem dX7_figure_37 : decode cX7_figure 37 = .ok (.iload_n 2, 1) := by decide +kernel
theorem dX7_figure_38 : decode cX7_figure 38 = .ok (.idiv, 1) := by decide +kernel
theorem dX7_figure_39 : decode cX7_figure 39 = .ok (.ireturn, 1) := by decide +kernel
set_option maxRecDepth 20000 in
theorem ggX7_soLong_X7_isBase : GoodIn wsX7_soLong wsX7_isBase := goodIn_r _ [6, 2, 7, 8, 9, 5, 10] (by decide +kernel) (by decide +kernel)
set_option maxRecDepth 20000 in
theorem gX7_soLong_X7_isBase : GoodIn wsX7_soLong (va_wsS RX7 186 yX7_isBase wsX7_isBase) := goodIn_app (goodIn_of _ (by decide +kernel)) ggX7_soLong_X7_isBase
set_option maxRecDepth 20000 in
theorem ggX7_soLong_X7_in : GoodIn wsX7_soLong wsX7_in := goodIn_r _ [10] (by decide +kernel) (by decide +kernel)
set_option maxRecDepth 20000 in
theorem gX7_soLong_X7_in : GoodIn wsX7_soLong (va_wsS RX7 60 yX7_in wsX7_in) := goodIn_app (goodIn_of _ (by decide +kernel)) ggX7_soLong_X7_in
set_option maxRecDepth 20000 in
theorem ggX7_soLong_X7_roundOf : GoodIn wsX7_soLong wsX7_roundOf := goodIn_r _ [13, 14, 15, 5, 16, 17, 18, 19] (by decide +kernel) (by decide +kernel)
set_option maxRecDepth 20000 in
theorem gX7_soLong_X7_roundOf : GoodIn wsX7_soLong (va_wsS RX7 192 yX7_roundOf wsX7_roundOf) := goodIn_app (goodIn_of _ (by decide +kernel)) ggX7_soLong_X7_roundOf
theorem dX7_soLong_0 : decode cX7_soLong 0 = .ok (.iload_n 1, 1) := by decide +kernel
theorem dX7_soLong_1 : decode cX7_soLong 1 = .ok (.invokestatic 186, 3) := by decide +kernel
theorem dX7_soLong_4 : decode cX7_soLong 4 = .ok (.ifCond .eq 35, 3) := by decide +kernel
theorem dX7_soLong_7 : decode cX7_soLong 7 = .ok (.iload_n 2, 1) := by decide +kernel
theorem dX7_soLong_8 : decode cX7_soLong 8 = .ok (.i2l, 1) := by decide +kernel
theorem dX7_soLong_9 : decode cX7_soLong 9 = .ok (.lconst 0, 1) := by decide +kernel
theorem dX7_soLong_10 : decode cX7_soLong 10 = .ok (.ldc2_w 195, 3) := by decide +kernel
theorem dX7_soLong_13 : decode cX7_soLong 13 = .ok (.invokestatic 60, 3) := by decide +kernel
theorem dX7_soLong_16 : decode cX7_soLong 16 = .ok (.ifCond .eq 23, 3) := by decide +kernel
theorem dX7_soLong_19 : decode cX7_soLong 19 = .ok (.iload_n 3, 1) := by decide +kernel
theorem dX7_soLong_20 : decode cX7_soLong 20 = .ok (.i2l, 1) := by decide +kernel
theorem dX7_soLong_21 : decode cX7_soLong 21 = .ok (.ldc2_w 56, 3) := by decide +kernel
theorem dX7_soLong_24 : decode cX7_soLong 24 = .ok (.ldc2_w 195, 3) := by decide +kernel
theorem dX7_soLong_27 : decode cX7_soLong 27 = .ok (.invokestatic 60, 3) := by decide +kernel
theorem dX7_soLong_30 : decode cX7_soLong 30 = .ok (.ifCond .eq 9, 3) := by decide +kernel
theorem dX7_soLong_33 : decode cX7_soLong 33 = .ok (.iload 4, 2) := by decide +kernel
theorem dX7_soLong_35 : decode cX7_soLong 35 = .ok (.iconst (-1), 1) := by decide +kernel
theorem dX7_soLong_36 : decode cX7_soLong 36 = .ok (.if_icmp .ge 5, 3) := by decide +kernel
theorem dX7_soLong_39 : decode cX7_soLong 39 = .ok (.iconst (-1), 1) := by decide +kernel
theorem dX7_soLong_40 : decode cX7_soLong 40 = .ok (.ireturn, 1) := by decide +kernel
theorem dX7_soLong_41 : decode cX7_soLong 41 = .ok (.iconst 0, 1) := by decide +kernel
theorem dX7_soLong_42 : decode cX7_soLong 42 = .ok (.istore 5, 2) := by decide +kernel
theorem dX7_soLong_44 : decode cX7_soLong 44 = .ok (.iconst 2, 1) := by decide +kernel
theorem dX7_soLong_45 : decode cX7_soLong 45 = .ok (.istore 6, 2) := by decide +kernel
theorem dX7_soLong_47 : decode cX7_soLong 47 = .ok (.iload 6, 2) := by decide +kernel
theorem dX7_soLong_49 : decode cX7_soLong 49 = .ok (.iload_n 3, 1) := by decide +kernel
theorem dX7_soLong_50 : decode cX7_soLong 50 = .ok (.if_icmp .gt 32, 3) := by decide +kernel
theorem dX7_soLong_53 : decode cX7_soLong 53 = .ok (.iload_n 1, 1) := by decide +kernel
theorem dX7_soLong_54 : decode cX7_soLong 54 = .ok (.iload 6, 2) := by decide +kernel
theorem dX7_soLong_56 : decode cX7_soLong 56 = .ok (.invokestatic 192, 3) := by decide +kernel
theorem dX7_soLong_59 : decode cX7_soLong 59 = .ok (.iload_n 2, 1) := by decide +kernel
theorem dX7_soLong_60 : decode cX7_soLong 60 = .ok (.if_icmp .ne 16, 3) := by decide +kernel
theorem dX7_soLong_63 : decode cX7_soLong 63 = .ok (.iload 5, 2) := by decide +kernel
theorem dX7_soLong_65 : decode cX7_soLong 65 = .ok (.iload 4, 2) := by decide +kernel
theorem dX7_soLong_67 : decode cX7_soLong 67 = .ok (.if_icmp .ne 6, 3) := by decide +kernel
theorem dX7_soLong_70 : decode cX7_soLong 70 = .ok (.iload 6, 2) := by decide +kernel
theorem dX7_soLong_72 : decode cX7_soLong 72 = .ok (.ireturn, 1) := by decide +kernel
theorem dX7_soLong_73 : decode cX7_soLong 73 = .ok (.iinc 5 1, 3) := by decide +kernel
theorem dX7_soLong_76 : decode cX7_soLong 76 = .ok (.iinc 6 1, 3) := by decide +kernel
theorem dX7_soLong_79 : decode cX7_soLong 79 = .ok (.goto (-32), 3) := by decide +kernel
theorem dX7_soLong_82 : decode cX7_soLong 82 = .ok (.iload 4, 2) := by decide +kernel
theorem dX7_soLong_84 : decode cX7_soLong 84 = .ok (.ifCond .ge 8, 3) := by decide +kernel
theorem dX7_soLong_87 : decode cX7_soLong 87 = .ok (.iload 5, 2) := by decide +kernel
theorem dX7_soLong_89 : decode cX7_soLong 89 = .ok (.goto 5, 3) := by decide +kernel
theorem dX7_soLong_92 : decode cX7_soLong 92 = .ok (.bipush (-4), 2) := by decide +kernel
theorem dX7_soLong_94 : decode cX7_soLong 94 = .ok (.ireturn, 1) := by decide +kernel
set_option maxRecDepth 20000 in
theorem ggX7_turning_X7_isBase : GoodIn wsX7_turning wsX7_isBase := goodIn_r _ [4, 5, 6, 7, 8, 3, 9] (by decide +kernel) (by decide +kernel)
set_option maxRecDepth 20000 in
theorem gX7_turning_X7_isBase : GoodIn wsX7_turning (va_wsS RX7 186 yX7_isBase wsX7_isBase) := goodIn_app (goodIn_of _ (by decide +kernel)) ggX7_turning_X7_isBase
set_option maxRecDepth 20000 in
theorem ggX7_turning_X7_isBy : GoodIn wsX7_turning wsX7_isBy := goodIn_r _ [12, 5, 13, 7, 8, 3, 9] (by decide +kernel) (by decide +kernel)
set_option maxRecDepth 20000 in
theorem gX7_turning_X7_isBy : GoodIn wsX7_turning (va_wsS RX7 68 yX7_isBy wsX7_isBy) := goodIn_app (goodIn_of _ (by decide +kernel)) ggX7_turning_X7_isBy
set_option maxRecDepth 20000 in
theorem ggX7_turning_X7_in : GoodIn wsX7_turning wsX7_in := goodIn_r _ [9] (by decide +kernel) (by decide +kernel)
set_option maxRecDepth 20000 in
theorem gX7_turning_X7_in : GoodIn wsX7_turning (va_wsS RX7 60 yX7_in wsX7_in) := goodIn_app (goodIn_of _ (by decide +kernel)) ggX7_turning_X7_in
set_option maxRecDepth 20000 in
theorem ggX7_turning_X7_isPrime : GoodIn wsX7_turning wsX7_isPrime := goodIn_r _ [16] (by decide +kernel) (by decide +kernel)
set_option maxRecDepth 20000 in
theorem gX7_turning_X7_isPrime : GoodIn wsX7_turning (va_wsS RX7 174 yX7_isPrime wsX7_isPrime) := goodIn_app (goodIn_of _ (by decide +kernel)) ggX7_turning_X7_isPrime
set_option maxRecDepth 20000 in
theorem ggX7_turning_X7_roundOf : GoodIn wsX7_turning wsX7_roundOf := goodIn_r _ [19, 20, 21, 3, 22, 23, 24, 25] (by decide +kernel) (by decide +kernel)
set_option maxRecDepth 20000 in
theorem gX7_turning_X7_roundOf : GoodIn wsX7_turning (va_wsS RX7 192 yX7_roundOf wsX7_roundOf) := goodIn_app (goodIn_of _ (by decide +kernel)) ggX7_turning_X7_roundOf
theorem dX7_turning_0 : decode cX7_turning 0 = .ok (.iload_n 1, 1) := by decide +kernel
theorem dX7_turning_1 : decode cX7_turning 1 = .ok (.invokestatic 186, 3) := by decide +kernel
theorem dX7_turning_4 : decode cX7_turning 4 = .ok (.ifCond .eq 23, 3) := by decide +kernel
theorem dX7_turning_7 : decode cX7_turning 7 = .ok (.iload_n 2, 1) := by decide +kernel
theorem dX7_turning_8 : decode cX7_turning 8 = .ok (.invokestatic 68, 3) := by decide +kernel
theorem dX7_turning_11 : decode cX7_turning 11 = .ok (.ifCond .eq 16, 3) := by decide +kernel
theorem dX7_turning_14 : decode cX7_turning 14 = .ok (.iload_n 3, 1) := by decide +kernel
theorem dX7_turning_15 : decode cX7_turning 15 = .ok (.i2l, 1) := by decide +kernel
theorem dX7_turning_16 : decode cX7_turning 16 = .ok (.lconst 1, 1) := by decide +kernel
theorem dX7_turning_17 : decode cX7_turning 17 = .ok (.iload_n 2, 1) := by decide +kernel
theorem dX7_turning_18 : decode cX7_turning 18 = .ok (.iconst 1, 1) := by decide +kernel
theorem dX7_turning_19 : decode cX7_turning 19 = .ok (.isub, 1) := by decide +kernel
theorem dX7_turning_20 : decode cX7_turning 20 = .ok (.i2l, 1) := by decide +kernel
theorem dX7_turning_21 : decode cX7_turning 21 = .ok (.invokestatic 60, 3) := by decide +kernel
theorem dX7_turning_24 : decode cX7_turning 24 = .ok (.ifCond .ne 5, 3) := by decide +kernel
theorem dX7_turning_27 : decode cX7_turning 27 = .ok (.iconst (-1), 1) := by decide +kernel
theorem dX7_turning_28 : decode cX7_turning 28 = .ok (.ireturn, 1) := by decide +kernel
theorem dX7_turning_29 : decode cX7_turning 29 = .ok (.iload_n 2, 1) := by decide +kernel
theorem dX7_turning_30 : decode cX7_turning 30 = .ok (.invokestatic 174, 3) := by decide +kernel
theorem dX7_turning_33 : decode cX7_turning 33 = .ok (.ifCond .eq 20, 3) := by decide +kernel
theorem dX7_turning_36 : decode cX7_turning 36 = .ok (.iload_n 1, 1) := by decide +kernel
theorem dX7_turning_37 : decode cX7_turning 37 = .ok (.iload_n 2, 1) := by decide +kernel
theorem dX7_turning_38 : decode cX7_turning 38 = .ok (.irem, 1) := by decide +kernel
theorem dX7_turning_39 : decode cX7_turning 39 = .ok (.ifCond .eq 14, 3) := by decide +kernel
theorem dX7_turning_42 : decode cX7_turning 42 = .ok (.iload_n 1, 1) := by decide +kernel
theorem dX7_turning_43 : decode cX7_turning 43 = .ok (.iload_n 2, 1) := by decide +kernel
theorem dX7_turning_44 : decode cX7_turning 44 = .ok (.invokestatic 192, 3) := by decide +kernel
theorem dX7_turning_47 : decode cX7_turning 47 = .ok (.iload_n 2, 1) := by decide +kernel
theorem dX7_turning_48 : decode cX7_turning 48 = .ok (.iconst 1, 1) := by decide +kernel
theorem dX7_turning_49 : decode cX7_turning 49 = .ok (.isub, 1) := by decide +kernel
theorem dX7_turning_50 : decode cX7_turning 50 = .ok (.if_icmp .eq 6, 3) := by decide +kernel
theorem dX7_turning_53 : decode cX7_turning 53 = .ok (.bipush (-2), 2) := by decide +kernel
theorem dX7_turning_55 : decode cX7_turning 55 = .ok (.ireturn, 1) := by decide +kernel
theorem dX7_turning_56 : decode cX7_turning 56 = .ok (.lconst 1, 1) := by decide +kernel
theorem dX7_turning_57 : decode cX7_turning 57 = .ok (.lstore 4, 2) := by decide +kernel
theorem dX7_turning_59 : decode cX7_turning 59 = .ok (.iconst 0, 1) := by decide +kernel
theorem dX7_turning_60 : decode cX7_turning 60 = .ok (.istore 6, 2) := by decide +kernel
theorem dX7_turning_62 : decode cX7_turning 62 = .ok (.lload 4, 2) := by decide +kernel
theorem dX7_turning_64 : decode cX7_turning 64 = .ok (.iload_n 3, 1) := by decide +kernel
theorem dX7_turning_65 : decode cX7_turning 65 = .ok (.i2l, 1) := by decide +kernel
theorem dX7_turning_66 : decode cX7_turning 66 = .ok (.lcmp, 1) := by decide +kernel
theorem dX7_turning_67 : decode cX7_turning 67 = .ok (.ifCond .eq 19, 3) := by decide +kernel
theorem dX7_turning_70 : decode cX7_turning 70 = .ok (.lload 4, 2) := by decide +kernel
theorem dX7_turning_72 : decode cX7_turning 72 = .ok (.iload_n 1, 1) := by decide +kernel
theorem dX7_turning_73 : decode cX7_turning 73 = .ok (.i2l, 1) := by decide +kernel
theorem dX7_turning_74 : decode cX7_turning 74 = .ok (.lmul, 1) := by decide +kernel
theorem dX7_turning_75 : decode cX7_turning 75 = .ok (.iload_n 2, 1) := by decide +kernel
theorem dX7_turning_76 : decode cX7_turning 76 = .ok (.i2l, 1) := by decide +kernel
theorem dX7_turning_77 : decode cX7_turning 77 = .ok (.lrem, 1) := by decide +kernel
theorem dX7_turning_78 : decode cX7_turning 78 = .ok (.lstore 4, 2) := by decide +kernel
theorem dX7_turning_80 : decode cX7_turning 80 = .ok (.iinc 6 1, 3) := by decide +kernel
theorem dX7_turning_83 : decode cX7_turning 83 = .ok (.goto (-21), 3) := by decide +kernel
theorem dX7_turning_86 : decode cX7_turning 86 = .ok (.iload 6, 2) := by decide +kernel
theorem dX7_turning_88 : decode cX7_turning 88 = .ok (.ireturn, 1) := by decide +kernel
theorem dX7_share_0 : decode cX7_share 0 = .ok (.iload_n 0, 1) := by decide +kernel
theorem dX7_share_1 : decode cX7_share 1 = .ok (.istore_n 1, 1) := by decide +kernel
theorem dX7_share_2 : decode cX7_share 2 = .ok (.iload_n 0, 1) := by decide +kernel
theorem dX7_share_3 : decode cX7_share 3 = .ok (.istore_n 2, 1) := by decide +kernel
theorem dX7_share_4 : decode cX7_share 4 = .ok (.iconst 2, 1) := by decide +kernel
theorem dX7_share_5 : decode cX7_share 5 = .ok (.istore_n 3, 1) := by decide +kernel
theorem dX7_share_6 : decode cX7_share 6 = .ok (.iload_n 3, 1) := by decide +kernel
theorem dX7_share_7 : decode cX7_share 7 = .ok (.iload_n 3, 1) := by decide +kernel
theorem dX7_share_8 : decode cX7_share 8 = .ok (.imul, 1) := by decide +kernel
theorem dX7_share_9 : decode cX7_share 9 = .ok (.iload_n 2, 1) := by decide +kernel
theorem dX7_share_10 : decode cX7_share 10 = .ok (.if_icmp .gt 36, 3) := by decide +kernel
theorem dX7_share_13 : decode cX7_share 13 = .ok (.iload_n 2, 1) := by decide +kernel
theorem dX7_share_14 : decode cX7_share 14 = .ok (.iload_n 3, 1) := by decide +kernel
theorem dX7_share_15 : decode cX7_share 15 = .ok (.irem, 1) := by decide +kernel
theorem dX7_share_16 : decode cX7_share 16 = .ok (.ifCond .ne 24, 3) := by decide +kernel
theorem dX7_share_19 : decode cX7_share 19 = .ok (.iload_n 1, 1) := by decide +kernel
theorem dX7_share_20 : decode cX7_share 20 = .ok (.iload_n 3, 1) := by decide +kernel
theorem dX7_share_21 : decode cX7_share 21 = .ok (.idiv, 1) := by decide +kernel
theorem dX7_share_22 : decode cX7_share 22 = .ok (.iload_n 3, 1) := by decide +kernel
theorem dX7_share_23 : decode cX7_share 23 = .ok (.iconst 1, 1) := by decide +kernel
theorem dX7_share_24 : decode cX7_share 24 = .ok (.isub, 1) := by decide +kernel
theorem dX7_share_25 : decode cX7_share 25 = .ok (.imul, 1) := by decide +kernel
theorem dX7_share_26 : decode cX7_share 26 = .ok (.istore_n 1, 1) := by decide +kernel
theorem dX7_share_27 : decode cX7_share 27 = .ok (.iload_n 2, 1) := by decide +kernel
theorem dX7_share_28 : decode cX7_share 28 = .ok (.iload_n 3, 1) := by decide +kernel
theorem dX7_share_29 : decode cX7_share 29 = .ok (.irem, 1) := by decide +kernel
theorem dX7_share_30 : decode cX7_share 30 = .ok (.ifCond .ne 10, 3) := by decide +kernel
theorem dX7_share_33 : decode cX7_share 33 = .ok (.iload_n 2, 1) := by decide +kernel
theorem dX7_share_34 : decode cX7_share 34 = .ok (.iload_n 3, 1) := by decide +kernel
theorem dX7_share_35 : decode cX7_share 35 = .ok (.idiv, 1) := by decide +kernel
theorem dX7_share_36 : decode cX7_share 36 = .ok (.istore_n 2, 1) := by decide +kernel
theorem dX7_share_37 : decode cX7_share 37 = .ok (.goto (-10), 3) := by decide +kernel
theorem dX7_share_40 : decode cX7_share 40 = .ok (.iinc 3 1, 3) := by decide +kernel
theorem dX7_share_43 : decode cX7_share 43 = .ok (.goto (-37), 3) := by decide +kernel
theorem dX7_share_46 : decode cX7_share 46 = .ok (.iload_n 2, 1) := by decide +kernel
theorem dX7_share_47 : decode cX7_share 47 = .ok (.iconst 1, 1) := by decide +kernel
theorem dX7_share_48 : decode cX7_share 48 = .ok (.if_icmp .le 13, 3) := by decide +kernel
theorem dX7_share_51 : decode cX7_share 51 = .ok (.iload_n 1, 1) := by decide +kernel
theorem dX7_share_52 : decode cX7_share 52 = .ok (.iload_n 2, 1) := by decide +kernel
theorem dX7_share_53 : decode cX7_share 53 = .ok (.idiv, 1) := by decide +kernel
theorem dX7_share_54 : decode cX7_share 54 = .ok (.iload_n 2, 1) := by decide +kernel
theorem dX7_share_55 : decode cX7_share 55 = .ok (.iconst 1, 1) := by decide +kernel
theorem dX7_share_56 : decode cX7_share 56 = .ok (.isub, 1) := by decide +kernel
theorem dX7_share_57 : decode cX7_share 57 = .ok (.imul, 1) := by decide +kernel
theorem dX7_share_58 : decode cX7_share 58 = .ok (.goto 4, 3) := by decide +kernel
theorem dX7_share_61 : decode cX7_share 61 = .ok (.iload_n 1, 1) := by decide +kernel
theorem dX7_share_62 : decode cX7_share 62 = .ok (.ireturn, 1) := by decide +kernel
theorem dX7_lift_0 : decode cX7_lift 0 = .ok (.lload_n 0, 1) := by decide +kernel
theorem dX7_lift_1 : decode cX7_lift 1 = .ok (.lload_n 2, 1) := by decide +kernel
theorem dX7_lift_2 : decode cX7_lift 2 = .ok (.lcmp, 1) := by decide +kernel
theorem dX7_lift_3 : decode cX7_lift 3 = .ok (.ifCond .ge 7, 3) := by decide +kernel
theorem dX7_lift_6 : decode cX7_lift 6 = .ok (.lload_n 0, 1) := by decide +kernel
theorem dX7_lift_7 : decode cX7_lift 7 = .ok (.goto 8, 3) := by decide +kernel
theorem dX7_lift_10 : decode cX7_lift 10 = .ok (.lload_n 0, 1) := by decide +kernel
theorem dX7_lift_11 : decode cX7_lift 11 = .ok (.lload_n 2, 1) := by decide +kernel
theorem dX7_lift_12 : decode cX7_lift 12 = .ok (.lrem, 1) := by decide +kernel
theorem dX7_lift_13 : decode cX7_lift 13 = .ok (.lload_n 2, 1) := by decide +kernel
theorem dX7_lift_14 : decode cX7_lift 14 = .ok (.ladd, 1) := by decide +kernel
theorem dX7_lift_15 : decode cX7_lift 15 = .ok (.lreturn, 1) := by decide +kernel
set_option maxRecDepth 20000 in
theorem ggX7_tower_X7_isBy : GoodIn wsX7_tower wsX7_isBy := goodIn_r _ [9, 5, 10, 11, 12, 8, 13] (by decide +kernel) (by decide +kernel)
set_option maxRecDepth 20000 in
theorem gX7_tower_X7_isBy : GoodIn wsX7_tower (va_wsS RX7 68 yX7_isBy wsX7_isBy) := goodIn_app (goodIn_of _ (by decide +kernel)) ggX7_tower_X7_isBy
set_option maxRecDepth 20000 in
theorem ggX7_tower_X7_in : GoodIn wsX7_tower wsX7_in := goodIn_r _ [13] (by decide +kernel) (by decide +kernel)
set_option maxRecDepth 20000 in
theorem gX7_tower_X7_in : GoodIn wsX7_tower (va_wsS RX7 60 yX7_in wsX7_in) := goodIn_app (goodIn_of _ (by decide +kernel)) ggX7_tower_X7_in
set_option maxRecDepth 20000 in
theorem ggX7_tower_X7_share : GoodIn wsX7_tower wsX7_share := goodIn_r _ [16] (by decide +kernel) (by decide +kernel)
set_option maxRecDepth 20000 in
theorem gX7_tower_X7_share : GoodIn wsX7_tower (va_wsS RX7 203 yX7_share wsX7_share) := goodIn_app (goodIn_of _ (by decide +kernel)) ggX7_tower_X7_share
set_option maxRecDepth 20000 in
theorem ggX7_tower_X7_lift : GoodIn wsX7_tower wsX7_lift := goodIn_r _ [19] (by decide +kernel) (by decide +kernel)
set_option maxRecDepth 20000 in
theorem gX7_tower_X7_lift : GoodIn wsX7_tower (va_wsS RX7 206 yX7_lift wsX7_lift) := goodIn_app (goodIn_of _ (by decide +kernel)) ggX7_tower_X7_lift
theorem dX7_tower_0 : decode cX7_tower 0 = .ok (.iload_n 1, 1) := by decide +kernel
theorem dX7_tower_1 : decode cX7_tower 1 = .ok (.invokestatic 68, 3) := by decide +kernel
theorem dX7_tower_4 : decode cX7_tower 4 = .ok (.ifCond .eq 32, 3) := by decide +kernel
theorem dX7_tower_7 : decode cX7_tower 7 = .ok (.iload_n 2, 1) := by decide +kernel
theorem dX7_tower_8 : decode cX7_tower 8 = .ok (.i2l, 1) := by decide +kernel
theorem dX7_tower_9 : decode cX7_tower 9 = .ok (.lconst 1, 1) := by decide +kernel
theorem dX7_tower_10 : decode cX7_tower 10 = .ok (.ldc2_w 197, 3) := by decide +kernel
theorem dX7_tower_13 : decode cX7_tower 13 = .ok (.invokestatic 60, 3) := by decide +kernel
theorem dX7_tower_16 : decode cX7_tower 16 = .ok (.ifCond .eq 20, 3) := by decide +kernel
theorem dX7_tower_19 : decode cX7_tower 19 = .ok (.lload_n 3, 1) := by decide +kernel
theorem dX7_tower_20 : decode cX7_tower 20 = .ok (.lconst 0, 1) := by decide +kernel
theorem dX7_tower_21 : decode cX7_tower 21 = .ok (.lcmp, 1) := by decide +kernel
theorem dX7_tower_22 : decode cX7_tower 22 = .ok (.ifCond .lt 14, 3) := by decide +kernel
theorem dX7_tower_25 : decode cX7_tower 25 = .ok (.lload_n 3, 1) := by decide +kernel
theorem dX7_tower_26 : decode cX7_tower 26 = .ok (.bipush 10, 2) := by decide +kernel
theorem dX7_tower_28 : decode cX7_tower 28 = .ok (.iload_n 2, 1) := by decide +kernel
theorem dX7_tower_29 : decode cX7_tower 29 = .ok (.imul, 1) := by decide +kernel
theorem dX7_tower_30 : decode cX7_tower 30 = .ok (.lshr, 1) := by decide +kernel
theorem dX7_tower_31 : decode cX7_tower 31 = .ok (.lconst 0, 1) := by decide +kernel
theorem dX7_tower_32 : decode cX7_tower 32 = .ok (.lcmp, 1) := by decide +kernel
theorem dX7_tower_33 : decode cX7_tower 33 = .ok (.ifCond .eq 5, 3) := by decide +kernel
theorem dX7_tower_36 : decode cX7_tower 36 = .ok (.iconst (-1), 1) := by decide +kernel
theorem dX7_tower_37 : decode cX7_tower 37 = .ok (.ireturn, 1) := by decide +kernel
theorem dX7_tower_38 : decode cX7_tower 38 = .ok (.aload_n 0, 1) := by decide +kernel
theorem dX7_tower_39 : decode cX7_tower 39 = .ok (.getfield 53, 3) := by decide +kernel
theorem dX7_tower_42 : decode cX7_tower 42 = .ok (.iconst 0, 1) := by decide +kernel
theorem dX7_tower_43 : decode cX7_tower 43 = .ok (.iload_n 1, 1) := by decide +kernel
theorem dX7_tower_44 : decode cX7_tower 44 = .ok (.iastore, 1) := by decide +kernel
theorem dX7_tower_45 : decode cX7_tower 45 = .ok (.iconst 0, 1) := by decide +kernel
theorem dX7_tower_46 : decode cX7_tower 46 = .ok (.istore 5, 2) := by decide +kernel
theorem dX7_tower_48 : decode cX7_tower 48 = .ok (.iload 5, 2) := by decide +kernel
theorem dX7_tower_50 : decode cX7_tower 50 = .ok (.iload_n 2, 1) := by decide +kernel
theorem dX7_tower_51 : decode cX7_tower 51 = .ok (.if_icmp .ge 60, 3) := by decide +kernel
theorem dX7_tower_54 : decode cX7_tower 54 = .ok (.lload_n 3, 1) := by decide +kernel
theorem dX7_tower_55 : decode cX7_tower 55 = .ok (.bipush 10, 2) := by decide +kernel
theorem dX7_tower_57 : decode cX7_tower 57 = .ok (.iload_n 2, 1) := by decide +kernel
theorem dX7_tower_58 : decode cX7_tower 58 = .ok (.iconst 1, 1) := by decide +kernel
theorem dX7_tower_59 : decode cX7_tower 59 = .ok (.isub, 1) := by decide +kernel
theorem dX7_tower_60 : decode cX7_tower 60 = .ok (.iload 5, 2) := by decide +kernel
theorem dX7_tower_62 : decode cX7_tower 62 = .ok (.isub, 1) := by decide +kernel
theorem dX7_tower_63 : decode cX7_tower 63 = .ok (.imul, 1) := by decide +kernel
theorem dX7_tower_64 : decode cX7_tower 64 = .ok (.lshr, 1) := by decide +kernel
theorem dX7_tower_65 : decode cX7_tower 65 = .ok (.ldc2_w 199, 3) := by decide +kernel
theorem dX7_tower_68 : decode cX7_tower 68 = .ok (.land, 1) := by decide +kernel
theorem dX7_tower_69 : decode cX7_tower 69 = .ok (.lconst 1, 1) := by decide +kernel
theorem dX7_tower_70 : decode cX7_tower 70 = .ok (.ldc2_w 201, 3) := by decide +kernel
theorem dX7_tower_73 : decode cX7_tower 73 = .ok (.invokestatic 60, 3) := by decide +kernel
theorem dX7_tower_76 : decode cX7_tower 76 = .ok (.ifCond .ne 5, 3) := by decide +kernel
theorem dX7_tower_79 : decode cX7_tower 79 = .ok (.iconst (-1), 1) := by decide +kernel
theorem dX7_tower_80 : decode cX7_tower 80 = .ok (.ireturn, 1) := by decide +kernel
theorem dX7_tower_81 : decode cX7_tower 81 = .ok (.iload 5, 2) := by decide +kernel
theorem dX7_tower_83 : decode cX7_tower 83 = .ok (.ifCond .le 22, 3) := by decide +kernel
theorem dX7_tower_86 : decode cX7_tower 86 = .ok (.aload_n 0, 1) := by decide +kernel
theorem dX7_tower_87 : decode cX7_tower 87 = .ok (.getfield 53, 3) := by decide +kernel
theorem dX7_tower_90 : decode cX7_tower 90 = .ok (.iload 5, 2) := by decide +kernel
theorem dX7_tower_92 : decode cX7_tower 92 = .ok (.aload_n 0, 1) := by decide +kernel
theorem dX7_tower_93 : decode cX7_tower 93 = .ok (.getfield 53, 3) := by decide +kernel
theorem dX7_tower_96 : decode cX7_tower 96 = .ok (.iload 5, 2) := by decide +kernel
theorem dX7_tower_98 : decode cX7_tower 98 = .ok (.iconst 1, 1) := by decide +kernel
theorem dX7_tower_99 : decode cX7_tower 99 = .ok (.isub, 1) := by decide +kernel
theorem dX7_tower_100 : decode cX7_tower 100 = .ok (.iaload, 1) := by decide +kernel
theorem dX7_tower_101 : decode cX7_tower 101 = .ok (.invokestatic 203, 3) := by decide +kernel
theorem dX7_tower_104 : decode cX7_tower 104 = .ok (.iastore, 1) := by decide +kernel
theorem dX7_tower_105 : decode cX7_tower 105 = .ok (.iinc 5 1, 3) := by decide +kernel
theorem dX7_tower_108 : decode cX7_tower 108 = .ok (.goto (-60), 3) := by decide +kernel
theorem dX7_tower_111 : decode cX7_tower 111 = .ok (.lconst 1, 1) := by decide +kernel
theorem dX7_tower_112 : decode cX7_tower 112 = .ok (.lstore 5, 2) := by decide +kernel
theorem dX7_tower_114 : decode cX7_tower 114 = .ok (.iload_n 2, 1) := by decide +kernel
theorem dX7_tower_115 : decode cX7_tower 115 = .ok (.iconst 1, 1) := by decide +kernel
theorem dX7_tower_116 : decode cX7_tower 116 = .ok (.isub, 1) := by decide +kernel
theorem dX7_tower_117 : decode cX7_tower 117 = .ok (.istore 7, 2) := by decide +kernel
theorem dX7_tower_119 : decode cX7_tower 119 = .ok (.iload 7, 2) := by decide +kernel
theorem dX7_tower_121 : decode cX7_tower 121 = .ok (.ifCond .lt 110, 3) := by decide +kernel
theorem dX7_tower_124 : decode cX7_tower 124 = .ok (.aload_n 0, 1) := by decide +kernel
theorem dX7_tower_125 : decode cX7_tower 125 = .ok (.getfield 53, 3) := by decide +kernel
theorem dX7_tower_128 : decode cX7_tower 128 = .ok (.iload 7, 2) := by decide +kernel
theorem dX7_tower_130 : decode cX7_tower 130 = .ok (.iaload, 1) := by decide +kernel
theorem dX7_tower_131 : decode cX7_tower 131 = .ok (.i2l, 1) := by decide +kernel
theorem dX7_tower_132 : decode cX7_tower 132 = .ok (.lstore 8, 2) := by decide +kernel
theorem dX7_tower_134 : decode cX7_tower 134 = .ok (.lload_n 3, 1) := by decide +kernel
theorem dX7_tower_135 : decode cX7_tower 135 = .ok (.bipush 10, 2) := by decide +kernel
theorem dX7_tower_137 : decode cX7_tower 137 = .ok (.iload_n 2, 1) := by decide +kernel
theorem dX7_tower_138 : decode cX7_tower 138 = .ok (.iconst 1, 1) := by decide +kernel
theorem dX7_tower_139 : decode cX7_tower 139 = .ok (.isub, 1) := by decide +kernel
theorem dX7_tower_140 : decode cX7_tower 140 = .ok (.iload 7, 2) := by decide +kernel
theorem dX7_tower_142 : decode cX7_tower 142 = .ok (.isub, 1) := by decide +kernel
theorem dX7_tower_143 : decode cX7_tower 143 = .ok (.imul, 1) := by decide +kernel
theorem dX7_tower_144 : decode cX7_tower 144 = .ok (.lshr, 1) := by decide +kernel
theorem dX7_tower_145 : decode cX7_tower 145 = .ok (.ldc2_w 199, 3) := by decide +kernel
theorem dX7_tower_148 : decode cX7_tower 148 = .ok (.land, 1) := by decide +kernel
theorem dX7_tower_149 : decode cX7_tower 149 = .ok (.lload 8, 2) := by decide +kernel
theorem dX7_tower_151 : decode cX7_tower 151 = .ok (.invokestatic 206, 3) := by decide +kernel
theorem dX7_tower_154 : decode cX7_tower 154 = .ok (.lstore 10, 2) := by decide +kernel
theorem dX7_tower_156 : decode cX7_tower 156 = .ok (.lconst 1, 1) := by decide +kernel
theorem dX7_tower_157 : decode cX7_tower 157 = .ok (.lstore 12, 2) := by decide +kernel
theorem dX7_tower_159 : decode cX7_tower 159 = .ok (.lload 5, 2) := by decide +kernel
theorem dX7_tower_161 : decode cX7_tower 161 = .ok (.lstore 14, 2) := by decide +kernel
theorem dX7_tower_163 : decode cX7_tower 163 = .ok (.lload 14, 2) := by decide +kernel
theorem dX7_tower_165 : decode cX7_tower 165 = .ok (.lconst 0, 1) := by decide +kernel
theorem dX7_tower_166 : decode cX7_tower 166 = .ok (.lcmp, 1) := by decide +kernel
theorem dX7_tower_167 : decode cX7_tower 167 = .ok (.ifCond .le 54, 3) := by decide +kernel
theorem dX7_tower_170 : decode cX7_tower 170 = .ok (.lload 14, 2) := by decide +kernel
theorem dX7_tower_172 : decode cX7_tower 172 = .ok (.ldc2_w 56, 3) := by decide +kernel
theorem dX7_tower_175 : decode cX7_tower 175 = .ok (.lrem, 1) := by decide +kernel
theorem dX7_tower_176 : decode cX7_tower 176 = .ok (.lconst 1, 1) := by decide +kernel
theorem dX7_tower_177 : decode cX7_tower 177 = .ok (.lcmp, 1) := by decide +kernel
theorem dX7_tower_178 : decode cX7_tower 178 = .ok (.ifCond .ne 16, 3) := by decide +kernel
theorem dX7_tower_181 : decode cX7_tower 181 = .ok (.lload 12, 2) := by decide +kernel
theorem dX7_tower_183 : decode cX7_tower 183 = .ok (.lload 10, 2) := by decide +kernel
theorem dX7_tower_185 : decode cX7_tower 185 = .ok (.lmul, 1) := by decide +kernel
theorem dX7_tower_186 : decode cX7_tower 186 = .ok (.lload 8, 2) := by decide +kernel
theorem dX7_tower_188 : decode cX7_tower 188 = .ok (.invokestatic 206, 3) := by decide +kernel
theorem dX7_tower_191 : decode cX7_tower 191 = .ok (.goto 5, 3) := by decide +kernel
theorem dX7_tower_194 : decode cX7_tower 194 = .ok (.lload 12, 2) := by decide +kernel
theorem dX7_tower_196 : decode cX7_tower 196 = .ok (.lstore 12, 2) := by decide +kernel
theorem dX7_tower_198 : decode cX7_tower 198 = .ok (.lload 10, 2) := by decide +kernel
theorem dX7_tower_200 : decode cX7_tower 200 = .ok (.lload 10, 2) := by decide +kernel
theorem dX7_tower_202 : decode cX7_tower 202 = .ok (.lmul, 1) := by decide +kernel
theorem dX7_tower_203 : decode cX7_tower 203 = .ok (.lload 8, 2) := by decide +kernel
theorem dX7_tower_205 : decode cX7_tower 205 = .ok (.invokestatic 206, 3) := by decide +kernel
theorem dX7_tower_208 : decode cX7_tower 208 = .ok (.lstore 10, 2) := by decide +kernel
theorem dX7_tower_210 : decode cX7_tower 210 = .ok (.lload 14, 2) := by decide +kernel
theorem dX7_tower_212 : decode cX7_tower 212 = .ok (.ldc2_w 56, 3) := by decide +kernel
theorem dX7_tower_215 : decode cX7_tower 215 = .ok (.ldiv, 1) := by decide +kernel
theorem dX7_tower_216 : decode cX7_tower 216 = .ok (.lstore 14, 2) := by decide +kernel
theorem dX7_tower_218 : decode cX7_tower 218 = .ok (.goto (-55), 3) := by decide +kernel
theorem dX7_tower_221 : decode cX7_tower 221 = .ok (.lload 12, 2) := by decide +kernel
theorem dX7_tower_223 : decode cX7_tower 223 = .ok (.lstore 5, 2) := by decide +kernel
theorem dX7_tower_225 : decode cX7_tower 225 = .ok (.iinc 7 (-1), 3) := by decide +kernel
theorem dX7_tower_228 : decode cX7_tower 228 = .ok (.goto (-109), 3) := by decide +kernel
theorem dX7_tower_231 : decode cX7_tower 231 = .ok (.lload 5, 2) := by decide +kernel
theorem dX7_tower_233 : decode cX7_tower 233 = .ok (.iload_n 1, 1) := by decide +kernel
theorem dX7_tower_234 : decode cX7_tower 234 = .ok (.i2l, 1) := by decide +kernel
theorem dX7_tower_235 : decode cX7_tower 235 = .ok (.lrem, 1) := by decide +kernel
theorem dX7_tower_236 : decode cX7_tower 236 = .ok (.l2i, 1) := by decide +kernel
theorem dX7_tower_237 : decode cX7_tower 237 = .ok (.ireturn, 1) := by decide +kernel
set_option maxRecDepth 20000 in
theorem ggX7_isPair_X7_in : GoodIn wsX7_isPair wsX7_in := goodIn_r _ [6] (by decide +kernel) (by decide +kernel)
set_option maxRecDepth 20000 in
theorem gX7_isPair_X7_in : GoodIn wsX7_isPair (va_wsS RX7 60 yX7_in wsX7_in) := goodIn_app (goodIn_of _ (by decide +kernel)) ggX7_isPair_X7_in
set_option maxRecDepth 20000 in
theorem ggX7_isPair_X7_isPrime : GoodIn wsX7_isPair wsX7_isPrime := goodIn_r _ [9] (by decide +kernel) (by decide +kernel)
set_option maxRecDepth 20000 in
theorem gX7_isPair_X7_isPrime : GoodIn wsX7_isPair (va_wsS RX7 174 yX7_isPrime wsX7_isPrime) := goodIn_app (goodIn_of _ (by decide +kernel)) ggX7_isPair_X7_isPrime
theorem dX7_isPair_0 : decode cX7_isPair 0 = .ok (.iload_n 0, 1) := by decide +kernel
theorem dX7_isPair_1 : decode cX7_isPair 1 = .ok (.i2l, 1) := by decide +kernel
theorem dX7_isPair_2 : decode cX7_isPair 2 = .ok (.ldc2_w 56, 3) := by decide +kernel
theorem dX7_isPair_5 : decode cX7_isPair 5 = .ok (.ldc2_w 210, 3) := by decide +kernel
theorem dX7_isPair_8 : decode cX7_isPair 8 = .ok (.invokestatic 60, 3) := by decide +kernel
theorem dX7_isPair_11 : decode cX7_isPair 11 = .ok (.ifCond .eq 40, 3) := by decide +kernel
theorem dX7_isPair_14 : decode cX7_isPair 14 = .ok (.iload_n 1, 1) := by decide +kernel
theorem dX7_isPair_15 : decode cX7_isPair 15 = .ok (.i2l, 1) := by decide +kernel
theorem dX7_isPair_16 : decode cX7_isPair 16 = .ok (.ldc2_w 56, 3) := by decide +kernel
theorem dX7_isPair_19 : decode cX7_isPair 19 = .ok (.ldc2_w 210, 3) := by decide +kernel
theorem dX7_isPair_22 : decode cX7_isPair 22 = .ok (.invokestatic 60, 3) := by decide +kernel
theorem dX7_isPair_25 : decode cX7_isPair 25 = .ok (.ifCond .eq 26, 3) := by decide +kernel
theorem dX7_isPair_28 : decode cX7_isPair 28 = .ok (.iload_n 0, 1) := by decide +kernel
theorem dX7_isPair_29 : decode cX7_isPair 29 = .ok (.iload_n 1, 1) := by decide +kernel
theorem dX7_isPair_30 : decode cX7_isPair 30 = .ok (.if_icmp .eq 21, 3) := by decide +kernel
theorem dX7_isPair_33 : decode cX7_isPair 33 = .ok (.iload_n 0, 1) := by decide +kernel
theorem dX7_isPair_34 : decode cX7_isPair 34 = .ok (.invokestatic 174, 3) := by decide +kernel
theorem dX7_isPair_37 : decode cX7_isPair 37 = .ok (.ifCond .eq 14, 3) := by decide +kernel
theorem dX7_isPair_40 : decode cX7_isPair 40 = .ok (.iload_n 1, 1) := by decide +kernel
theorem dX7_isPair_41 : decode cX7_isPair 41 = .ok (.invokestatic 174, 3) := by decide +kernel
theorem dX7_isPair_44 : decode cX7_isPair 44 = .ok (.ifCond .eq 7, 3) := by decide +kernel
theorem dX7_isPair_47 : decode cX7_isPair 47 = .ok (.iconst 1, 1) := by decide +kernel
theorem dX7_isPair_48 : decode cX7_isPair 48 = .ok (.goto 4, 3) := by decide +kernel
theorem dX7_isPair_51 : decode cX7_isPair 51 = .ok (.iconst 0, 1) := by decide +kernel
theorem dX7_isPair_52 : decode cX7_isPair 52 = .ok (.ireturn, 1) := by decide +kernel
set_option maxRecDepth 20000 in
theorem ggX7_isFree_X7_common : GoodIn wsX7_isFree wsX7_common := goodIn_r _ [4] (by decide +kernel) (by decide +kernel)
set_option maxRecDepth 20000 in
theorem gX7_isFree_X7_common : GoodIn wsX7_isFree (va_wsS RX7 64 yX7_common wsX7_common) := goodIn_app (goodIn_of _ (by decide +kernel)) ggX7_isFree_X7_common
theorem dX7_isFree_0 : decode cX7_isFree 0 = .ok (.iload_n 0, 1) := by decide +kernel
theorem dX7_isFree_1 : decode cX7_isFree 1 = .ok (.iconst 1, 1) := by decide +kernel
theorem dX7_isFree_2 : decode cX7_isFree 2 = .ok (.isub, 1) := by decide +kernel
theorem dX7_isFree_3 : decode cX7_isFree 3 = .ok (.iload_n 1, 1) := by decide +kernel
theorem dX7_isFree_4 : decode cX7_isFree 4 = .ok (.iconst 1, 1) := by decide +kernel
theorem dX7_isFree_5 : decode cX7_isFree 5 = .ok (.isub, 1) := by decide +kernel
theorem dX7_isFree_6 : decode cX7_isFree 6 = .ok (.imul, 1) := by decide +kernel
theorem dX7_isFree_7 : decode cX7_isFree 7 = .ok (.iload_n 2, 1) := by decide +kernel
theorem dX7_isFree_8 : decode cX7_isFree 8 = .ok (.invokestatic 64, 3) := by decide +kernel
theorem dX7_isFree_11 : decode cX7_isFree 11 = .ok (.iconst 1, 1) := by decide +kernel
theorem dX7_isFree_12 : decode cX7_isFree 12 = .ok (.if_icmp .ne 7, 3) := by decide +kernel
theorem dX7_isFree_15 : decode cX7_isFree 15 = .ok (.iconst 1, 1) := by decide +kernel
theorem dX7_isFree_16 : decode cX7_isFree 16 = .ok (.goto 4, 3) := by decide +kernel
theorem dX7_isFree_19 : decode cX7_isFree 19 = .ok (.iconst 0, 1) := by decide +kernel
theorem dX7_isFree_20 : decode cX7_isFree 20 = .ok (.ireturn, 1) := by decide +kernel
set_option maxRecDepth 20000 in
theorem ggX7_both_X7_common : GoodIn wsX7_both wsX7_common := goodIn_r _ [4] (by decide +kernel) (by decide +kernel)
set_option maxRecDepth 20000 in
theorem gX7_both_X7_common : GoodIn wsX7_both (va_wsS RX7 64 yX7_common wsX7_common) := goodIn_app (goodIn_of _ (by decide +kernel)) ggX7_both_X7_common
theorem dX7_both_0 : decode cX7_both 0 = .ok (.iload_n 0, 1) := by decide +kernel
theorem dX7_both_1 : decode cX7_both 1 = .ok (.iconst 1, 1) := by decide +kernel
theorem dX7_both_2 : decode cX7_both 2 = .ok (.isub, 1) := by decide +kernel
theorem dX7_both_3 : decode cX7_both 3 = .ok (.iload_n 0, 1) := by decide +kernel
theorem dX7_both_4 : decode cX7_both 4 = .ok (.iconst 1, 1) := by decide +kernel
theorem dX7_both_5 : decode cX7_both 5 = .ok (.isub, 1) := by decide +kernel
theorem dX7_both_6 : decode cX7_both 6 = .ok (.iload_n 1, 1) := by decide +kernel
theorem dX7_both_7 : decode cX7_both 7 = .ok (.iconst 1, 1) := by decide +kernel
theorem dX7_both_8 : decode cX7_both 8 = .ok (.isub, 1) := by decide +kernel
theorem dX7_both_9 : decode cX7_both 9 = .ok (.invokestatic 64, 3) := by decide +kernel
theorem dX7_both_12 : decode cX7_both 12 = .ok (.idiv, 1) := by decide +kernel
theorem dX7_both_13 : decode cX7_both 13 = .ok (.iload_n 1, 1) := by decide +kernel
theorem dX7_both_14 : decode cX7_both 14 = .ok (.iconst 1, 1) := by decide +kernel
theorem dX7_both_15 : decode cX7_both 15 = .ok (.isub, 1) := by decide +kernel
theorem dX7_both_16 : decode cX7_both 16 = .ok (.imul, 1) := by decide +kernel
theorem dX7_both_17 : decode cX7_both 17 = .ok (.ireturn, 1) := by decide +kernel
set_option maxRecDepth 20000 in
theorem ggX7_back_X7_isPair : GoodIn wsX7_back wsX7_isPair := goodIn_r _ [5, 6, 7, 8, 9, 4, 10, 11, 12, 13] (by decide +kernel) (by decide +kernel)
set_option maxRecDepth 20000 in
theorem gX7_back_X7_isPair : GoodIn wsX7_back (va_wsS RX7 212 yX7_isPair wsX7_isPair) := goodIn_app (goodIn_of _ (by decide +kernel)) ggX7_back_X7_isPair
set_option maxRecDepth 20000 in
theorem ggX7_back_X7_in : GoodIn wsX7_back wsX7_in := goodIn_r _ [10] (by decide +kernel) (by decide +kernel)
set_option maxRecDepth 20000 in
theorem gX7_back_X7_in : GoodIn wsX7_back (va_wsS RX7 60 yX7_in wsX7_in) := goodIn_app (goodIn_of _ (by decide +kernel)) ggX7_back_X7_in
set_option maxRecDepth 20000 in
theorem ggX7_back_X7_isFree : GoodIn wsX7_back wsX7_isFree := goodIn_r _ [16, 17, 18, 4, 19] (by decide +kernel) (by decide +kernel)
set_option maxRecDepth 20000 in
theorem gX7_back_X7_isFree : GoodIn wsX7_back (va_wsS RX7 217 yX7_isFree wsX7_isFree) := goodIn_app (goodIn_of _ (by decide +kernel)) ggX7_back_X7_isFree
set_option maxRecDepth 20000 in
theorem ggX7_back_X7_both : GoodIn wsX7_back wsX7_both := goodIn_r _ [22, 17, 18, 4, 19] (by decide +kernel) (by decide +kernel)
set_option maxRecDepth 20000 in
theorem gX7_back_X7_both : GoodIn wsX7_back (va_wsS RX7 221 yX7_both wsX7_both) := goodIn_app (goodIn_of _ (by decide +kernel)) ggX7_back_X7_both
theorem dX7_back_0 : decode cX7_back 0 = .ok (.iload_n 1, 1) := by decide +kernel
theorem dX7_back_1 : decode cX7_back 1 = .ok (.iload_n 2, 1) := by decide +kernel
theorem dX7_back_2 : decode cX7_back 2 = .ok (.invokestatic 212, 3) := by decide +kernel
theorem dX7_back_5 : decode cX7_back 5 = .ok (.ifCond .eq 15, 3) := by decide +kernel
theorem dX7_back_8 : decode cX7_back 8 = .ok (.iload_n 3, 1) := by decide +kernel
theorem dX7_back_9 : decode cX7_back 9 = .ok (.i2l, 1) := by decide +kernel
theorem dX7_back_10 : decode cX7_back 10 = .ok (.lconst 1, 1) := by decide +kernel
theorem dX7_back_11 : decode cX7_back 11 = .ok (.ldc2_w 215, 3) := by decide +kernel
theorem dX7_back_14 : decode cX7_back 14 = .ok (.invokestatic 60, 3) := by decide +kernel
theorem dX7_back_17 : decode cX7_back 17 = .ok (.ifCond .ne 5, 3) := by decide +kernel
theorem dX7_back_20 : decode cX7_back 20 = .ok (.iconst (-1), 1) := by decide +kernel
theorem dX7_back_21 : decode cX7_back 21 = .ok (.ireturn, 1) := by decide +kernel
theorem dX7_back_22 : decode cX7_back 22 = .ok (.iload_n 1, 1) := by decide +kernel
theorem dX7_back_23 : decode cX7_back 23 = .ok (.iload_n 2, 1) := by decide +kernel
theorem dX7_back_24 : decode cX7_back 24 = .ok (.iload_n 3, 1) := by decide +kernel
theorem dX7_back_25 : decode cX7_back 25 = .ok (.invokestatic 217, 3) := by decide +kernel
theorem dX7_back_28 : decode cX7_back 28 = .ok (.ifCond .ne 6, 3) := by decide +kernel
theorem dX7_back_31 : decode cX7_back 31 = .ok (.bipush (-2), 2) := by decide +kernel
theorem dX7_back_33 : decode cX7_back 33 = .ok (.ireturn, 1) := by decide +kernel
theorem dX7_back_34 : decode cX7_back 34 = .ok (.iload_n 1, 1) := by decide +kernel
theorem dX7_back_35 : decode cX7_back 35 = .ok (.iload_n 2, 1) := by decide +kernel
theorem dX7_back_36 : decode cX7_back 36 = .ok (.invokestatic 221, 3) := by decide +kernel
theorem dX7_back_39 : decode cX7_back 39 = .ok (.istore 4, 2) := by decide +kernel
theorem dX7_back_41 : decode cX7_back 41 = .ok (.iconst 1, 1) := by decide +kernel
theorem dX7_back_42 : decode cX7_back 42 = .ok (.istore 5, 2) := by decide +kernel
theorem dX7_back_44 : decode cX7_back 44 = .ok (.iload 5, 2) := by decide +kernel
theorem dX7_back_46 : decode cX7_back 46 = .ok (.i2l, 1) := by decide +kernel
theorem dX7_back_47 : decode cX7_back 47 = .ok (.iload_n 3, 1) := by decide +kernel
theorem dX7_back_48 : decode cX7_back 48 = .ok (.i2l, 1) := by decide +kernel
theorem dX7_back_49 : decode cX7_back 49 = .ok (.lmul, 1) := by decide +kernel
theorem dX7_back_50 : decode cX7_back 50 = .ok (.iload 4, 2) := by decide +kernel
theorem dX7_back_52 : decode cX7_back 52 = .ok (.i2l, 1) := by decide +kernel
theorem dX7_back_53 : decode cX7_back 53 = .ok (.lrem, 1) := by decide +kernel
theorem dX7_back_54 : decode cX7_back 54 = .ok (.iconst 1, 1) := by decide +kernel
theorem dX7_back_55 : decode cX7_back 55 = .ok (.iload 4, 2) := by decide +kernel
theorem dX7_back_57 : decode cX7_back 57 = .ok (.irem, 1) := by decide +kernel
theorem dX7_back_58 : decode cX7_back 58 = .ok (.i2l, 1) := by decide +kernel
theorem dX7_back_59 : decode cX7_back 59 = .ok (.lcmp, 1) := by decide +kernel
theorem dX7_back_60 : decode cX7_back 60 = .ok (.ifCond .eq 9, 3) := by decide +kernel
theorem dX7_back_63 : decode cX7_back 63 = .ok (.iinc 5 1, 3) := by decide +kernel
theorem dX7_back_66 : decode cX7_back 66 = .ok (.goto (-22), 3) := by decide +kernel
theorem dX7_back_69 : decode cX7_back 69 = .ok (.iload 5, 2) := by decide +kernel
theorem dX7_back_71 : decode cX7_back 71 = .ok (.ireturn, 1) := by decide +kernel
set_option maxRecDepth 20000 in
theorem ggX7_stay_X7_isPair : GoodIn wsX7_stay wsX7_isPair := goodIn_r _ [5, 6, 7, 8, 9, 4, 10, 11, 12, 13] (by decide +kernel) (by decide +kernel)
set_option maxRecDepth 20000 in
theorem gX7_stay_X7_isPair : GoodIn wsX7_stay (va_wsS RX7 212 yX7_isPair wsX7_isPair) := goodIn_app (goodIn_of _ (by decide +kernel)) ggX7_stay_X7_isPair
set_option maxRecDepth 20000 in
theorem ggX7_stay_X7_in : GoodIn wsX7_stay wsX7_in := goodIn_r _ [10] (by decide +kernel) (by decide +kernel)
set_option maxRecDepth 20000 in
theorem gX7_stay_X7_in : GoodIn wsX7_stay (va_wsS RX7 60 yX7_in wsX7_in) := goodIn_app (goodIn_of _ (by decide +kernel)) ggX7_stay_X7_in
set_option maxRecDepth 20000 in
theorem ggX7_stay_X7_isFree : GoodIn wsX7_stay wsX7_isFree := goodIn_r _ [16, 17, 18, 4, 19] (by decide +kernel) (by decide +kernel)
set_option maxRecDepth 20000 in
theorem gX7_stay_X7_isFree : GoodIn wsX7_stay (va_wsS RX7 217 yX7_isFree wsX7_isFree) := goodIn_app (goodIn_of _ (by decide +kernel)) ggX7_stay_X7_isFree
set_option maxRecDepth 20000 in
theorem ggX7_stay_X7_powerOf : GoodIn wsX7_stay wsX7_powerOf := goodIn_r _ [22, 6] (by decide +kernel) (by decide +kernel)
set_option maxRecDepth 20000 in
theorem gX7_stay_X7_powerOf : GoodIn wsX7_stay (va_wsS RX7 88 yX7_powerOf wsX7_powerOf) := goodIn_app (goodIn_of _ (by decide +kernel)) ggX7_stay_X7_powerOf
theorem dX7_stay_0 : decode cX7_stay 0 = .ok (.iload_n 1, 1) := by decide +kernel
theorem dX7_stay_1 : decode cX7_stay 1 = .ok (.iload_n 2, 1) := by decide +kernel
theorem dX7_stay_2 : decode cX7_stay 2 = .ok (.invokestatic 212, 3) := by decide +kernel
theorem dX7_stay_5 : decode cX7_stay 5 = .ok (.ifCond .eq 21, 3) := by decide +kernel
theorem dX7_stay_8 : decode cX7_stay 8 = .ok (.iload_n 3, 1) := by decide +kernel
theorem dX7_stay_9 : decode cX7_stay 9 = .ok (.i2l, 1) := by decide +kernel
theorem dX7_stay_10 : decode cX7_stay 10 = .ok (.lconst 1, 1) := by decide +kernel
theorem dX7_stay_11 : decode cX7_stay 11 = .ok (.ldc2_w 215, 3) := by decide +kernel
theorem dX7_stay_14 : decode cX7_stay 14 = .ok (.invokestatic 60, 3) := by decide +kernel
theorem dX7_stay_17 : decode cX7_stay 17 = .ok (.ifCond .eq 9, 3) := by decide +kernel
theorem dX7_stay_20 : decode cX7_stay 20 = .ok (.iload 4, 2) := by decide +kernel
theorem dX7_stay_22 : decode cX7_stay 22 = .ok (.iconst (-1), 1) := by decide +kernel
theorem dX7_stay_23 : decode cX7_stay 23 = .ok (.if_icmp .ge 5, 3) := by decide +kernel
theorem dX7_stay_26 : decode cX7_stay 26 = .ok (.iconst (-1), 1) := by decide +kernel
theorem dX7_stay_27 : decode cX7_stay 27 = .ok (.ireturn, 1) := by decide +kernel
theorem dX7_stay_28 : decode cX7_stay 28 = .ok (.iload_n 1, 1) := by decide +kernel
theorem dX7_stay_29 : decode cX7_stay 29 = .ok (.iload_n 2, 1) := by decide +kernel
theorem dX7_stay_30 : decode cX7_stay 30 = .ok (.iload_n 3, 1) := by decide +kernel
theorem dX7_stay_31 : decode cX7_stay 31 = .ok (.invokestatic 217, 3) := by decide +kernel
theorem dX7_stay_34 : decode cX7_stay 34 = .ok (.ifCond .ne 6, 3) := by decide +kernel
theorem dX7_stay_37 : decode cX7_stay 37 = .ok (.bipush (-2), 2) := by decide +kernel
theorem dX7_stay_39 : decode cX7_stay 39 = .ok (.ireturn, 1) := by decide +kernel
theorem dX7_stay_40 : decode cX7_stay 40 = .ok (.iconst 0, 1) := by decide +kernel
theorem dX7_stay_41 : decode cX7_stay 41 = .ok (.istore 5, 2) := by decide +kernel
theorem dX7_stay_43 : decode cX7_stay 43 = .ok (.iconst 0, 1) := by decide +kernel
theorem dX7_stay_44 : decode cX7_stay 44 = .ok (.istore 6, 2) := by decide +kernel
theorem dX7_stay_46 : decode cX7_stay 46 = .ok (.iload 6, 2) := by decide +kernel
theorem dX7_stay_48 : decode cX7_stay 48 = .ok (.iload_n 1, 1) := by decide +kernel
theorem dX7_stay_49 : decode cX7_stay 49 = .ok (.iload_n 2, 1) := by decide +kernel
theorem dX7_stay_50 : decode cX7_stay 50 = .ok (.imul, 1) := by decide +kernel
theorem dX7_stay_51 : decode cX7_stay 51 = .ok (.if_icmp .ge 37, 3) := by decide +kernel
theorem dX7_stay_54 : decode cX7_stay 54 = .ok (.iload_n 1, 1) := by decide +kernel
theorem dX7_stay_55 : decode cX7_stay 55 = .ok (.iload_n 2, 1) := by decide +kernel
theorem dX7_stay_56 : decode cX7_stay 56 = .ok (.imul, 1) := by decide +kernel
theorem dX7_stay_57 : decode cX7_stay 57 = .ok (.iload 6, 2) := by decide +kernel
theorem dX7_stay_59 : decode cX7_stay 59 = .ok (.iload_n 3, 1) := by decide +kernel
theorem dX7_stay_60 : decode cX7_stay 60 = .ok (.i2l, 1) := by decide +kernel
theorem dX7_stay_61 : decode cX7_stay 61 = .ok (.invokestatic 88, 3) := by decide +kernel
theorem dX7_stay_64 : decode cX7_stay 64 = .ok (.iload 6, 2) := by decide +kernel
theorem dX7_stay_66 : decode cX7_stay 66 = .ok (.if_icmp .ne 16, 3) := by decide +kernel
theorem dX7_stay_69 : decode cX7_stay 69 = .ok (.iload 5, 2) := by decide +kernel
theorem dX7_stay_71 : decode cX7_stay 71 = .ok (.iload 4, 2) := by decide +kernel
theorem dX7_stay_73 : decode cX7_stay 73 = .ok (.if_icmp .ne 6, 3) := by decide +kernel
theorem dX7_stay_76 : decode cX7_stay 76 = .ok (.iload 6, 2) := by decide +kernel
theorem dX7_stay_78 : decode cX7_stay 78 = .ok (.ireturn, 1) := by decide +kernel
theorem dX7_stay_79 : decode cX7_stay 79 = .ok (.iinc 5 1, 3) := by decide +kernel
theorem dX7_stay_82 : decode cX7_stay 82 = .ok (.iinc 6 1, 3) := by decide +kernel
theorem dX7_stay_85 : decode cX7_stay 85 = .ok (.goto (-39), 3) := by decide +kernel
theorem dX7_stay_88 : decode cX7_stay 88 = .ok (.iload 4, 2) := by decide +kernel
theorem dX7_stay_90 : decode cX7_stay 90 = .ok (.ifCond .ge 8, 3) := by decide +kernel
theorem dX7_stay_93 : decode cX7_stay 93 = .ok (.iload 5, 2) := by decide +kernel
theorem dX7_stay_95 : decode cX7_stay 95 = .ok (.goto 5, 3) := by decide +kernel
theorem dX7_stay_98 : decode cX7_stay 98 = .ok (.bipush (-4), 2) := by decide +kernel
theorem dX7_stay_100 : decode cX7_stay 100 = .ok (.ireturn, 1) := by decide +kernel
set_option maxRecDepth 20000 in
theorem ggX7_rounds_X7_isPair : GoodIn wsX7_rounds wsX7_isPair := goodIn_r _ [6, 7, 8, 9, 10, 5, 11, 12, 13, 14] (by decide +kernel) (by decide +kernel)
set_option maxRecDepth 20000 in
theorem gX7_rounds_X7_isPair : GoodIn wsX7_rounds (va_wsS RX7 212 yX7_isPair wsX7_isPair) := goodIn_app (goodIn_of _ (by decide +kernel)) ggX7_rounds_X7_isPair
set_option maxRecDepth 20000 in
theorem ggX7_rounds_X7_in : GoodIn wsX7_rounds wsX7_in := goodIn_r _ [11] (by decide +kernel) (by decide +kernel)
set_option maxRecDepth 20000 in
theorem gX7_rounds_X7_in : GoodIn wsX7_rounds (va_wsS RX7 60 yX7_in wsX7_in) := goodIn_app (goodIn_of _ (by decide +kernel)) ggX7_rounds_X7_in
set_option maxRecDepth 20000 in
theorem ggX7_rounds_X7_isFree : GoodIn wsX7_rounds wsX7_isFree := goodIn_r _ [17, 18, 19, 5, 20] (by decide +kernel) (by decide +kernel)
set_option maxRecDepth 20000 in
theorem gX7_rounds_X7_isFree : GoodIn wsX7_rounds (va_wsS RX7 217 yX7_isFree wsX7_isFree) := goodIn_app (goodIn_of _ (by decide +kernel)) ggX7_rounds_X7_isFree
set_option maxRecDepth 20000 in
theorem ggX7_rounds_X7_both : GoodIn wsX7_rounds wsX7_both := goodIn_r _ [23, 18, 19, 5, 20] (by decide +kernel) (by decide +kernel)
set_option maxRecDepth 20000 in
theorem gX7_rounds_X7_both : GoodIn wsX7_rounds (va_wsS RX7 221 yX7_both wsX7_both) := goodIn_app (goodIn_of _ (by decide +kernel)) ggX7_rounds_X7_both
set_option maxRecDepth 20000 in
theorem ggX7_rounds_X7_powerOf : GoodIn wsX7_rounds wsX7_powerOf := goodIn_r _ [26, 7] (by decide +kernel) (by decide +kernel)
set_option maxRecDepth 20000 in
theorem gX7_rounds_X7_powerOf : GoodIn wsX7_rounds (va_wsS RX7 88 yX7_powerOf wsX7_powerOf) := goodIn_app (goodIn_of _ (by decide +kernel)) ggX7_rounds_X7_powerOf
theorem dX7_rounds_0 : decode cX7_rounds 0 = .ok (.iload_n 1, 1) := by decide +kernel
theorem dX7_rounds_1 : decode cX7_rounds 1 = .ok (.iload_n 2, 1) := by decide +kernel
theorem dX7_rounds_2 : decode cX7_rounds 2 = .ok (.invokestatic 212, 3) := by decide +kernel
theorem dX7_rounds_5 : decode cX7_rounds 5 = .ok (.ifCond .eq 33, 3) := by decide +kernel
theorem dX7_rounds_8 : decode cX7_rounds 8 = .ok (.iload_n 3, 1) := by decide +kernel
theorem dX7_rounds_9 : decode cX7_rounds 9 = .ok (.i2l, 1) := by decide +kernel
theorem dX7_rounds_10 : decode cX7_rounds 10 = .ok (.lconst 1, 1) := by decide +kernel
theorem dX7_rounds_11 : decode cX7_rounds 11 = .ok (.ldc2_w 215, 3) := by decide +kernel
theorem dX7_rounds_14 : decode cX7_rounds 14 = .ok (.invokestatic 60, 3) := by decide +kernel
theorem dX7_rounds_17 : decode cX7_rounds 17 = .ok (.ifCond .eq 21, 3) := by decide +kernel
theorem dX7_rounds_20 : decode cX7_rounds 20 = .ok (.iload 4, 2) := by decide +kernel
theorem dX7_rounds_22 : decode cX7_rounds 22 = .ok (.i2l, 1) := by decide +kernel
theorem dX7_rounds_23 : decode cX7_rounds 23 = .ok (.ldc2_w 151, 3) := by decide +kernel
theorem dX7_rounds_26 : decode cX7_rounds 26 = .ok (.iload_n 1, 1) := by decide +kernel
theorem dX7_rounds_27 : decode cX7_rounds 27 = .ok (.iload_n 2, 1) := by decide +kernel
theorem dX7_rounds_28 : decode cX7_rounds 28 = .ok (.imul, 1) := by decide +kernel
theorem dX7_rounds_29 : decode cX7_rounds 29 = .ok (.iconst 1, 1) := by decide +kernel
theorem dX7_rounds_30 : decode cX7_rounds 30 = .ok (.isub, 1) := by decide +kernel
theorem dX7_rounds_31 : decode cX7_rounds 31 = .ok (.i2l, 1) := by decide +kernel
theorem dX7_rounds_32 : decode cX7_rounds 32 = .ok (.invokestatic 60, 3) := by decide +kernel
theorem dX7_rounds_35 : decode cX7_rounds 35 = .ok (.ifCond .ne 5, 3) := by decide +kernel
theorem dX7_rounds_38 : decode cX7_rounds 38 = .ok (.iconst (-1), 1) := by decide +kernel
theorem dX7_rounds_39 : decode cX7_rounds 39 = .ok (.ireturn, 1) := by decide +kernel
theorem dX7_rounds_40 : decode cX7_rounds 40 = .ok (.iload_n 1, 1) := by decide +kernel
theorem dX7_rounds_41 : decode cX7_rounds 41 = .ok (.iload_n 2, 1) := by decide +kernel
theorem dX7_rounds_42 : decode cX7_rounds 42 = .ok (.iload_n 3, 1) := by decide +kernel
theorem dX7_rounds_43 : decode cX7_rounds 43 = .ok (.invokestatic 217, 3) := by decide +kernel
theorem dX7_rounds_46 : decode cX7_rounds 46 = .ok (.ifCond .ne 6, 3) := by decide +kernel
theorem dX7_rounds_49 : decode cX7_rounds 49 = .ok (.bipush (-2), 2) := by decide +kernel
theorem dX7_rounds_51 : decode cX7_rounds 51 = .ok (.ireturn, 1) := by decide +kernel
theorem dX7_rounds_52 : decode cX7_rounds 52 = .ok (.iload_n 1, 1) := by decide +kernel
theorem dX7_rounds_53 : decode cX7_rounds 53 = .ok (.iload_n 2, 1) := by decide +kernel
theorem dX7_rounds_54 : decode cX7_rounds 54 = .ok (.invokestatic 221, 3) := by decide +kernel
theorem dX7_rounds_57 : decode cX7_rounds 57 = .ok (.istore 5, 2) := by decide +kernel
theorem dX7_rounds_59 : decode cX7_rounds 59 = .ok (.iconst 1, 1) := by decide +kernel
theorem dX7_rounds_60 : decode cX7_rounds 60 = .ok (.istore 6, 2) := by decide +kernel
theorem dX7_rounds_62 : decode cX7_rounds 62 = .ok (.iload 4, 2) := by decide +kernel
theorem dX7_rounds_64 : decode cX7_rounds 64 = .ok (.ifCond .ge 44, 3) := by decide +kernel
theorem dX7_rounds_67 : decode cX7_rounds 67 = .ok (.iload_n 3, 1) := by decide +kernel
theorem dX7_rounds_68 : decode cX7_rounds 68 = .ok (.iload 5, 2) := by decide +kernel
theorem dX7_rounds_70 : decode cX7_rounds 70 = .ok (.irem, 1) := by decide +kernel
theorem dX7_rounds_71 : decode cX7_rounds 71 = .ok (.i2l, 1) := by decide +kernel
theorem dX7_rounds_72 : decode cX7_rounds 72 = .ok (.lstore 7, 2) := by decide +kernel
theorem dX7_rounds_74 : decode cX7_rounds 74 = .ok (.lload 7, 2) := by decide +kernel
theorem dX7_rounds_76 : decode cX7_rounds 76 = .ok (.iconst 1, 1) := by decide +kernel
theorem dX7_rounds_77 : decode cX7_rounds 77 = .ok (.iload 5, 2) := by decide +kernel
theorem dX7_rounds_79 : decode cX7_rounds 79 = .ok (.irem, 1) := by decide +kernel
theorem dX7_rounds_80 : decode cX7_rounds 80 = .ok (.i2l, 1) := by decide +kernel
theorem dX7_rounds_81 : decode cX7_rounds 81 = .ok (.lcmp, 1) := by decide +kernel
theorem dX7_rounds_82 : decode cX7_rounds 82 = .ok (.ifCond .eq 23, 3) := by decide +kernel
theorem dX7_rounds_85 : decode cX7_rounds 85 = .ok (.lload 7, 2) := by decide +kernel
theorem dX7_rounds_87 : decode cX7_rounds 87 = .ok (.iload_n 3, 1) := by decide +kernel
theorem dX7_rounds_88 : decode cX7_rounds 88 = .ok (.iload 5, 2) := by decide +kernel
theorem dX7_rounds_90 : decode cX7_rounds 90 = .ok (.irem, 1) := by decide +kernel
theorem dX7_rounds_91 : decode cX7_rounds 91 = .ok (.i2l, 1) := by decide +kernel
theorem dX7_rounds_92 : decode cX7_rounds 92 = .ok (.lmul, 1) := by decide +kernel
theorem dX7_rounds_93 : decode cX7_rounds 93 = .ok (.iload 5, 2) := by decide +kernel
theorem dX7_rounds_95 : decode cX7_rounds 95 = .ok (.i2l, 1) := by decide +kernel
theorem dX7_rounds_96 : decode cX7_rounds 96 = .ok (.lrem, 1) := by decide +kernel
theorem dX7_rounds_97 : decode cX7_rounds 97 = .ok (.lstore 7, 2) := by decide +kernel
theorem dX7_rounds_99 : decode cX7_rounds 99 = .ok (.iinc 6 1, 3) := by decide +kernel
theorem dX7_rounds_102 : decode cX7_rounds 102 = .ok (.goto (-28), 3) := by decide +kernel
theorem dX7_rounds_105 : decode cX7_rounds 105 = .ok (.iload 6, 2) := by decide +kernel
theorem dX7_rounds_107 : decode cX7_rounds 107 = .ok (.ireturn, 1) := by decide +kernel
theorem dX7_rounds_108 : decode cX7_rounds 108 = .ok (.iload_n 1, 1) := by decide +kernel
theorem dX7_rounds_109 : decode cX7_rounds 109 = .ok (.iload_n 2, 1) := by decide +kernel
theorem dX7_rounds_110 : decode cX7_rounds 110 = .ok (.imul, 1) := by decide +kernel
theorem dX7_rounds_111 : decode cX7_rounds 111 = .ok (.iload 4, 2) := by decide +kernel
theorem dX7_rounds_113 : decode cX7_rounds 113 = .ok (.iload_n 3, 1) := by decide +kernel
theorem dX7_rounds_114 : decode cX7_rounds 114 = .ok (.i2l, 1) := by decide +kernel
theorem dX7_rounds_115 : decode cX7_rounds 115 = .ok (.invokestatic 88, 3) := by decide +kernel
theorem dX7_rounds_118 : decode cX7_rounds 118 = .ok (.istore 7, 2) := by decide +kernel
theorem dX7_rounds_120 : decode cX7_rounds 120 = .ok (.iload 7, 2) := by decide +kernel
theorem dX7_rounds_122 : decode cX7_rounds 122 = .ok (.iload 4, 2) := by decide +kernel
theorem dX7_rounds_124 : decode cX7_rounds 124 = .ok (.if_icmp .eq 21, 3) := by decide +kernel
theorem dX7_rounds_127 : decode cX7_rounds 127 = .ok (.iload_n 1, 1) := by decide +kernel
theorem dX7_rounds_128 : decode cX7_rounds 128 = .ok (.iload_n 2, 1) := by decide +kernel
theorem dX7_rounds_129 : decode cX7_rounds 129 = .ok (.imul, 1) := by decide +kernel
theorem dX7_rounds_130 : decode cX7_rounds 130 = .ok (.iload 7, 2) := by decide +kernel
theorem dX7_rounds_132 : decode cX7_rounds 132 = .ok (.iload_n 3, 1) := by decide +kernel
theorem dX7_rounds_133 : decode cX7_rounds 133 = .ok (.i2l, 1) := by decide +kernel
theorem dX7_rounds_134 : decode cX7_rounds 134 = .ok (.invokestatic 88, 3) := by decide +kernel
theorem dX7_rounds_137 : decode cX7_rounds 137 = .ok (.istore 7, 2) := by decide +kernel
theorem dX7_rounds_139 : decode cX7_rounds 139 = .ok (.iinc 6 1, 3) := by decide +kernel
theorem dX7_rounds_142 : decode cX7_rounds 142 = .ok (.goto (-22), 3) := by decide +kernel
theorem dX7_rounds_145 : decode cX7_rounds 145 = .ok (.iload 6, 2) := by decide +kernel
theorem dX7_rounds_147 : decode cX7_rounds 147 = .ok (.ireturn, 1) := by decide +kernel
theorem dX7_count_0 : decode cX7_count 0 = .ok (.iload_n 1, 1) := by decide +kernel
theorem dX7_count_1 : decode cX7_count 1 = .ok (.ifCond .ne 10, 3) := by decide +kernel
theorem dX7_count_4 : decode cX7_count 4 = .ok (.aload_n 0, 1) := by decide +kernel
theorem dX7_count_5 : decode cX7_count 5 = .ok (.getfield 102, 3) := by decide +kernel
theorem dX7_count_8 : decode cX7_count 8 = .ok (.goto 28, 3) := by decide +kernel
theorem dX7_count_11 : decode cX7_count 11 = .ok (.iload_n 1, 1) := by decide +kernel
theorem dX7_count_12 : decode cX7_count 12 = .ok (.iconst 1, 1) := by decide +kernel
theorem dX7_count_13 : decode cX7_count 13 = .ok (.if_icmp .ne 10, 3) := by decide +kernel
theorem dX7_count_16 : decode cX7_count 16 = .ok (.aload_n 0, 1) := by decide +kernel
theorem dX7_count_17 : decode cX7_count 17 = .ok (.getfield 137, 3) := by decide +kernel
theorem dX7_count_20 : decode cX7_count 20 = .ok (.goto 16, 3) := by decide +kernel
theorem dX7_count_23 : decode cX7_count 23 = .ok (.iload_n 1, 1) := by decide +kernel
theorem dX7_count_24 : decode cX7_count 24 = .ok (.iconst 2, 1) := by decide +kernel
theorem dX7_count_25 : decode cX7_count 25 = .ok (.if_icmp .ne 10, 3) := by decide +kernel
theorem dX7_count_28 : decode cX7_count 28 = .ok (.aload_n 0, 1) := by decide +kernel
theorem dX7_count_29 : decode cX7_count 29 = .ok (.getfield 13, 3) := by decide +kernel
theorem dX7_count_32 : decode cX7_count 32 = .ok (.goto 4, 3) := by decide +kernel
theorem dX7_count_35 : decode cX7_count 35 = .ok (.iconst (-1), 1) := by decide +kernel
theorem dX7_count_36 : decode cX7_count 36 = .ok (.ireturn, 1) := by decide +kernel
theorem dJ6_bitCount_0f7a4_0 : decode cJ6_bitCount_0f7a4 0 = .ok (.iload_n 0, 1) := by decide +kernel
theorem dJ6_bitCount_0f7a4_1 : decode cJ6_bitCount_0f7a4 1 = .ok (.iload_n 0, 1) := by decide +kernel
theorem dJ6_bitCount_0f7a4_2 : decode cJ6_bitCount_0f7a4 2 = .ok (.iconst 1, 1) := by decide +kernel
theorem dJ6_bitCount_0f7a4_3 : decode cJ6_bitCount_0f7a4 3 = .ok (.iushr, 1) := by decide +kernel
theorem dJ6_bitCount_0f7a4_4 : decode cJ6_bitCount_0f7a4 4 = .ok (.ldc_w 265, 3) := by decide +kernel
theorem dJ6_bitCount_0f7a4_7 : decode cJ6_bitCount_0f7a4 7 = .ok (.iand, 1) := by decide +kernel
theorem dJ6_bitCount_0f7a4_8 : decode cJ6_bitCount_0f7a4 8 = .ok (.isub, 1) := by decide +kernel
theorem dJ6_bitCount_0f7a4_9 : decode cJ6_bitCount_0f7a4 9 = .ok (.istore_n 0, 1) := by decide +kernel
theorem dJ6_bitCount_0f7a4_10 : decode cJ6_bitCount_0f7a4 10 = .ok (.iload_n 0, 1) := by decide +kernel
theorem dJ6_bitCount_0f7a4_11 : decode cJ6_bitCount_0f7a4 11 = .ok (.ldc_w 266, 3) := by decide +kernel
theorem dJ6_bitCount_0f7a4_14 : decode cJ6_bitCount_0f7a4 14 = .ok (.iand, 1) := by decide +kernel
theorem dJ6_bitCount_0f7a4_15 : decode cJ6_bitCount_0f7a4 15 = .ok (.iload_n 0, 1) := by decide +kernel
theorem dJ6_bitCount_0f7a4_16 : decode cJ6_bitCount_0f7a4 16 = .ok (.iconst 2, 1) := by decide +kernel
theorem dJ6_bitCount_0f7a4_17 : decode cJ6_bitCount_0f7a4 17 = .ok (.iushr, 1) := by decide +kernel
theorem dJ6_bitCount_0f7a4_18 : decode cJ6_bitCount_0f7a4 18 = .ok (.ldc_w 266, 3) := by decide +kernel
theorem dJ6_bitCount_0f7a4_21 : decode cJ6_bitCount_0f7a4 21 = .ok (.iand, 1) := by decide +kernel
theorem dJ6_bitCount_0f7a4_22 : decode cJ6_bitCount_0f7a4 22 = .ok (.iadd, 1) := by decide +kernel
theorem dJ6_bitCount_0f7a4_23 : decode cJ6_bitCount_0f7a4 23 = .ok (.istore_n 0, 1) := by decide +kernel
theorem dJ6_bitCount_0f7a4_24 : decode cJ6_bitCount_0f7a4 24 = .ok (.iload_n 0, 1) := by decide +kernel
theorem dJ6_bitCount_0f7a4_25 : decode cJ6_bitCount_0f7a4 25 = .ok (.iload_n 0, 1) := by decide +kernel
theorem dJ6_bitCount_0f7a4_26 : decode cJ6_bitCount_0f7a4 26 = .ok (.iconst 4, 1) := by decide +kernel
theorem dJ6_bitCount_0f7a4_27 : decode cJ6_bitCount_0f7a4 27 = .ok (.iushr, 1) := by decide +kernel
theorem dJ6_bitCount_0f7a4_28 : decode cJ6_bitCount_0f7a4 28 = .ok (.iadd, 1) := by decide +kernel
theorem dJ6_bitCount_0f7a4_29 : decode cJ6_bitCount_0f7a4 29 = .ok (.ldc_w 267, 3) := by decide +kernel
theorem dJ6_bitCount_0f7a4_32 : decode cJ6_bitCount_0f7a4 32 = .ok (.iand, 1) := by decide +kernel
theorem dJ6_bitCount_0f7a4_33 : decode cJ6_bitCount_0f7a4 33 = .ok (.istore_n 0, 1) := by decide +kernel
theorem dJ6_bitCount_0f7a4_34 : decode cJ6_bitCount_0f7a4 34 = .ok (.iload_n 0, 1) := by decide +kernel
theorem dJ6_bitCount_0f7a4_35 : decode cJ6_bitCount_0f7a4 35 = .ok (.iload_n 0, 1) := by decide +kernel
theorem dJ6_bitCount_0f7a4_36 : decode cJ6_bitCount_0f7a4 36 = .ok (.bipush 8, 2) := by decide +kernel
theorem dJ6_bitCount_0f7a4_38 : decode cJ6_bitCount_0f7a4 38 = .ok (.iushr, 1) := by decide +kernel
theorem dJ6_bitCount_0f7a4_39 : decode cJ6_bitCount_0f7a4 39 = .ok (.iadd, 1) := by decide +kernel
theorem dJ6_bitCount_0f7a4_40 : decode cJ6_bitCount_0f7a4 40 = .ok (.istore_n 0, 1) := by decide +kernel
theorem dJ6_bitCount_0f7a4_41 : decode cJ6_bitCount_0f7a4 41 = .ok (.iload_n 0, 1) := by decide +kernel
theorem dJ6_bitCount_0f7a4_42 : decode cJ6_bitCount_0f7a4 42 = .ok (.iload_n 0, 1) := by decide +kernel
theorem dJ6_bitCount_0f7a4_43 : decode cJ6_bitCount_0f7a4 43 = .ok (.bipush 16, 2) := by decide +kernel
theorem dJ6_bitCount_0f7a4_45 : decode cJ6_bitCount_0f7a4 45 = .ok (.iushr, 1) := by decide +kernel
theorem dJ6_bitCount_0f7a4_46 : decode cJ6_bitCount_0f7a4 46 = .ok (.iadd, 1) := by decide +kernel
theorem dJ6_bitCount_0f7a4_47 : decode cJ6_bitCount_0f7a4 47 = .ok (.istore_n 0, 1) := by decide +kernel
theorem dJ6_bitCount_0f7a4_48 : decode cJ6_bitCount_0f7a4 48 = .ok (.iload_n 0, 1) := by decide +kernel
theorem dJ6_bitCount_0f7a4_49 : decode cJ6_bitCount_0f7a4 49 = .ok (.bipush 63, 2) := by decide +kernel
theorem dJ6_bitCount_0f7a4_51 : decode cJ6_bitCount_0f7a4 51 = .ok (.iand, 1) := by decide +kernel
theorem dJ6_bitCount_0f7a4_52 : decode cJ6_bitCount_0f7a4 52 = .ok (.ireturn, 1) := by decide +kernel
theorem dJ13_bitCount_95d88_0 : decode cJ13_bitCount_95d88 0 = .ok (.lload_n 0, 1) := by decide +kernel
theorem dJ13_bitCount_95d88_1 : decode cJ13_bitCount_95d88 1 = .ok (.lload_n 0, 1) := by decide +kernel
theorem dJ13_bitCount_95d88_2 : decode cJ13_bitCount_95d88 2 = .ok (.iconst 1, 1) := by decide +kernel
theorem dJ13_bitCount_95d88_3 : decode cJ13_bitCount_95d88 3 = .ok (.lushr, 1) := by decide +kernel
theorem dJ13_bitCount_95d88_4 : decode cJ13_bitCount_95d88 4 = .ok (.ldc2_w 314, 3) := by decide +kernel
theorem dJ13_bitCount_95d88_7 : decode cJ13_bitCount_95d88 7 = .ok (.land, 1) := by decide +kernel
theorem dJ13_bitCount_95d88_8 : decode cJ13_bitCount_95d88 8 = .ok (.lsub, 1) := by decide +kernel
theorem dJ13_bitCount_95d88_9 : decode cJ13_bitCount_95d88 9 = .ok (.lstore_n 0, 1) := by decide +kernel
theorem dJ13_bitCount_95d88_10 : decode cJ13_bitCount_95d88 10 = .ok (.lload_n 0, 1) := by decide +kernel
theorem dJ13_bitCount_95d88_11 : decode cJ13_bitCount_95d88 11 = .ok (.ldc2_w 316, 3) := by decide +kernel
theorem dJ13_bitCount_95d88_14 : decode cJ13_bitCount_95d88 14 = .ok (.land, 1) := by decide +kernel
theorem dJ13_bitCount_95d88_15 : decode cJ13_bitCount_95d88 15 = .ok (.lload_n 0, 1) := by decide +kernel
theorem dJ13_bitCount_95d88_16 : decode cJ13_bitCount_95d88 16 = .ok (.iconst 2, 1) := by decide +kernel
theorem dJ13_bitCount_95d88_17 : decode cJ13_bitCount_95d88 17 = .ok (.lushr, 1) := by decide +kernel
theorem dJ13_bitCount_95d88_18 : decode cJ13_bitCount_95d88 18 = .ok (.ldc2_w 316, 3) := by decide +kernel
theorem dJ13_bitCount_95d88_21 : decode cJ13_bitCount_95d88 21 = .ok (.land, 1) := by decide +kernel
theorem dJ13_bitCount_95d88_22 : decode cJ13_bitCount_95d88 22 = .ok (.ladd, 1) := by decide +kernel
theorem dJ13_bitCount_95d88_23 : decode cJ13_bitCount_95d88 23 = .ok (.lstore_n 0, 1) := by decide +kernel
theorem dJ13_bitCount_95d88_24 : decode cJ13_bitCount_95d88 24 = .ok (.lload_n 0, 1) := by decide +kernel
theorem dJ13_bitCount_95d88_25 : decode cJ13_bitCount_95d88 25 = .ok (.lload_n 0, 1) := by decide +kernel
theorem dJ13_bitCount_95d88_26 : decode cJ13_bitCount_95d88 26 = .ok (.iconst 4, 1) := by decide +kernel
theorem dJ13_bitCount_95d88_27 : decode cJ13_bitCount_95d88 27 = .ok (.lushr, 1) := by decide +kernel
theorem dJ13_bitCount_95d88_28 : decode cJ13_bitCount_95d88 28 = .ok (.ladd, 1) := by decide +kernel
theorem dJ13_bitCount_95d88_29 : decode cJ13_bitCount_95d88 29 = .ok (.ldc2_w 318, 3) := by decide +kernel
theorem dJ13_bitCount_95d88_32 : decode cJ13_bitCount_95d88 32 = .ok (.land, 1) := by decide +kernel
theorem dJ13_bitCount_95d88_33 : decode cJ13_bitCount_95d88 33 = .ok (.lstore_n 0, 1) := by decide +kernel
theorem dJ13_bitCount_95d88_34 : decode cJ13_bitCount_95d88 34 = .ok (.lload_n 0, 1) := by decide +kernel
theorem dJ13_bitCount_95d88_35 : decode cJ13_bitCount_95d88 35 = .ok (.lload_n 0, 1) := by decide +kernel
theorem dJ13_bitCount_95d88_36 : decode cJ13_bitCount_95d88 36 = .ok (.bipush 8, 2) := by decide +kernel
theorem dJ13_bitCount_95d88_38 : decode cJ13_bitCount_95d88 38 = .ok (.lushr, 1) := by decide +kernel
theorem dJ13_bitCount_95d88_39 : decode cJ13_bitCount_95d88 39 = .ok (.ladd, 1) := by decide +kernel
theorem dJ13_bitCount_95d88_40 : decode cJ13_bitCount_95d88 40 = .ok (.lstore_n 0, 1) := by decide +kernel
theorem dJ13_bitCount_95d88_41 : decode cJ13_bitCount_95d88 41 = .ok (.lload_n 0, 1) := by decide +kernel
theorem dJ13_bitCount_95d88_42 : decode cJ13_bitCount_95d88 42 = .ok (.lload_n 0, 1) := by decide +kernel
theorem dJ13_bitCount_95d88_43 : decode cJ13_bitCount_95d88 43 = .ok (.bipush 16, 2) := by decide +kernel
theorem dJ13_bitCount_95d88_45 : decode cJ13_bitCount_95d88 45 = .ok (.lushr, 1) := by decide +kernel
theorem dJ13_bitCount_95d88_46 : decode cJ13_bitCount_95d88 46 = .ok (.ladd, 1) := by decide +kernel
theorem dJ13_bitCount_95d88_47 : decode cJ13_bitCount_95d88 47 = .ok (.lstore_n 0, 1) := by decide +kernel
theorem dJ13_bitCount_95d88_48 : decode cJ13_bitCount_95d88 48 = .ok (.lload_n 0, 1) := by decide +kernel
theorem dJ13_bitCount_95d88_49 : decode cJ13_bitCount_95d88 49 = .ok (.lload_n 0, 1) := by decide +kernel
theorem dJ13_bitCount_95d88_50 : decode cJ13_bitCount_95d88 50 = .ok (.bipush 32, 2) := by decide +kernel
theorem dJ13_bitCount_95d88_52 : decode cJ13_bitCount_95d88 52 = .ok (.lushr, 1) := by decide +kernel
theorem dJ13_bitCount_95d88_53 : decode cJ13_bitCount_95d88 53 = .ok (.ladd, 1) := by decide +kernel
theorem dJ13_bitCount_95d88_54 : decode cJ13_bitCount_95d88 54 = .ok (.lstore_n 0, 1) := by decide +kernel
theorem dJ13_bitCount_95d88_55 : decode cJ13_bitCount_95d88 55 = .ok (.lload_n 0, 1) := by decide +kernel
theorem dJ13_bitCount_95d88_56 : decode cJ13_bitCount_95d88 56 = .ok (.l2i, 1) := by decide +kernel
theorem dJ13_bitCount_95d88_57 : decode cJ13_bitCount_95d88 57 = .ok (.bipush 127, 2) := by decide +kernel
theorem dJ13_bitCount_95d88_59 : decode cJ13_bitCount_95d88 59 = .ok (.iand, 1) := by decide +kernel
theorem dJ13_bitCount_95d88_60 : decode cJ13_bitCount_95d88 60 = .ok (.ireturn, 1) := by decide +kernel
theorem dJ9_min_7cf53_0 : decode cJ9_min_7cf53 0 = .ok (.iload_n 0, 1) := by decide +kernel
theorem dJ9_min_7cf53_1 : decode cJ9_min_7cf53 1 = .ok (.iload_n 1, 1) := by decide +kernel
theorem dJ9_min_7cf53_2 : decode cJ9_min_7cf53 2 = .ok (.if_icmp .gt 7, 3) := by decide +kernel
theorem dJ9_min_7cf53_5 : decode cJ9_min_7cf53 5 = .ok (.iload_n 0, 1) := by decide +kernel
theorem dJ9_min_7cf53_6 : decode cJ9_min_7cf53 6 = .ok (.goto 4, 3) := by decide +kernel
theorem dJ9_min_7cf53_9 : decode cJ9_min_7cf53 9 = .ok (.iload_n 1, 1) := by decide +kernel
theorem dJ9_min_7cf53_10 : decode cJ9_min_7cf53 10 = .ok (.ireturn, 1) := by decide +kernel
theorem dJ9_min_f86c9_0 : decode cJ9_min_f86c9 0 = .ok (.lload_n 0, 1) := by decide +kernel
theorem dJ9_min_f86c9_1 : decode cJ9_min_f86c9 1 = .ok (.lload_n 2, 1) := by decide +kernel
theorem dJ9_min_f86c9_2 : decode cJ9_min_f86c9 2 = .ok (.lcmp, 1) := by decide +kernel
theorem dJ9_min_f86c9_3 : decode cJ9_min_f86c9 3 = .ok (.ifCond .gt 7, 3) := by decide +kernel
theorem dJ9_min_f86c9_6 : decode cJ9_min_f86c9 6 = .ok (.lload_n 0, 1) := by decide +kernel
theorem dJ9_min_f86c9_7 : decode cJ9_min_f86c9 7 = .ok (.goto 4, 3) := by decide +kernel
theorem dJ9_min_f86c9_10 : decode cJ9_min_f86c9 10 = .ok (.lload_n 2, 1) := by decide +kernel
theorem dJ9_min_f86c9_11 : decode cJ9_min_f86c9 11 = .ok (.lreturn, 1) := by decide +kernel
end
section
/-! what every contract of this claim is said in: the cells of the class (caW) and of the reference (maW), all of them, at fixed addresses;
scalars g, int rows a, long rows w -/
abbrev Gs : Type := Nat → Int32
abbrev As : Type := Nat → Nat → Int32
abbrev Ws : Type := Nat → Nat → Int64
abbrev caW (ad : Nat → Nat) (cy : Nat → ClassId) (g : Nat → Int32) (a : Nat → Nat → Int32) (w : Nat → Nat → Int64) : va_W := [(ad 0, .inr (5, [.ref (ad 1), .ref (ad 4), .ref (ad 7), .ref (ad 9), .ref (ad 11), .ref (ad 12), .ref (ad 24), .ref (ad 25), .int (g 12), .int (g 13)])),
  (ad 1, .inr (0, [.ref (ad 2), .ref (ad 3), .int (g 0)])),
  (ad 2, .inl (cy 0, 8, .inl (a 0))),
  (ad 3, .inl (cy 0, 8, .inl (a 2))),
  (ad 4, .inr (0, [.ref (ad 5), .ref (ad 6), .int (g 1)])),
  (ad 5, .inl (cy 0, 8, .inl (a 1))),
  (ad 6, .inl (cy 0, 8, .inl (a 3))),
  (ad 7, .inr (3, [.ref (ad 8), .int (g 2)])),
  (ad 8, .inl (cy 0, 50000, .inl (a 4))),
  (ad 9, .inr (4, [.ref (ad 10), .int (g 3)])),
  (ad 10, .inl (cy 0, 200, .inl (a 5))),
  (ad 11, .inr (1, [.int (g 4), .int (g 5), .int (g 6), .int (g 7), .int (g 8)])),
  (ad 12, .inr (2, [.ref (ad 13), .ref (ad 14), .ref (ad 15), .int (g 9), .int (g 10), .int (g 11)])),
  (ad 13, .inl (cy 3, 8, .inr (.inr (.inr (.inr (fun k => if k < 8 then some (ad (16 + k)) else none)))))),
  (ad 14, .inl (cy 0, 8, .inl (a 6))),
  (ad 15, .inl (cy 1, 200, .inl (a 7))),
  (ad 16, .inl (cy 2, 200, .inr (.inl (w 0)))),
  (ad 17, .inl (cy 2, 200, .inr (.inl (w 1)))),
  (ad 18, .inl (cy 2, 200, .inr (.inl (w 2)))),
  (ad 19, .inl (cy 2, 200, .inr (.inl (w 3)))),
  (ad 20, .inl (cy 2, 200, .inr (.inl (w 4)))),
  (ad 21, .inl (cy 2, 200, .inr (.inl (w 5)))),
  (ad 22, .inl (cy 2, 200, .inr (.inl (w 6)))),
  (ad 23, .inl (cy 2, 200, .inr (.inl (w 7)))),
  (ad 24, .inl (cy 0, 7, .inl (a 8))),
  (ad 25, .inl (cy 0, 16, .inl (a 9)))]
abbrev maW (ad : Nat → Nat) (cy : Nat → ClassId) (g : Nat → Int32) (a : Nat → Nat → Int32) : va_W := [(ad 0, .inr (6, [.int (g 0), .ref (ad 1), .int (g 1), .int (g 2), .int (g 3), .ref (ad 2), .ref (ad 3), .ref (ad 4), .ref (ad 5), .int (g 4), .ref (ad 6), .ref (ad 7), .ref (ad 8), .ref (ad 9), .ref (ad 10), .ref (ad 11), .ref (ad 12), .ref (ad 13)])),
  (ad 1, .inl (cy 4, 200, .inl (a 0))),
  (ad 2, .inl (cy 0, 8, .inl (a 1))),
  (ad 3, .inl (cy 0, 8, .inl (a 2))),
  (ad 4, .inl (cy 0, 8, .inl (a 3))),
  (ad 5, .inl (cy 0, 8, .inl (a 4))),
  (ad 6, .inl (cy 0, 8, .inl (a 5))),
  (ad 7, .inl (cy 0, 8, .inl (a 6))),
  (ad 8, .inl (cy 0, 8, .inl (a 7))),
  (ad 9, .inl (cy 0, 8, .inl (a 8))),
  (ad 10, .inl (cy 0, 50002, .inl (a 9))),
  (ad 11, .inl (cy 1, 50002, .inl (a 10))),
  (ad 12, .inl (cy 1, 256, .inl (a 11))),
  (ad 13, .inl (cy 0, 6, .inl (a 12)))]
abbrev cyT (cy : Nat → ClassId) : List (ClassId × FieldType) := [(cy 0, .int), (cy 1, .boolean), (cy 2, .long), (cy 3, .array .long), (cy 4, .byte)]
/-- fields of nest mates, by the entries of the constant pools -/
abbrev nestF : List (String × Nat × String × String × String) := [(RX6, 115, RX0, "kinds", "I"), (RX6, 119, RX0, "primes", "[I"), (RX6, 125, RX0, "times", "[I"), (RX6, 135, RX5, "length", "I"), (RX6, 142, RX1, "end", "I"), (RX6, 162, RX2, "leftMany", "I"), (RX6, 178, RX2, "items", "I"), (RX6, 260, RX2, "period", "I"), (RX6, 287, RX1, "by", "I"), (RX2, 34, RX1, "by", "I")]
abbrev nestW (q : String × Nat × String × String × String) : Cond := .fieldLinkNest q.1 q.2.1 q.2.2.1 q.2.2.2.1 q.2.2.2.2 "PowerRests"
def NestOk (U : State) : Prop := ∀ q ∈ nestF, va_Nw (nestW q) U
theorem NestOk.same {u U : State} (h : u.vm = U.vm) (hN : NestOk u) : NestOk U := fun q hq => va_Nw.same rfl h (hN q hq)
theorem NestOk.warm {s U : State} (hW : s.WarmedH U.vm) (hN : NestOk s) : NestOk U := fun q hq => va_Nw.warmF hW (hN q hq)
theorem NestOk.use {s : State} {args : Array Value} (hN : NestOk s) (k : Nat) {q : String × Nat × String × String × String} (h : nestF[k]? = some q) : (nestW q).before args s = true := va_Nw.use rfl (hN q (List.mem_of_getElem? h))
def ArP (D : va_G) (cy : Nat → ClassId) (sz : Nat) (ws : va_W) (U : State) : Prop := U.heap.size = sz ∧ va_P D vwCl ws U.heap ∧ va_K D vwCl (cyT cy) U ∧ va_D (fun _ => True) ws ∧ NestOk U
/-- answers of a method that leaves the heap as it was -/
def Qpi (post : Int32 → Prop) : Array Value → State → Outcome → State → Prop := fun _ st oc t => ∃ r : Int32, oc = .returned (some (.int r)) ∧ post r ∧ t.heap = st.heap
def Qpl (post : Int64 → Prop) : Array Value → State → Outcome → State → Prop := fun _ st oc t => ∃ r : Int64, oc = .returned (some (.long r)) ∧ post r ∧ t.heap = st.heap
def Qpv (post : Prop) : Array Value → State → Outcome → State → Prop := fun _ st oc t => oc = .returned none ∧ post ∧ t.heap = st.heap
def noF : Addr → Prop := fun _ => False
theorem zr_nar {v : Int32} (h : v = 0 ∨ v = 1) : narrow .boolean (.int v) = .int v := by
  rcases h with rfl | rfl <;> rfl
theorem ar_same {A : Nat → Prop} {ws ws' : va_W} (h : ws.map Prod.fst = ws'.map Prod.fst) (hD : va_D A ws) : va_D A ws' := by
  have key : ∀ (k : Nat) (q : Nat × va_E), ws'[k]? = some q → ∃ q' : Nat × va_E, ws[k]? = some q' ∧ q'.1 = q.1 := by
    intro k q hq
    have h1 : (ws'.map Prod.fst)[k]? = some q.1 := by rw [List.getElem?_map, hq]; rfl
    rw [← h, List.getElem?_map] at h1
    cases hk : ws[k]? with
    | none => rw [hk] at h1; cases h1
    | some q' => rw [hk] at h1; exact ⟨q', rfl, Option.some.inj h1⟩
  refine ⟨fun i j p q hp hq e => ?_, fun k q hq => ?_⟩
  · obtain ⟨p', hp', ep⟩ := key i p hp
    obtain ⟨q', hq', eq⟩ := key j q hq
    exact hD.1 i j p' q' hp' hq' (by rw [ep, eq]; exact e)
  · obtain ⟨q', hq', eq⟩ := key k q hq
    rw [← eq]; exact hD.2 k q' hq'
theorem caD {A : Nat → Prop} {ad : Nat → Nat} {cy : Nat → ClassId} {g g' : Gs} {a a' : As} {w w' : Ws} (h : va_D A (caW ad cy g a w)) : va_D A (caW ad cy g' a' w') := ar_same (ws := caW ad cy g a w) (ws' := caW ad cy g' a' w') rfl h
theorem maD {A : Nat → Prop} {ad : Nat → Nat} {cy : Nat → ClassId} {g g' : Gs} {a a' : As} (h : va_D A (maW ad cy g a)) : va_D A (maW ad cy g' a') := ar_same (ws := maW ad cy g a) (ws' := maW ad cy g' a') rfl h
section AR
variable {p : Program} {l : Launch} {e : Env} {R : Room} {s : State} {m : MethodId} {args : Array Value} {below : List Frame} {meth : Method} {c : Code} {H : Heap} {locs : List Loc} {cells slots : Nat} {Q : State → Prop}
variable {pc : Nat} {ls : Array Slot} {rest st0 : List Value} {a : Array Value} {A0 : Nat → Prop} {H0 : Heap} {cc : ByteArray}
variable {D : va_G} {cy : Nat → ClassId} {W0 : va_W} {A : Nat → Prop} {As' : List Value} {b : Nat}
theorem cp_L {L : List Loc} (h : ∀ q ∈ L, noF q.base) : L = [] := by
  cases L with
  | nil => rfl
  | cons q L => exact absurd (h q List.mem_cons_self) (fun h => h)
theorem cp_i {post : Int32 → Prop} (hr : va_Run p l e R s m args below meth c H locs cells slots 0 0 (F0 m pc ls st0) rest (Qpi post a) noF)
    (kk : ∀ r : Int32, post r → W p l e R s m args below meth c H locs cells slots Q (F0 m (pc + 3) ls (.int r :: rest))) : W p l e R s m args below meth c H locs cells slots Q (F0 m pc ls st0) := by
  intro T hT X
  obtain ⟨v, st₀, t, T', L, h0, X', hL, e1, e2, ⟨r, hv, hp, hh⟩, st⟩ := hr T hT X
  cases hv
  have hL0 := cp_L hL
  subst hL0
  rw [List.append_nil] at X'
  obtain ⟨t2, a1, b1⟩ := kk r hp T' (by rw [e1, hh, h0]) X'
  exact ⟨t2, st t2 a1, b1⟩
theorem cp_l {post : Int64 → Prop} (hr : va_Run p l e R s m args below meth c H locs cells slots 0 0 (F0 m pc ls st0) rest (Qpl post a) noF)
    (kk : ∀ r : Int64, post r → W p l e R s m args below meth c H locs cells slots Q (F0 m (pc + 3) ls (.long r :: rest))) : W p l e R s m args below meth c H locs cells slots Q (F0 m pc ls st0) := by
  intro T hT X
  obtain ⟨v, st₀, t, T', L, h0, X', hL, e1, e2, ⟨r, hv, hp, hh⟩, st⟩ := hr T hT X
  cases hv
  have hL0 := cp_L hL
  subst hL0
  rw [List.append_nil] at X'
  obtain ⟨t2, a1, b1⟩ := kk r hp T' (by rw [e1, hh, h0]) X'
  exact ⟨t2, st t2 a1, b1⟩
theorem cp_pre : PreS s H (va_Pc As' (fun _ => True)) As' := ⟨fun _ _ _ _ q => ⟨q.1, trivial⟩, fun _ _ _ => ⟨rfl, trivial⟩⟩
theorem ar_blind {sz : Nat} {av : List Value} : FrameBlind (va_Pc av (ArP D cy sz W0)) := fun a U g mk q => by
  obtain ⟨q0, q1, qP, qK, qD, qN⟩ := q
  exact ⟨q0, q1, qP, va_K.moved (u := U) (U := U.calling g mk a) (Vm.Alike.refl U.vm) qK, qD, NestOk.same rfl qN⟩
theorem ar_preV (hN : NestOk s) (hK : va_K D vwCl (cyT cy) s) (hP : va_P D vwCl W0 H) (hD : va_D A W0) {ci q0 : Nat} {q : vw_C} {fs : List Value} (hc : vwCl[ci]? = some q) (he : W0[q0]? = some (b, .inr (ci, fs))) : PreV s H q.1 b (va_Pc (.ref b :: As') (ArP D cy H.size W0)) As' :=
  ⟨ar_blind, va_recv hK hP hc he, fun U hU hW => ⟨rfl, by rw [hU], by rw [hU]; exact hP, va_K.moved hW.alike hK, hD.weaken (fun _ _ _ _ => trivial), NestOk.warm hW hN⟩⟩
theorem ar_free (hD : va_D A0 W0) (hS : va_S A0 H0 H locs) (hA : ∀ q, H0.size ≤ q → A0 q) : ∀ q, va_A W0 H.size q → A0 q := by
  intro q h
  rcases h with ⟨k, e, h⟩ | h
  · exact hD.2 k (q, e) h
  · exact hA q (Nat.le_trans hS.1 h)
theorem cw_i {S : Type} {post : Int32 → S → Prop} {mk : S → va_W} (hr : va_Run p l e R s m args below meth c H locs cells slots 0 0 (F0 m pc ls st0) rest (va_Qi post (fun u t => va_P D vwCl (mk u) t.heap) (va_A W0 H.size) a) (va_A W0 H.size)) (hS : va_S A0 H0 H locs) (hD : va_D A0 W0) (hA : ∀ q, H0.size ≤ q → A0 q)
    (kk : ∀ (r : Int32) (u : S) (H1 : Heap) (locs1 : List Loc), post r u → va_P D vwCl (mk u) H1 → va_S A0 H0 H1 locs1 → W p l e R s m args below meth c H1 locs1 cells slots Q (F0 m (pc + 3) ls (.int r :: rest))) : W p l e R s m args below meth c H locs cells slots Q (F0 m pc ls st0) :=
  va_calli hr hS (fun q _ h => ar_free hD hS hA q h) (ar_free hD hS hA) (fun r u t H1 locs1 ht hvm hw hB hz hk hS1 => kk r u H1 locs1 hw (by rw [← ht]; exact hB) hS1)
theorem cw_l {S : Type} {post : Int64 → S → Prop} {mk : S → va_W} (hr : va_Run p l e R s m args below meth c H locs cells slots 0 0 (F0 m pc ls st0) rest (va_Ql post (fun u t => va_P D vwCl (mk u) t.heap) (va_A W0 H.size) a) (va_A W0 H.size)) (hS : va_S A0 H0 H locs) (hD : va_D A0 W0) (hA : ∀ q, H0.size ≤ q → A0 q)
    (kk : ∀ (r : Int64) (u : S) (H1 : Heap) (locs1 : List Loc), post r u → va_P D vwCl (mk u) H1 → va_S A0 H0 H1 locs1 → W p l e R s m args below meth c H1 locs1 cells slots Q (F0 m (pc + 3) ls (.long r :: rest))) : W p l e R s m args below meth c H locs cells slots Q (F0 m pc ls st0) :=
  va_calll hr hS (fun q _ h => ar_free hD hS hA q h) (ar_free hD hS hA) (fun r u t H1 locs1 ht hvm hw hB hz hk hS1 => kk r u H1 locs1 hw (by rw [← ht]; exact hB) hS1)
theorem cw_v {S : Type} {post : S → Prop} {mk : S → va_W} (hr : va_Run p l e R s m args below meth c H locs cells slots 0 0 (F0 m pc ls st0) rest (va_Qv post (fun u t => va_P D vwCl (mk u) t.heap) (va_A W0 H.size) a) (va_A W0 H.size)) (hS : va_S A0 H0 H locs) (hD : va_D A0 W0) (hA : ∀ q, H0.size ≤ q → A0 q)
    (kk : ∀ (u : S) (H1 : Heap) (locs1 : List Loc), post u → va_P D vwCl (mk u) H1 → va_S A0 H0 H1 locs1 → W p l e R s m args below meth c H1 locs1 cells slots Q (F0 m (pc + 3) ls rest)) : W p l e R s m args below meth c H locs cells slots Q (F0 m pc ls st0) :=
  va_callv hr hS (fun q _ h => ar_free hD hS hA q h) (ar_free hD hS hA) (fun u t H1 locs1 ht hvm hw hB hz hk hS1 => kk u H1 locs1 hw (by rw [← ht]; exact hB) hS1)
-- a long compare and the branch behind it
theorem lq_gt (x y : Int64) : (0 < lg_cmp x y) ↔ y < x := by
  unfold lg_cmp
  by_cases h1 : x > y
  · simp [h1]
  · by_cases h2 : x = y
    · subst h2; simp
    · have : ¬ y < x := h1
      simp [h1, h2]
theorem lq_lt (x y : Int64) : (lg_cmp x y < 0) ↔ x < y := by
  unfold lg_cmp
  by_cases h1 : x > y
  · have h3 : ¬ x < y := fun h => by
      have := Int64.lt_iff_toInt_lt.mp h
      have := Int64.lt_iff_toInt_lt.mp h1
      omega
    simp [h1, h3]
  · by_cases h2 : x = y
    · subst h2; simp
    · have h3 : x < y := by
        have n1 : ¬ y.toInt < x.toInt := fun h => h1 (Int64.lt_iff_toInt_lt.mpr h)
        have n2 : x.toInt ≠ y.toInt := fun h => h2 (Int64.toInt_inj.mp h)
        exact Int64.lt_iff_toInt_lt.mpr (by omega)
      simp [h1, h2, h3]
theorem lq_eq (x y : Int64) : (lg_cmp x y = 0) ↔ x = y := by
  unfold lg_cmp
  by_cases h1 : x > y
  · have h3 : ¬ x = y := fun h => by
      subst h
      have := Int64.lt_iff_toInt_lt.mp h1
      omega
    simp [h1, h3]
  · by_cases h2 : x = y
    · subst h2; simp
    · simp [h1, h2]
theorem lc_gt (hexec : p.tables.exec = Jvm.exec) (hb : c.code = cc) {x y : Int64} {off : Int} {tgt : Nat} (hd1 : decode cc pc = .ok (.lcmp, 1)) (hdg : decode cc (pc + 1) = .ok (.ifCond .gt off, 3)) (ht : ((pc + 1 : Nat) : Int) + off = (tgt : Int))
    (kt : y < x → W p l e R s m args below meth c H locs cells slots Q (F0 m tgt ls rest)) (kf : ¬ y < x → W p l e R s m args below meth c H locs cells slots Q (F0 m (pc + 4) ls rest)) : W p l e R s m args below meth c H locs cells slots Q (F0 m pc ls (.long y :: .long x :: rest)) :=
  W.lcmp hexec hb hd1 (lv_if_gt hexec hb hdg ht (fun h => kt ((lq_gt x y).mp h)) (fun h => kf (fun q => h ((lq_gt x y).mpr q))))
theorem lc_lt (hexec : p.tables.exec = Jvm.exec) (hb : c.code = cc) {x y : Int64} {off : Int} {tgt : Nat} (hd1 : decode cc pc = .ok (.lcmp, 1)) (hdg : decode cc (pc + 1) = .ok (.ifCond .lt off, 3)) (ht : ((pc + 1 : Nat) : Int) + off = (tgt : Int))
    (kt : x < y → W p l e R s m args below meth c H locs cells slots Q (F0 m tgt ls rest)) (kf : ¬ x < y → W p l e R s m args below meth c H locs cells slots Q (F0 m (pc + 4) ls rest)) : W p l e R s m args below meth c H locs cells slots Q (F0 m pc ls (.long y :: .long x :: rest)) :=
  W.lcmp hexec hb hd1 (lv_if_lt hexec hb hdg ht (fun h => kt ((lq_lt x y).mp h)) (fun h => kf (fun q => h ((lq_lt x y).mpr q))))
theorem lc_ge (hexec : p.tables.exec = Jvm.exec) (hb : c.code = cc) {x y : Int64} {off : Int} {tgt : Nat} (hd1 : decode cc pc = .ok (.lcmp, 1)) (hdg : decode cc (pc + 1) = .ok (.ifCond .ge off, 3)) (ht : ((pc + 1 : Nat) : Int) + off = (tgt : Int))
    (kt : y ≤ x → W p l e R s m args below meth c H locs cells slots Q (F0 m tgt ls rest)) (kf : ¬ y ≤ x → W p l e R s m args below meth c H locs cells slots Q (F0 m (pc + 4) ls rest)) : W p l e R s m args below meth c H locs cells slots Q (F0 m pc ls (.long y :: .long x :: rest)) :=
  W.lcmp hexec hb hd1 (lv_if_ge hexec hb hdg ht (fun h => kt ((lg_cmp_ge x y).mp h)) (fun h => kf (fun q => h ((lg_cmp_ge x y).mpr q))))
theorem lc_le (hexec : p.tables.exec = Jvm.exec) (hb : c.code = cc) {x y : Int64} {off : Int} {tgt : Nat} (hd1 : decode cc pc = .ok (.lcmp, 1)) (hdg : decode cc (pc + 1) = .ok (.ifCond .le off, 3)) (ht : ((pc + 1 : Nat) : Int) + off = (tgt : Int))
    (kt : x ≤ y → W p l e R s m args below meth c H locs cells slots Q (F0 m tgt ls rest)) (kf : ¬ x ≤ y → W p l e R s m args below meth c H locs cells slots Q (F0 m (pc + 4) ls rest)) : W p l e R s m args below meth c H locs cells slots Q (F0 m pc ls (.long y :: .long x :: rest)) :=
  W.lcmp hexec hb hd1 (lv_if_le hexec hb hdg ht (fun h => kt ((lg_cmp_le x y).mp h)) (fun h => kf (fun q => h ((lg_cmp_le x y).mpr q))))
theorem lc_eq (hexec : p.tables.exec = Jvm.exec) (hb : c.code = cc) {x y : Int64} {off : Int} {tgt : Nat} (hd1 : decode cc pc = .ok (.lcmp, 1)) (hdg : decode cc (pc + 1) = .ok (.ifCond .eq off, 3)) (ht : ((pc + 1 : Nat) : Int) + off = (tgt : Int))
    (kt : x = y → W p l e R s m args below meth c H locs cells slots Q (F0 m tgt ls rest)) (kf : ¬ x = y → W p l e R s m args below meth c H locs cells slots Q (F0 m (pc + 4) ls rest)) : W p l e R s m args below meth c H locs cells slots Q (F0 m pc ls (.long y :: .long x :: rest)) :=
  W.lcmp hexec hb hd1 (lv_if_eq hexec hb hdg ht (fun h => kt ((lq_eq x y).mp h)) (fun h => kf (fun q => h ((lq_eq x y).mpr q))))
theorem lc_ne (hexec : p.tables.exec = Jvm.exec) (hb : c.code = cc) {x y : Int64} {off : Int} {tgt : Nat} (hd1 : decode cc pc = .ok (.lcmp, 1)) (hdg : decode cc (pc + 1) = .ok (.ifCond .ne off, 3)) (ht : ((pc + 1 : Nat) : Int) + off = (tgt : Int))
    (kt : ¬ x = y → W p l e R s m args below meth c H locs cells slots Q (F0 m tgt ls rest)) (kf : x = y → W p l e R s m args below meth c H locs cells slots Q (F0 m (pc + 4) ls rest)) : W p l e R s m args below meth c H locs cells slots Q (F0 m pc ls (.long y :: .long x :: rest)) :=
  W.lcmp hexec hb hd1 (lv_if_ne hexec hb hdg ht (fun h => kt (fun q => h ((lq_eq x y).mpr q))) (fun h => kf ((lq_eq x y).mp h)))
-- a switch: the default
theorem tb_default (hexec : p.tables.exec = Jvm.exec) (hb : c.code = cc) {dflt lo hi : Int} {offs : Array Int} {len : Nat} {x : Int32} {tgt : Nat} (hdg : decode cc pc = .ok (.tableswitch dflt lo hi offs, len)) (ht : (pc : Int) + dflt = (tgt : Int)) {gaps : List Int}
    (hg : ∀ v ∈ gaps, ¬ v < lo ∧ ¬ hi < v ∧ offs[(v - lo).toNat]? = some dflt) (h : x.toInt < lo ∨ hi < x.toInt ∨ x.toInt ∈ gaps)
    (k : W p l e R s m args below meth c H locs cells slots Q (F0 m tgt ls rest)) : W p l e R s m args below meth c H locs cells slots Q (F0 m pc ls (.int x :: rest)) := by
  rcases h with h | h | h
  · exact lv_tableOut hexec hb hdg (Or.inl h) ht k
  · exact lv_tableOut hexec hb hdg (Or.inr h) ht k
  · obtain ⟨h1, h2, h3⟩ := hg _ h
    exact lv_tableIn hexec hb hdg h1 h2 h3 ht k
theorem tb_mem {x : Int32} {lo hi : Int} (n : Nat) (hh : lo + n - 1 = hi) {vs gaps : List Int} (hall : ∀ k, k < n → lo + k ∈ vs ∨ lo + k ∈ gaps) (hne : ∀ v ∈ vs, ¬ x.toInt = v) : x.toInt < lo ∨ hi < x.toInt ∨ x.toInt ∈ gaps := by
  subst hh
  by_cases h1 : x.toInt < lo
  · exact Or.inl h1
  · by_cases h2 : lo + n - 1 < x.toInt
    · exact Or.inr (Or.inl h2)
    · have e : lo + ((x.toInt - lo).toNat : Int) = x.toInt := by omega
      rcases hall (x.toInt - lo).toNat (by omega) with h | h
      · rw [e] at h; exact absurd rfl (hne _ h)
      · rw [e] at h; exact Or.inr (Or.inr h)
theorem tb_ne {x : Int32} (v : Int32) {n : Int} (hv : v.toInt = n) (h : ¬ x = v) : ¬ x.toInt = n := fun q => h (Int32.toInt_inj.mp (q.trans hv.symm))
theorem tb_nil {P : Int → Prop} : ∀ v ∈ ([] : List Int), P v := fun _ h => absurd h List.not_mem_nil
-- rows of longs
theorem ar_words {ad : Nat → Nat} {g : Gs} {a : As} {w : Ws} (hexec : p.tables.exec = Jvm.exec) (hb : c.code = cc) (hK : va_K D vwCl (cyT cy) s) (hP : va_P D vwCl (caW ad cy g a w) H) {i : Int32} (hin : vp_in i 8) (hdg : decode cc pc = .ok (.aaload, 1))
    (kk : W p l e R s m args below meth c H locs cells slots Q (F0 m (pc + 1) ls (.ref (ad (16 + i.toNatClampNeg)) :: rest))) : W p l e R s m args below meth c H locs cells slots Q (F0 m pc ls (.int i :: .ref (ad 13) :: rest)) := by
  have hlt : i.toNatClampNeg < 8 := Nat.not_le.mp fun q => hin (Or.inr q)
  refine W.aald (v := .ref (ad (16 + i.toNatClampNeg))) (ty := .array .long) hexec hb (hP 13 _ rfl) ((hK.2 3 _ rfl).1 8 (fun j => va_rf (if j < 8 then some (ad (16 + j)) else none))) rfl (fun q => by cases q) (by show ¬ (i < 0 ∨ (arrV _ _ _).slots.size ≤ _); rw [arrV_size]; exact hin) (by show (arrV _ _ _).slots[_]? = _; rw [arrV_read _ _ hlt]; show some (va_rf (if i.toNatClampNeg < 8 then some (ad (16 + i.toNatClampNeg)) else none)) = _; rw [if_pos hlt]; rfl) rfl rfl hdg kk
theorem ar_row {ad : Nat → Nat} {g : Gs} {a : As} {w : Ws} {k : Nat} (hk : k < 8) : (caW ad cy g a w)[16 + k]? = some (ad (16 + k), .inl (cy 2, 200, .inr (.inl (w k)))) := by
  match k, hk with
  | 0, _ => rfl
  | 1, _ => rfl
  | 2, _ => rfl
  | 3, _ => rfl
  | 4, _ => rfl
  | 5, _ => rfl
  | 6, _ => rfl
  | 7, _ => rfl
theorem ar_rowset {ad : Nat → Nat} {g : Gs} {a : As} {w : Ws} {k : Nat} (hk : k < 8) (f : Nat → Int64) : (caW ad cy g a w).set (16 + k) (ad (16 + k), .inl (cy 2, 200, .inr (.inl f))) = caW ad cy g a (va_up w k f) := by
  match k, hk with
  | 0, _ => rfl
  | 1, _ => rfl
  | 2, _ => rfl
  | 3, _ => rfl
  | 4, _ => rfl
  | 5, _ => rfl
  | 6, _ => rfl
  | 7, _ => rfl
theorem ar_rowld {ad : Nat → Nat} {g : Gs} {a : As} {w : Ws} (hexec : p.tables.exec = Jvm.exec) (hb : c.code = cc) (hK : va_K D vwCl (cyT cy) s) (hP : va_P D vwCl (caW ad cy g a w) H) {i j : Int32} (hj : vp_in j 8) (hin : vp_in i 200) (hdg : decode cc pc = .ok (.laload, 1))
    (kk : W p l e R s m args below meth c H locs cells slots Q (F0 m (pc + 1) ls (.long (w j.toNatClampNeg i.toNatClampNeg) :: rest))) : W p l e R s m args below meth c H locs cells slots Q (F0 m pc ls (.int i :: .ref (ad (16 + j.toNatClampNeg)) :: rest)) := by
  have hlt : j.toNatClampNeg < 8 := Nat.not_le.mp fun q => hj (Or.inr q)
  exact va_lald (f := w j.toNatClampNeg) hexec hb hK hP (16 + j.toNatClampNeg) 2 (ar_row hlt) rfl hin hdg kk
theorem ar_rowst {ad : Nat → Nat} {g : Gs} {a : As} {w : Ws} (hexec : p.tables.exec = Jvm.exec) (hb : c.code = cc) (hK : va_K D vwCl (cyT cy) s) (hP : va_P D vwCl (caW ad cy g a w) H) (hD : va_D A (caW ad cy g a w)) (hS : va_S A H0 H locs) {i j : Int32} {x : Int64} (hj : vp_in j 8) (hin : vp_in i 200) (hdg : decode cc pc = .ok (.lastore, 1))
    (kk : ∀ (H1 : Heap) (locs1 : List Loc), va_P D vwCl (caW ad cy g a (va_up w j.toNatClampNeg (vp_updL (w j.toNatClampNeg) i.toNatClampNeg x))) H1 → va_S A H0 H1 locs1 → W p l e R s m args below meth c H1 locs1 cells slots Q (F0 m (pc + 1) ls rest)) : W p l e R s m args below meth c H locs cells slots Q (F0 m pc ls (.long x :: .int i :: .ref (ad (16 + j.toNatClampNeg)) :: rest)) := by
  have hlt : j.toNatClampNeg < 8 := Nat.not_le.mp fun q => hj (Or.inr q)
  refine va_last (f := w j.toNatClampNeg) hexec hb hK hP hD hS (16 + j.toNatClampNeg) 2 (ar_row hlt) rfl hin hdg (fun H1 locs1 hP1 _ hS1 => kk H1 locs1 ?_ hS1)
  rw [ar_rowset hlt] at hP1
  exact hP1
end AR
end
section
/-! plain facts to paste, each family by itself; over the kit's nI, lN and upd -/
/-! ===== drawers: more things than places ===== -/
theorem fb_holes : ∀ (m n : Nat) (f : Nat → Nat), (∀ i, i < n → f i < m) → (∀ i j, i < j → j < n → f i ≠ f j) → n ≤ m := by
  intro m
  induction m with
  | zero =>
    intro n f h1 _
    rcases Nat.eq_zero_or_pos n with h | h
    · omega
    · exact absurd (h1 0 h) (Nat.not_lt_zero _)
  | succ m ih =>
    intro n f h1 h2
    by_cases hx : ∃ i, i < n ∧ f i = m
    · obtain ⟨a, ha, hfa⟩ := hx
      have hg := ih (n - 1) (fun i => if i < a then f i else f (i + 1)) (by
        intro i hi
        by_cases q : i < a
        · simp only [if_pos q]
          have b1 := h1 i (by omega)
          have b2 := h2 i a q ha
          omega
        · simp only [if_neg q]
          have b1 := h1 (i + 1) (by omega)
          have b2 := h2 a (i + 1) (by omega) (by omega)
          omega) (by
        intro i j hij hj
        by_cases q : i < a
        · by_cases r : j < a
          · simp only [if_pos q, if_pos r]
            exact h2 i j hij (by omega)
          · simp only [if_pos q, if_neg r]
            exact h2 i (j + 1) (by omega) (by omega)
        · have r : ¬ j < a := by omega
          simp only [if_neg q, if_neg r]
          exact h2 (i + 1) (j + 1) (by omega) (by omega))
      omega
    · have hg := ih n f (fun i hi => by
        have b1 := h1 i hi
        have b2 : f i ≠ m := fun e => hx ⟨i, hi, e⟩
        omega) h2
      omega
/-- two of them in one place -/
theorem fb_twice {m n : Nat} {f : Nat → Nat} (h : ∀ i, i < n → f i < m) (hm : m < n) : ∃ i j, i < j ∧ j < n ∧ f i = f j := by
  refine Classical.byContradiction fun hx => ?_
  have := fb_holes m n f h (fun i j hij hj e => hx ⟨i, j, hij, hj, e⟩)
  omega
/-- as many as places, none twice: each place is taken -/
theorem fb_onto {n : Nat} {f : Nat → Nat} (h : ∀ i, i < n → f i < n) (h2 : ∀ i j, i < j → j < n → f i ≠ f j) {y : Nat} (hy : y < n) : ∃ i, i < n ∧ f i = y := by
  refine Classical.byContradiction fun hx => ?_
  have hne : ∀ i, i < n → f i ≠ y := fun i hi e => hx ⟨i, hi, e⟩
  have := fb_holes (n - 1) n (fun i => if f i < y then f i else f i - 1) (by
    intro i hi
    have b1 := h i hi
    have b2 := hne i hi
    by_cases q : f i < y
    · simp only [if_pos q]; omega
    · simp only [if_neg q]; omega) (by
    intro i j hij hj
    have b1 := hne i (by omega)
    have b2 := hne j hj
    have b3 := h2 i j hij hj
    by_cases q : f i < y
    · by_cases r : f j < y
      · simp only [if_pos q, if_pos r]; exact b3
      · simp only [if_pos q, if_neg r]; omega
    · by_cases r : f j < y
      · simp only [if_neg q, if_pos r]; omega
      · simp only [if_neg q, if_neg r]; omega)
  omega
/-! ===== how many places have a property ===== -/
def fb_ct (p : Nat → Bool) : Nat → Nat
  | 0 => 0
  | n + 1 => fb_ct p n + (if p n then 1 else 0)
theorem fb_ct_succ (p : Nat → Bool) (n : Nat) : fb_ct p (n + 1) = fb_ct p n + (if p n then 1 else 0) := rfl
theorem fb_ct_le (p : Nat → Bool) : ∀ n, fb_ct p n ≤ n
  | 0 => Nat.le_refl _
  | n + 1 => by
    have h := fb_ct_le p n
    rw [fb_ct_succ]
    split <;> omega
theorem fb_ct_step (p : Nat → Bool) (m : Nat) : ∀ n, fb_ct p m ≤ fb_ct p (m + n)
  | 0 => Nat.le_refl _
  | n + 1 => by
    have h := fb_ct_step p m n
    show fb_ct p m ≤ fb_ct p (m + n + 1)
    rw [fb_ct_succ]
    omega
theorem fb_ct_mono (p : Nat → Bool) {m n : Nat} (h : m ≤ n) : fb_ct p m ≤ fb_ct p n := by
  have := fb_ct_step p m (n - m)
  rwa [Nat.add_sub_cancel' h] at this
theorem fb_ct_cong {p q : Nat → Bool} : ∀ {n : Nat}, (∀ k, k < n → p k = q k) → fb_ct p n = fb_ct q n
  | 0, _ => rfl
  | n + 1, h => by
    rw [fb_ct_succ, fb_ct_succ, fb_ct_cong (fun k hk => h k (by omega)), h n (by omega)]
/-- one place changed -/
theorem fb_ct_out (p : Nat → Bool) (b : Bool) {i n : Nat} (h : n ≤ i) : fb_ct (fun k => if k = i then b else p k) n = fb_ct p n :=
  fb_ct_cong fun k hk => if_neg (by omega)
theorem fb_ct_upd (p : Nat → Bool) (b : Bool) {i : Nat} : ∀ {n : Nat}, i < n → fb_ct (fun k => if k = i then b else p k) n + (if p i then 1 else 0) = fb_ct p n + (if b then 1 else 0)
  | 0, h => absurd h (Nat.not_lt_zero i)
  | n + 1, h => by
    rw [fb_ct_succ, fb_ct_succ]
    rcases Nat.lt_or_ge i n with q | q
    · have := fb_ct_upd p b q
      have e : (if n = i then b else p n) = p n := if_neg (by omega)
      rw [e]
      omega
    · have e : i = n := by omega
      subst e
      rw [fb_ct_out p b (Nat.le_refl _)]
      simp only [if_true]
      omega
theorem fb_ct_sub {p q : Nat → Bool} : ∀ {n : Nat}, (∀ k, k < n → p k = true → q k = true) → fb_ct p n ≤ fb_ct q n
  | 0, _ => Nat.le_refl _
  | n + 1, h => by
    have h1 := fb_ct_sub (n := n) (p := p) (q := q) (fun k hk => h k (by omega))
    have h2 := h n (by omega)
    rw [fb_ct_succ, fb_ct_succ]
    cases hp : p n <;> cases hq : q n <;> simp_all <;> omega
theorem fb_ct_or {p q : Nat → Bool} : ∀ {n : Nat}, (∀ k, k < n → ¬ (p k = true ∧ q k = true)) → fb_ct (fun k => p k || q k) n = fb_ct p n + fb_ct q n
  | 0, _ => rfl
  | n + 1, h => by
    have h1 := fb_ct_or (n := n) (p := p) (q := q) (fun k hk => h k (by omega))
    have h2 := h n (by omega)
    rw [fb_ct_succ, fb_ct_succ, fb_ct_succ, h1]
    cases hp : p n <;> cases hq : q n <;> simp_all <;> omega
theorem fb_ct_not (p : Nat → Bool) : ∀ n, fb_ct p n + fb_ct (fun k => !p k) n = n
  | 0 => rfl
  | n + 1 => by
    have h := fb_ct_not p n
    rw [fb_ct_succ, fb_ct_succ]
    cases p n <;> simp <;> omega
theorem fb_ct_split (p : Nat → Bool) (m : Nat) : ∀ n, fb_ct p (m + n) = fb_ct p m + fb_ct (fun k => p (m + k)) n
  | 0 => rfl
  | n + 1 => by
    have h := fb_ct_split p m n
    show fb_ct p (m + n + 1) = _
    rw [fb_ct_succ, fb_ct_succ, h, Nat.add_assoc]
theorem fb_ct_zero {p : Nat → Bool} : ∀ {n : Nat}, fb_ct p n = 0 ↔ ∀ k, k < n → p k = false
  | 0 => ⟨fun _ k hk => absurd hk (Nat.not_lt_zero k), fun _ => rfl⟩
  | n + 1 => by
    have h := fb_ct_zero (p := p) (n := n)
    rw [fb_ct_succ]
    constructor
    · intro e k hk
      have e1 : fb_ct p n = 0 := by omega
      rcases Nat.lt_or_ge k n with q | q
      · exact h.mp e1 k q
      · have ek : k = n := by omega
        subst ek
        cases hp : p k
        · rfl
        · simp [hp] at e
    · intro a
      rw [h.mpr (fun k hk => a k (by omega)), a n (by omega)]
      rfl
theorem fb_ct_pos {p : Nat → Bool} {n : Nat} : 0 < fb_ct p n ↔ ∃ k, k < n ∧ p k = true := by
  constructor
  · intro h
    refine Classical.byContradiction fun hx => ?_
    have := fb_ct_zero.mpr (fun k hk => by
      cases hp : p k
      · rfl
      · exact absurd ⟨k, hk, hp⟩ hx : ∀ k, k < n → p k = false)
    omega
  · rintro ⟨k, hk, hp⟩
    rcases Nat.eq_zero_or_pos (fb_ct p n) with e | e
    · have := fb_ct_zero.mp e k hk
      rw [this] at hp
      cases hp
    · exact e
theorem fb_ct_all {p : Nat → Bool} {n : Nat} : fb_ct p n = n ↔ ∀ k, k < n → p k = true := by
  have h := fb_ct_not p n
  constructor
  · intro e k hk
    have z : fb_ct (fun k => !p k) n = 0 := by omega
    have := fb_ct_zero.mp z k hk
    cases hp : p k
    · simp [hp] at this
    · rfl
  · intro a
    have z : fb_ct (fun k => !p k) n = 0 := fb_ct_zero.mpr (fun k hk => by simp [a k hk])
    omega
/-- the k-th place with the property -/
theorem fb_ct_kth {p : Nat → Bool} {k : Nat} : ∀ {n : Nat}, k < fb_ct p n → ∃ i, i < n ∧ p i = true ∧ fb_ct p i = k
  | 0, h => absurd h (Nat.not_lt_zero k)
  | n + 1, h => by
    rcases Nat.lt_or_ge k (fb_ct p n) with q | q
    · obtain ⟨i, h1, h2⟩ := fb_ct_kth q
      exact ⟨i, by omega, h2⟩
    · rw [fb_ct_succ] at h
      cases hp : p n
      · simp [hp] at h; omega
      · simp [hp] at h
        exact ⟨n, by omega, hp, by omega⟩
theorem fb_ct_kth_one {p : Nat → Bool} {i j : Nat} (hi : p i = true) (hj : p j = true) (e : fb_ct p i = fb_ct p j) : i = j := by
  have key : ∀ a b : Nat, a < b → p a = true → fb_ct p a < fb_ct p b := by
    intro a b hab ha
    have h := fb_ct_mono p (show a + 1 ≤ b from hab)
    rw [fb_ct_succ, ha] at h
    simp at h
    omega
  rcases Nat.lt_trichotomy i j with q | q | q
  · have := key i j q hi; omega
  · exact q
  · have := key j i q hj; omega
/-! ===== sums over a range: one place changed, parts, bounds ===== -/
def fb_sm (f : Nat → Nat) : Nat → Nat
  | 0 => 0
  | n + 1 => fb_sm f n + f n
theorem fb_sm_succ (f : Nat → Nat) (n : Nat) : fb_sm f (n + 1) = fb_sm f n + f n := rfl
theorem fb_sm_cong {f g : Nat → Nat} : ∀ {n : Nat}, (∀ k, k < n → f k = g k) → fb_sm f n = fb_sm g n
  | 0, _ => rfl
  | n + 1, h => by rw [fb_sm_succ, fb_sm_succ, fb_sm_cong (fun k hk => h k (by omega)), h n (by omega)]
theorem fb_sm_out (f : Nat → Nat) (v : Nat) {i n : Nat} (h : n ≤ i) : fb_sm (fun k => if k = i then v else f k) n = fb_sm f n :=
  fb_sm_cong fun k hk => if_neg (by omega)
theorem fb_sm_upd (f : Nat → Nat) (v : Nat) {i : Nat} : ∀ {n : Nat}, i < n → fb_sm (fun k => if k = i then v else f k) n + f i = fb_sm f n + v
  | 0, h => absurd h (Nat.not_lt_zero i)
  | n + 1, h => by
    rw [fb_sm_succ, fb_sm_succ]
    rcases Nat.lt_or_ge i n with q | q
    · have := fb_sm_upd f v q
      have e : (if n = i then v else f n) = f n := if_neg (by omega)
      rw [e]
      omega
    · have e : i = n := by omega
      subst e
      rw [fb_sm_out f v (Nat.le_refl _)]
      simp only [if_true]
      omega
theorem fb_sm_add (f g : Nat → Nat) : ∀ n, fb_sm (fun k => f k + g k) n = fb_sm f n + fb_sm g n
  | 0 => rfl
  | n + 1 => by
    have h := fb_sm_add f g n
    rw [fb_sm_succ, fb_sm_succ, fb_sm_succ, h]
    omega
theorem fb_sm_le {f g : Nat → Nat} : ∀ {n : Nat}, (∀ k, k < n → f k ≤ g k) → fb_sm f n ≤ fb_sm g n
  | 0, _ => Nat.le_refl _
  | n + 1, h => by
    have h1 := fb_sm_le (n := n) (f := f) (g := g) (fun k hk => h k (by omega))
    have h2 := h n (by omega)
    rw [fb_sm_succ, fb_sm_succ]
    omega
theorem fb_sm_const (c : Nat) : ∀ n, fb_sm (fun _ => c) n = n * c
  | 0 => by rw [Nat.zero_mul]; rfl
  | n + 1 => by rw [fb_sm_succ, fb_sm_const c n, Nat.succ_mul]
theorem fb_sm_bound {f : Nat → Nat} {c n : Nat} (h : ∀ k, k < n → f k ≤ c) : fb_sm f n ≤ n * c := by
  rw [← fb_sm_const c n]
  exact fb_sm_le h
theorem fb_sm_mono (f : Nat → Nat) (m : Nat) : ∀ n, fb_sm f m ≤ fb_sm f (m + n)
  | 0 => Nat.le_refl _
  | n + 1 => by
    have h := fb_sm_mono f m n
    show fb_sm f m ≤ fb_sm f (m + n + 1)
    rw [fb_sm_succ]
    omega
theorem fb_sm_part (f : Nat → Nat) {i n : Nat} (h : i < n) : fb_sm f i + f i ≤ fb_sm f n := by
  have := fb_sm_mono f (i + 1) (n - (i + 1))
  rw [fb_sm_succ, show i + 1 + (n - (i + 1)) = n by omega] at this
  exact this
theorem fb_sm_split (f : Nat → Nat) (m : Nat) : ∀ n, fb_sm f (m + n) = fb_sm f m + fb_sm (fun k => f (m + k)) n
  | 0 => rfl
  | n + 1 => by
    have h := fb_sm_split f m n
    show fb_sm f (m + n + 1) = _
    rw [fb_sm_succ, fb_sm_succ, h, Nat.add_assoc]
theorem fb_sm_zero {f : Nat → Nat} {n : Nat} (h : fb_sm f n = 0) : ∀ k, k < n → f k = 0 := fun k hk => by
  have := fb_sm_part f hk
  omega
/-- the same over whole numbers -/
def fb_si (f : Nat → Int) : Nat → Int
  | 0 => 0
  | n + 1 => fb_si f n + f n
theorem fb_si_succ (f : Nat → Int) (n : Nat) : fb_si f (n + 1) = fb_si f n + f n := rfl
theorem fb_si_cong {f g : Nat → Int} : ∀ {n : Nat}, (∀ k, k < n → f k = g k) → fb_si f n = fb_si g n
  | 0, _ => rfl
  | n + 1, h => by rw [fb_si_succ, fb_si_succ, fb_si_cong (fun k hk => h k (by omega)), h n (by omega)]
theorem fb_si_out (f : Nat → Int) (v : Int) {i n : Nat} (h : n ≤ i) : fb_si (fun k => if k = i then v else f k) n = fb_si f n :=
  fb_si_cong fun k hk => if_neg (by omega)
theorem fb_si_upd (f : Nat → Int) (v : Int) {i : Nat} : ∀ {n : Nat}, i < n → fb_si (fun k => if k = i then v else f k) n = fb_si f n - f i + v
  | 0, h => absurd h (Nat.not_lt_zero i)
  | n + 1, h => by
    rw [fb_si_succ, fb_si_succ]
    rcases Nat.lt_or_ge i n with q | q
    · have := fb_si_upd f v q
      have e : (if n = i then v else f n) = f n := if_neg (by omega)
      rw [e]
      omega
    · have e : i = n := by omega
      subst e
      rw [fb_si_out f v (Nat.le_refl _)]
      simp only [if_true]
      omega
theorem fb_si_add (f g : Nat → Int) : ∀ n, fb_si (fun k => f k + g k) n = fb_si f n + fb_si g n
  | 0 => rfl
  | n + 1 => by
    have h := fb_si_add f g n
    rw [fb_si_succ, fb_si_succ, fb_si_succ, h]
    omega
theorem fb_si_sub (f g : Nat → Int) : ∀ n, fb_si (fun k => f k - g k) n = fb_si f n - fb_si g n
  | 0 => rfl
  | n + 1 => by
    have h := fb_si_sub f g n
    rw [fb_si_succ, fb_si_succ, fb_si_succ, h]
    omega
theorem fb_si_mul (c : Int) (f : Nat → Int) : ∀ n, fb_si (fun k => c * f k) n = c * fb_si f n
  | 0 => (Int.mul_zero c).symm
  | n + 1 => by
    have h := fb_si_mul c f n
    rw [fb_si_succ, fb_si_succ, h, Int.mul_add]
theorem fb_si_split (f : Nat → Int) (m : Nat) : ∀ n, fb_si f (m + n) = fb_si f m + fb_si (fun k => f (m + k)) n
  | 0 => (Int.add_zero _).symm
  | n + 1 => by
    have h := fb_si_split f m n
    show fb_si f (m + n + 1) = _
    rw [fb_si_succ, fb_si_succ, h, Int.add_assoc]
theorem fb_si_nat (f : Nat → Nat) : ∀ n, fb_si (fun k => (f k : Int)) n = (fb_sm f n : Int)
  | 0 => rfl
  | n + 1 => by
    have h := fb_si_nat f n
    rw [fb_si_succ, fb_sm_succ, h]
    omega
theorem fb_si_bound {f : Nat → Int} {c : Int} (hc : 0 ≤ c) : ∀ {n : Nat}, (∀ k, k < n → -c ≤ f k ∧ f k ≤ c) → -(n * c) ≤ fb_si f n ∧ fb_si f n ≤ n * c
  | 0, _ => by simp [fb_si]
  | n + 1, h => by
    have h1 := fb_si_bound (n := n) (f := f) hc (fun k hk => h k (by omega))
    have h2 := h n (by omega)
    have e : ((n + 1 : Nat) : Int) * c = n * c + c := by rw [Int.natCast_add, Int.add_mul]; simp
    rw [fb_si_succ, e]
    omega
/-! ===== bits of a long that isn't negative ===== -/
theorem fb_andL (a b : Nat) : lN a &&& lN b = lN (a &&& b) := by
  apply Int64.toBitVec_inj.1
  show BitVec.ofNat 64 a &&& BitVec.ofNat 64 b = BitVec.ofNat 64 (a &&& b)
  apply BitVec.eq_of_getLsbD_eq
  intro i hi
  simp [hi]
theorem fb_orL (a b : Nat) : lN a ||| lN b = lN (a ||| b) := by
  apply Int64.toBitVec_inj.1
  show BitVec.ofNat 64 a ||| BitVec.ofNat 64 b = BitVec.ofNat 64 (a ||| b)
  apply BitVec.eq_of_getLsbD_eq
  intro i hi
  simp [hi]
theorem fb_xorL (a b : Nat) : lN a ^^^ lN b = lN (a ^^^ b) := by
  apply Int64.toBitVec_inj.1
  show BitVec.ofNat 64 a ^^^ BitVec.ofNat 64 b = BitVec.ofNat 64 (a ^^^ b)
  apply BitVec.eq_of_getLsbD_eq
  intro i hi
  simp [hi]
theorem fb_xorI (a b : Nat) : nI a ^^^ nI b = nI (a ^^^ b) := by
  apply Int32.toBitVec_inj.1
  show BitVec.ofNat 32 a ^^^ BitVec.ofNat 32 b = BitVec.ofNat 32 (a ^^^ b)
  apply BitVec.eq_of_getLsbD_eq
  intro i hi
  simp [hi]
theorem fb_maskL (n k : Nat) : lN n &&& lN (2 ^ k - 1) = lN (n % 2 ^ k) := by rw [fb_andL, Nat.and_two_pow_sub_one_eq_mod]
theorem fb_or_sumL {a k : Nat} (b : Nat) (h : a < 2 ^ k) : lN (2 ^ k * b) ||| lN a = lN (2 ^ k * b + a) := by rw [fb_orL, Nat.two_pow_add_eq_or_of_lt h]
theorem fb_lN_inj {a b : Nat} (ha : a < 2 ^ 63) (hb : b < 2 ^ 63) : lN a = lN b ↔ a = b := by
  constructor
  · intro h
    have h1 : (BitVec.ofNat 64 a).toNat = (BitVec.ofNat 64 b).toNat := congrArg (fun x : Int64 => x.toBitVec.toNat) h
    rw [BitVec.toNat_ofNat, BitVec.toNat_ofNat, Nat.mod_eq_of_lt (by omega), Nat.mod_eq_of_lt (by omega)] at h1
    exact h1
  · rintro rfl; rfl
theorem fb_bit_nat (n j : Nat) : n &&& 2 ^ j = 0 ↔ n.testBit j = false := by
  constructor
  · intro h
    have h1 : (n &&& 2 ^ j).testBit j = false := by rw [h]; simp
    rw [Nat.testBit_and] at h1
    simpa using h1
  · intro h
    apply Nat.eq_of_testBit_eq
    intro i
    rw [Nat.testBit_and]
    by_cases hi : j = i
    · subst hi; simp [h]
    · first | (simp [Nat.testBit_two_pow, hi]; done) | (simp [Nat.testBit_two_pow_of_ne hi]; done)
/-- one bit of a long -/
theorem fb_bitL {n j : Nat} (hj : j < 63) : lN n &&& lN (2 ^ j) = 0 ↔ n.testBit j = false := by
  have h2 : (2 : Nat) ^ j < 2 ^ 63 := Nat.pow_lt_pow_right (by decide) hj
  have hle : n &&& 2 ^ j ≤ 2 ^ j := Nat.and_le_right
  rw [fb_andL, ← fb_bit_nat, show (0 : Int64) = lN 0 from rfl]
  exact fb_lN_inj (by omega) (by decide)
/-- a bit set, a bit taken off -/
theorem fb_bit_set (n j i : Nat) : (n ||| 2 ^ j).testBit i = (n.testBit i || decide (i = j)) := by
  rw [Nat.testBit_or]
  by_cases h : j = i
  · subst h; simp
  · have h2 : ¬ i = j := fun e => h e.symm
    first | (simp [Nat.testBit_two_pow, h, h2]; done) | (simp [Nat.testBit_two_pow_of_ne h, h2]; done)
theorem fb_bit_flip (n j i : Nat) : (n ^^^ 2 ^ j).testBit i = (n.testBit i ^^ decide (i = j)) := by
  rw [Nat.testBit_xor]
  by_cases h : j = i
  · subst h; simp
  · have h2 : ¬ i = j := fun e => h e.symm
    first | (simp [Nat.testBit_two_pow, h, h2]; done) | (simp [Nat.testBit_two_pow_of_ne h, h2]; done)
/-! ===== a stretch of an array written over by a function ===== -/
def fb_put {α : Type} (f g : Nat → α) (a n : Nat) : Nat → α := fun k => if a ≤ k ∧ k < a + n then g (k - a) else f k
theorem fb_put_0 {α : Type} (f g : Nat → α) (a : Nat) : fb_put f g a 0 = f := funext fun k => if_neg (by omega)
theorem fb_put_in {α : Type} {f g : Nat → α} {a n k : Nat} (h1 : a ≤ k) (h2 : k < a + n) : fb_put f g a n k = g (k - a) := if_pos ⟨h1, h2⟩
theorem fb_put_out {α : Type} {f g : Nat → α} {a n k : Nat} (h : k < a ∨ a + n ≤ k) : fb_put f g a n k = f k := if_neg (by omega)
theorem fb_put_succ (f g : Nat → Int32) (a n : Nat) : upd (fb_put f g a n) (a + n) (g n) = fb_put f g a (n + 1) := by
  funext k
  by_cases h : k = a + n
  · subst h
    simp [upd, fb_put]
  · by_cases h1 : a ≤ k ∧ k < a + n
    · have h2 : a ≤ k ∧ k < a + (n + 1) := by omega
      simp only [upd, fb_put, if_neg h, if_pos h1, if_pos h2]
    · have h2 : ¬ (a ≤ k ∧ k < a + (n + 1)) := by omega
      simp only [upd, fb_put, if_neg h, if_neg h1, if_neg h2]
/-- .. from the far end down -/
theorem fb_put_down (f g : Nat → Int32) {a n m : Nat} (h : m < n) : upd (fb_put f (fun k => g (k + (m + 1))) (a + (m + 1)) (n - (m + 1))) (a + m) (g m) = fb_put f (fun k => g (k + m)) (a + m) (n - m) := by
  funext k
  by_cases h0 : k = a + m
  · subst h0
    simp only [upd, if_true]
    rw [fb_put_in (by omega) (by omega)]
    exact congrArg g (by omega)
  · simp only [upd, if_neg h0]
    by_cases h1 : a + (m + 1) ≤ k ∧ k < a + (m + 1) + (n - (m + 1))
    · rw [fb_put_in h1.1 h1.2, fb_put_in (by omega) (by omega)]
      exact congrArg g (by omega)
    · rw [fb_put_out (by omega), fb_put_out (by omega)]
theorem fb_put_cong {α : Type} {f f2 g g2 : Nat → α} {a n : Nat} (hf : ∀ k, (k < a ∨ a + n ≤ k) → f k = f2 k) (hg : ∀ k, k < n → g k = g2 k) : fb_put f g a n = fb_put f2 g2 a n := by
  funext k
  by_cases h : a ≤ k ∧ k < a + n
  · rw [fb_put_in h.1 h.2, fb_put_in h.1 h.2, hg _ (by omega)]
  · rw [fb_put_out (by omega), fb_put_out (by omega), hf _ (by omega)]
/-! ===== the least, the first, the best so far; that there is one alone ===== -/
theorem fb_first {p : Nat → Prop} [DecidablePred p] : ∀ {n : Nat}, (∃ i, i < n ∧ p i) → ∃ i, i < n ∧ p i ∧ ∀ j, j < i → ¬ p j
  | 0, h => by obtain ⟨i, hi, -⟩ := h; exact absurd hi (Nat.not_lt_zero i)
  | n + 1, h => by
    by_cases q : ∃ i, i < n ∧ p i
    · obtain ⟨i, h1, h2⟩ := fb_first q
      exact ⟨i, by omega, h2⟩
    · obtain ⟨i, h1, h2⟩ := h
      have e : i = n := by
        rcases Nat.lt_or_ge i n with r | r
        · exact absurd ⟨i, r, h2⟩ q
        · omega
      subst e
      exact ⟨i, by omega, h2, fun j hj hp => q ⟨j, hj, hp⟩⟩
theorem fb_first_one {p : Nat → Prop} {i j : Nat} (hi : p i) (hi2 : ∀ k, k < i → ¬ p k) (hj : p j) (hj2 : ∀ k, k < j → ¬ p k) : i = j := by
  rcases Nat.lt_trichotomy i j with q | q | q
  · exact absurd hi (hj2 i q)
  · exact q
  · exact absurd hj (hi2 j q)
theorem fb_last {p : Nat → Prop} [DecidablePred p] : ∀ {n : Nat}, (∃ i, i < n ∧ p i) → ∃ i, i < n ∧ p i ∧ ∀ j, i < j → j < n → ¬ p j
  | 0, h => by obtain ⟨i, hi, -⟩ := h; exact absurd hi (Nat.not_lt_zero i)
  | n + 1, h => by
    by_cases q : p n
    · exact ⟨n, by omega, q, fun j h1 h2 => by omega⟩
    · obtain ⟨i, h1, h2⟩ := h
      have hi : i < n := by
        rcases Nat.lt_or_ge i n with r | r
        · exact r
        · have e : i = n := by omega
          subst e
          exact absurd h2 q
      obtain ⟨i2, a1, a2, a3⟩ := fb_last (n := n) ⟨i, hi, h2⟩
      refine ⟨i2, by omega, a2, fun j b1 b2 => ?_⟩
      rcases Nat.lt_or_ge j n with r | r
      · exact a3 j b1 r
      · have e : j = n := by omega
        subst e
        exact q
/-- the first greatest -/
theorem fb_best (f : Nat → Int) : ∀ {n : Nat}, 0 < n → ∃ i, i < n ∧ (∀ j, j < n → f j ≤ f i) ∧ ∀ j, j < i → f j < f i
  | 0, h => absurd h (Nat.lt_irrefl 0)
  | 1, _ => ⟨0, by omega, fun j hj => by have e : j = 0 := by omega
                                         subst e; exact Int.le_refl _, fun j hj => absurd hj (Nat.not_lt_zero j)⟩
  | n + 2, _ => by
    obtain ⟨i, h1, h2, h3⟩ := fb_best f (n := n + 1) (by omega)
    by_cases q : f i < f (n + 1)
    · refine ⟨n + 1, by omega, fun j hj => ?_, fun j hj => ?_⟩
      · rcases Nat.lt_or_ge j (n + 1) with r | r
        · have := h2 j r; omega
        · have e : j = n + 1 := by omega
          subst e; exact Int.le_refl _
      · have := h2 j hj; omega
    · refine ⟨i, by omega, fun j hj => ?_, h3⟩
      rcases Nat.lt_or_ge j (n + 1) with r | r
      · exact h2 j r
      · have e : j = n + 1 := by omega
        subst e; omega
theorem fb_best_one {f : Nat → Int} {n i j : Nat} (hi : i < n) (hi2 : ∀ k, k < n → f k ≤ f i) (hi3 : ∀ k, k < i → f k < f i) (hj : j < n) (hj2 : ∀ k, k < n → f k ≤ f j) (hj3 : ∀ k, k < j → f k < f j) : i = j := by
  rcases Nat.lt_trichotomy i j with q | q | q
  · have a := hj3 i q
    have b := hi2 j hj
    omega
  · exact q
  · have a := hi3 j q
    have b := hj2 i hi
    omega
/-- the first least -/
theorem fb_low (f : Nat → Int) {n : Nat} (h : 0 < n) : ∃ i, i < n ∧ (∀ j, j < n → f i ≤ f j) ∧ ∀ j, j < i → f i < f j := by
  obtain ⟨i, h1, h2, h3⟩ := fb_best (fun k => -f k) h
  exact ⟨i, h1, fun j hj => by have := h2 j hj; omega, fun j hj => by have := h3 j hj; omega⟩
/-! ===== signed ints as whole numbers, within bounds ===== -/
theorem fb_rng (x : Int32) : -2147483648 ≤ x.toInt ∧ x.toInt < 2147483648 := by
  have h1 := Int32.le_toInt x
  have h2 := Int32.toInt_lt x
  omega
theorem fb_bmod {z : Int} (h1 : -2147483648 ≤ z) (h2 : z < 2147483648) : z.bmod (2 ^ 32) = z := by
  rw [Int.bmod_eq_of_le (by omega) (by omega)]
theorem fb_addI {x y : Int32} (h1 : -2147483648 ≤ x.toInt + y.toInt) (h2 : x.toInt + y.toInt < 2147483648) : (x + y).toInt = x.toInt + y.toInt := by
  rw [Int32.toInt_add, fb_bmod h1 h2]
theorem fb_subI {x y : Int32} (h1 : -2147483648 ≤ x.toInt - y.toInt) (h2 : x.toInt - y.toInt < 2147483648) : (x - y).toInt = x.toInt - y.toInt := by
  rw [Int32.toInt_sub, fb_bmod h1 h2]
theorem fb_mulI {x y : Int32} (h1 : -2147483648 ≤ x.toInt * y.toInt) (h2 : x.toInt * y.toInt < 2147483648) : (x * y).toInt = x.toInt * y.toInt := by
  rw [Int32.toInt_mul, fb_bmod h1 h2]
theorem fb_negI {x : Int32} (h : x.toInt ≠ -2147483648) : (-x).toInt = -x.toInt := by
  have := fb_rng x
  rw [Int32.toInt_neg, fb_bmod (by omega) (by omega)]
theorem fb_ofI {z : Int} (h1 : -2147483648 ≤ z) (h2 : z < 2147483648) : (Int32.ofInt z).toInt = z := by
  rw [Int32.toInt_ofInt, fb_bmod h1 h2]
theorem fb_asI (x : Int32) : Int32.ofInt x.toInt = x := Int32.ofInt_toInt x
theorem fb_rngL (x : Int64) : -9223372036854775808 ≤ x.toInt ∧ x.toInt < 9223372036854775808 := by
  have h1 := Int64.le_toInt x
  have h2 := Int64.toInt_lt x
  omega
theorem fb_bmodL {z : Int} (h1 : -9223372036854775808 ≤ z) (h2 : z < 9223372036854775808) : z.bmod (2 ^ 64) = z := by
  rw [Int.bmod_eq_of_le (by omega) (by omega)]
theorem fb_addL {x y : Int64} (h1 : -9223372036854775808 ≤ x.toInt + y.toInt) (h2 : x.toInt + y.toInt < 9223372036854775808) : (x + y).toInt = x.toInt + y.toInt := by
  rw [Int64.toInt_add, fb_bmodL h1 h2]
theorem fb_subL {x y : Int64} (h1 : -9223372036854775808 ≤ x.toInt - y.toInt) (h2 : x.toInt - y.toInt < 9223372036854775808) : (x - y).toInt = x.toInt - y.toInt := by
  rw [Int64.toInt_sub, fb_bmodL h1 h2]
theorem fb_mulL {x y : Int64} (h1 : -9223372036854775808 ≤ x.toInt * y.toInt) (h2 : x.toInt * y.toInt < 9223372036854775808) : (x * y).toInt = x.toInt * y.toInt := by
  rw [Int64.toInt_mul, fb_bmodL h1 h2]
/-! ===== cuts of what is narrow already ===== -/
theorem fb_byte {x : Int32} (h1 : -128 ≤ x.toInt) (h2 : x.toInt < 128) : x.toInt8.toInt32 = x := by
  apply Int32.toInt_inj.1
  rw [Int8.toInt_toInt32, Int32.toInt_toInt8, Int.bmod_eq_of_le (by omega) (by omega)]
theorem fb_short {x : Int32} (h1 : -32768 ≤ x.toInt) (h2 : x.toInt < 32768) : x.toInt16.toInt32 = x := by
  apply Int32.toInt_inj.1
  rw [Int16.toInt_toInt32, Int32.toInt_toInt16, Int.bmod_eq_of_le (by omega) (by omega)]
theorem fb_byte_rng (x : Int32) : -128 ≤ x.toInt8.toInt32.toInt ∧ x.toInt8.toInt32.toInt < 128 := by
  rw [Int8.toInt_toInt32]
  have h1 := Int8.le_toInt x.toInt8
  have h2 := Int8.toInt_lt x.toInt8
  omega
theorem fb_short_rng (x : Int32) : -32768 ≤ x.toInt16.toInt32.toInt ∧ x.toInt16.toInt32.toInt < 32768 := by
  rw [Int16.toInt_toInt32]
  have h1 := Int16.le_toInt x.toInt16
  have h2 := Int16.toInt_lt x.toInt16
  omega
theorem fb_byte_twice (x : Int32) : x.toInt8.toInt32.toInt8.toInt32 = x.toInt8.toInt32 := fb_byte (fb_byte_rng x).1 (fb_byte_rng x).2
theorem fb_short_twice (x : Int32) : x.toInt16.toInt32.toInt16.toInt32 = x.toInt16.toInt32 := fb_short (fb_short_rng x).1 (fb_short_rng x).2
theorem fb_char {n : Nat} (h : n < 65536) : (nI n).toUInt32.toUInt16.toUInt32.toInt32 = nI n := by
  apply Int32.toBitVec_inj.1
  apply BitVec.eq_of_toNat_eq
  have e1 : (nI n).toBitVec.toNat = n := by
    show (BitVec.ofNat 32 n).toNat = n
    rw [BitVec.toNat_ofNat, Nat.mod_eq_of_lt (by omega)]
  have e2 : ((nI n).toUInt32.toUInt16.toUInt32).toNat = n := by
    rw [UInt16.toNat_toUInt32, UInt32.toNat_toUInt16]
    show (nI n).toBitVec.toNat % 2 ^ 16 = n
    rw [e1, Nat.mod_eq_of_lt (by omega)]
  rw [e1]
  exact e2
end
section
/-! rows on bits, shifts and unsigned numbers, to paste: each family out of a closed proof of our own, whole with what it rests on; each by itself clean at Lean in its own claim (generation 39, form 5). Take a family whole -/
/-! ===== Int32 by its bits: bt x i ===== -/
def bt (x : Int32) (i : Nat) : Bool := x.toBitVec.getLsbD i
theorem b_ext {x y : Int32} (h : ∀ i, i < 32 → bt x i = bt y i) : x = y := Int32.toBitVec_inj.mp (BitVec.eq_of_getLsbD_eq (fun i hi => h i hi))
theorem b_or (x y : Int32) (i : Nat) : bt (x ||| y) i = (bt x i || bt y i) := by unfold bt; rw [Int32.toBitVec_or, BitVec.getLsbD_or]
theorem b_and (x y : Int32) (i : Nat) : bt (x &&& y) i = (bt x i && bt y i) := by unfold bt; rw [Int32.toBitVec_and, BitVec.getLsbD_and]
theorem b_xor (x y : Int32) (i : Nat) : bt (x ^^^ y) i = (bt x i ^^ bt y i) := by unfold bt; rw [Int32.toBitVec_xor, BitVec.getLsbD_xor]
theorem b_big {x : Int32} {i : Nat} (h : 32 ≤ i) : bt x i = false := BitVec.getLsbD_of_ge _ _ h
theorem b_255 (i : Nat) : bt 255 i = decide (i < 8) := by
  rcases Nat.lt_or_ge i 32 with h | h
  · exact (by decide +kernel : ∀ i, i < 32 → bt 255 i = decide (i < 8)) i h
  · rw [b_big h, decide_eq_false (by omega)]
theorem b_65535 (i : Nat) : bt 65535 i = decide (i < 16) := by
  rcases Nat.lt_or_ge i 32 with h | h
  · exact (by decide +kernel : ∀ i, i < 32 → bt 65535 i = decide (i < 16)) i h
  · rw [b_big h, decide_eq_false (by omega)]
theorem b_m1 : ∀ i, i < 32 → bt (-1) i = true := by decide +kernel
theorem b_0 (i : Nat) : bt 0 i = false := BitVec.getLsbD_zero
theorem s_l : ∀ n, n < 32 → ((nI n &&& 31).toBitVec.smod 32).toNat = n := by decide +kernel
theorem s_u : ∀ n, n < 32 → (((nI n).toUInt32 &&& Int32.toUInt32 31).toBitVec % 32).toNat = n := by decide +kernel
theorem b_shl (n : Nat) (hn : n < 32) (x : Int32) {i : Nat} (hi : i < 32) : bt (x <<< (nI n &&& 31)) i = (decide (n ≤ i) && bt x (i - n)) := by
  unfold bt
  rw [Int32.toBitVec_shiftLeft]
  show (x.toBitVec <<< ((nI n &&& 31).toBitVec.smod 32).toNat).getLsbD i = _
  rw [s_l n hn, BitVec.getLsbD_shiftLeft]
  rcases Nat.lt_or_ge i n with h | h
  · simp [h, Nat.not_le.mpr h]
  · simp [hi, h, Nat.not_lt.mpr h]
theorem b_ushr (n : Nat) (hn : n < 32) (x : Int32) (i : Nat) : bt ((x.toUInt32 >>> ((nI n).toUInt32 &&& Int32.toUInt32 31)).toInt32) i = bt x (n + i) := by
  show (x.toUInt32 >>> ((nI n).toUInt32 &&& Int32.toUInt32 31)).toBitVec.getLsbD i = x.toUInt32.toBitVec.getLsbD (n + i)
  rw [UInt32.toBitVec_shiftRight]
  show (x.toUInt32.toBitVec >>> (((nI n).toUInt32 &&& Int32.toUInt32 31).toBitVec % 32).toNat).getLsbD i = _
  rw [s_u n hn, BitVec.getLsbD_ushiftRight]
theorem b_sshr (n : Nat) (hn : n < 32) (x : Int32) {i : Nat} (hi : i < 32) : bt (x >>> (nI n &&& 31)) i = if n + i < 32 then bt x (n + i) else bt x 31 := by
  unfold bt
  rw [Int32.toBitVec_shiftRight]
  show (x.toBitVec.sshiftRight ((nI n &&& 31).toBitVec.smod 32).toNat).getLsbD i = _
  rw [s_l n hn, BitVec.getLsbD_sshiftRight, BitVec.msb_eq_getLsbD_last]
  simp [hi]
theorem b_shl8 (x : Int32) {i : Nat} (hi : i < 32) : bt (x <<< ((8 : Int32) &&& 31)) i = (decide (8 ≤ i) && bt x (i - 8)) := b_shl 8 (by omega) x hi
theorem b_shl16 (x : Int32) {i : Nat} (hi : i < 32) : bt (x <<< ((16 : Int32) &&& 31)) i = (decide (16 ≤ i) && bt x (i - 16)) := b_shl 16 (by omega) x hi
theorem b_shl24 (x : Int32) {i : Nat} (hi : i < 32) : bt (x <<< ((24 : Int32) &&& 31)) i = (decide (24 ≤ i) && bt x (i - 24)) := b_shl 24 (by omega) x hi
theorem b_sshr8 (x : Int32) {i : Nat} (hi : i < 32) : bt (x >>> ((8 : Int32) &&& 31)) i = if 8 + i < 32 then bt x (8 + i) else bt x 31 := b_sshr 8 (by omega) x hi
/-! ===== nI under and, xor, >>>, one bit, 65535 ===== -/
theorem nx_and (a b : Nat) : nI a &&& nI b = nI (a &&& b) := by
  apply Int32.toBitVec_inj.1
  show BitVec.ofNat 32 a &&& BitVec.ofNat 32 b = BitVec.ofNat 32 (a &&& b)
  apply BitVec.eq_of_getLsbD_eq
  intro i hi
  simp [hi]
theorem nx_xor (a b : Nat) : nI a ^^^ nI b = nI (a ^^^ b) := by
  apply Int32.toBitVec_inj.1
  show BitVec.ofNat 32 a ^^^ BitVec.ofNat 32 b = BitVec.ofNat 32 (a ^^^ b)
  apply BitVec.eq_of_getLsbD_eq
  intro i hi
  simp [hi]
theorem nx_cnt : ∀ j : Fin 32, (UInt32.ofNat j.val &&& Int32.toUInt32 31).toNat % 32 = j.val := by decide +kernel
theorem nx_ush {k j : Nat} (hk : k < 65536) (hj : j < 32) : ((nI k).toUInt32 >>> ((nI j).toUInt32 &&& Int32.toUInt32 31)).toInt32 = nI (k >>> j) := by
  have hs : k >>> j ≤ k := by
    rw [Nat.shiftRight_eq_div_pow]
    exact Nat.div_le_self _ _
  have e2 : UInt32.ofNat k >>> (UInt32.ofNat j &&& Int32.toUInt32 31) = UInt32.ofNat (k >>> j) := by
    apply UInt32.toNat_inj.1
    have h1 : (UInt32.ofNat k).toNat = k := Nat.mod_eq_of_lt (by omega)
    have h2 : (UInt32.ofNat (k >>> j)).toNat = k >>> j := Nat.mod_eq_of_lt (by omega)
    rw [UInt32.toNat_shiftRight, nx_cnt ⟨j, hj⟩, h1, h2]
  show (UInt32.ofNat k >>> (UInt32.ofNat j &&& Int32.toUInt32 31)).toInt32 = _
  rw [e2]
  rfl
theorem nx_bit {k j : Nat} (hk : k < 65536) (hj : j < 16) : (((nI k).toUInt32 >>> ((nI j).toUInt32 &&& Int32.toUInt32 31)).toInt32 &&& 1) = 0 ↔ k.testBit j = false := by
  rw [nx_ush hk (by omega)]
  show nI (k >>> j) &&& nI 1 = 0 ↔ _
  rw [nx_and, Nat.and_one_is_mod, ← nI_0, nI_eq (by omega) (by omega), Nat.testBit_eq_decide_div_mod_eq, Nat.shiftRight_eq_div_pow, decide_eq_false_iff_not]
  generalize k / 2 ^ j = z
  omega
theorem nx_mod (k : Nat) : nI k &&& 65535 = nI (k % 65536) := by
  show nI k &&& nI 65535 = _
  rw [nx_and, show (65535 : Nat) = 2 ^ 16 - 1 from rfl, Nat.and_two_pow_sub_one_eq_mod]
theorem nx_m16 {k : Nat} (h : k < 65536) : nI k &&& 65535 = nI k := by rw [nx_mod, Nat.mod_eq_of_lt h]
theorem nx_mask (x : Int32) : ∃ k, k < 65536 ∧ x &&& 65535 = nI k := by
  have e : x = nI x.toBitVec.toNat := by
    apply Int32.toBitVec_inj.1
    show x.toBitVec = BitVec.ofNat 32 x.toBitVec.toNat
    simp
  refine ⟨x.toBitVec.toNat % 65536, Nat.mod_lt _ (by omega), ?_⟩
  rw [← nx_mod, ← e]
/-! ===== Int32 as a set of bits: test, set ===== -/
def nf_M (m : Int32) : Nat := 4294967296 - m.toBitVec.toNat
theorem nf_sh : ∀ l, l < 32 → ((1 : Int32) <<< (nI l &&& 31)).toBitVec = BitVec.twoPow 32 l := by decide +kernel
theorem nf_sl : ∀ l, l < 32 → (((nI l).toUInt32 &&& Int32.toUInt32 31).toBitVec % 32).toNat = l := by decide +kernel
theorem nf_tp : ∀ l, l < 32 → BitVec.twoPow 32 l ≠ 0#32 := by decide +kernel
theorem nf_bit (m : Int32) (l : Nat) (hl : l < 32) : ((m.toUInt32 >>> ((nI l).toUInt32 &&& Int32.toUInt32 31)).toInt32 &&& 1) = 0 ↔ (m &&& ((1 : Int32) <<< (nI l &&& 31))) = 0 := by
  have e : ((m.toUInt32 >>> ((nI l).toUInt32 &&& Int32.toUInt32 31)).toInt32).toBitVec = m.toBitVec >>> l := by
    show m.toBitVec >>> (((nI l).toUInt32 &&& Int32.toUInt32 31).toBitVec % 32) = m.toBitVec >>> l
    rw [BitVec.ushiftRight_eq', nf_sl l hl]
  rw [← Int32.toBitVec_inj, ← Int32.toBitVec_inj, Int32.toBitVec_and, Int32.toBitVec_and, nf_sh l hl, e, BitVec.and_twoPow]
  show (m.toBitVec >>> l &&& 1#32) = 0#32 ↔ _ = 0#32
  rw [BitVec.and_one_eq_setWidth_ofBool_getLsbD, BitVec.getLsbD_ushiftRight, Nat.add_zero]
  cases hb : m.toBitVec.getLsbD l
  · exact ⟨fun _ => by simp, fun _ => by decide⟩
  · exact ⟨fun z => absurd z (by decide), fun z => absurd ((if_pos rfl).symm.trans z) (nf_tp l hl)⟩
theorem nf_gr (m k : Int32) (h : m &&& k = 0) (hk : k ≠ 0) : nf_M (m ||| k) < nf_M m := by
  have hm := m.toBitVec.isLt
  have hm' := (m ||| k).toBitVec.isLt
  have h1 : m.toBitVec.toNat ≤ (m ||| k).toBitVec.toNat := by
    rw [Int32.toBitVec_or, BitVec.toNat_or]
    exact Nat.left_le_or
  have h2 : m.toBitVec.toNat ≠ (m ||| k).toBitVec.toNat := by
    intro e
    have e2 : m = m ||| k := Int32.toBitVec_inj.mp (BitVec.eq_of_toNat_eq e)
    apply hk
    apply Int32.toBitVec_inj.mp
    show k.toBitVec = 0#32
    apply BitVec.eq_of_getLsbD_eq
    intro i hi
    have a : m.toBitVec.getLsbD i = (m.toBitVec.getLsbD i || k.toBitVec.getLsbD i) := by rw [← BitVec.getLsbD_or, ← Int32.toBitVec_or, ← e2]
    have b : (m.toBitVec.getLsbD i && k.toBitVec.getLsbD i) = false := by
      rw [← BitVec.getLsbD_and, ← Int32.toBitVec_and, h]
      exact BitVec.getLsbD_zero
    rw [BitVec.getLsbD_zero]
    revert a b
    cases m.toBitVec.getLsbD i <;> cases k.toBitVec.getLsbD i <;> simp
  unfold nf_M
  omega
/-! ===== a byte read unsigned ===== -/
theorem bp_b (x : Int32) : x.toInt8.toInt32 &&& 255 = x &&& 255 := by
  apply Int32.toBitVec_inj.mp
  rw [Int32.toBitVec_and, Int32.toBitVec_and, Int8.toBitVec_toInt32, Int32.toBitVec_toInt8]
  apply BitVec.eq_of_getLsbD_eq
  intro i hi
  rw [BitVec.getLsbD_and, BitVec.getLsbD_and]
  have hm : ∀ i < 32, 8 ≤ i → (255 : Int32).toBitVec.getLsbD i = false := by decide
  rcases Nat.lt_or_ge i 8 with z | z
  · rw [BitVec.getLsbD_signExtend, BitVec.getLsbD_signExtend, if_pos z, if_pos hi]
    simp only [z, hi, decide_true, Bool.true_and]
  · rw [hm i hi z]; simp
/-! ===== the char cast and 65535 ===== -/
/-! ===== Int64 as a set of bits: test, set, clear ===== -/
theorem ts_nf {x : Bool} (h : ¬ x = false) : x = true := by cases x <;> first | rfl | exact absurd rfl h
theorem ts_nt {x : Bool} (h : ¬ x = true) : x = false := by cases x <;> first | rfl | exact absurd rfl h
theorem ts_bit {w : Int64} {s : UInt64} {j : Nat} (hj : j < 64) (hs : s.toNat = j) : ((w.toUInt64 >>> s).toInt64 &&& 1) = 0 ↔ w.toBitVec.getLsbD j = false := by
  have e : (w.toUInt64 >>> s).toInt64.toBitVec = w.toBitVec >>> j := by
    apply BitVec.eq_of_toNat_eq
    show (w.toUInt64 >>> s).toNat = _
    rw [UInt64.toNat_shiftRight, hs, Nat.mod_eq_of_lt hj, BitVec.toNat_ushiftRight]
    rfl
  rw [← Int64.toBitVec_inj, Int64.toBitVec_and, e]
  show w.toBitVec >>> j &&& 1#64 = 0#64 ↔ _
  constructor
  · intro h
    have t := congrArg (fun x => x.getLsbD 0) h
    simpa using t
  · intro h
    apply BitVec.eq_of_getLsbD_eq
    intro i hi
    cases i with
    | zero => simp [h]
    | succ i => simp
theorem ts_or {w m : Int64} {j : Nat} (hj : j < 64) (hm : m.toBitVec = BitVec.twoPow 64 j) : (w ||| m) = w ↔ w.toBitVec.getLsbD j = true := by
  rw [← Int64.toBitVec_inj, Int64.toBitVec_or, hm]
  constructor
  · intro h
    have t := congrArg (fun x => x.getLsbD j) h
    simp only [BitVec.getLsbD_or, BitVec.getLsbD_twoPow] at t
    simpa [hj] using t.symm
  · intro h
    apply BitVec.eq_of_getLsbD_eq
    intro i hi
    rw [BitVec.getLsbD_or, BitVec.getLsbD_twoPow]
    by_cases e : j = i
    · subst e; rw [h, Bool.true_or]
    · simp [e]
theorem ts_and {w m : Int64} {j : Nat} (hj : j < 64) (hm : m.toBitVec = BitVec.twoPow 64 j) : (w &&& (m ^^^ (-1))) = w ↔ w.toBitVec.getLsbD j = false := by
  have ha : (-1 : Int64).toBitVec = BitVec.allOnes 64 := by decide
  rw [← Int64.toBitVec_inj, Int64.toBitVec_and, Int64.toBitVec_xor, hm, ha]
  constructor
  · intro h
    have t := congrArg (fun x => x.getLsbD j) h
    simp only [BitVec.getLsbD_and, BitVec.getLsbD_xor, BitVec.getLsbD_twoPow, BitVec.getLsbD_allOnes] at t
    simpa [hj] using t.symm
  · intro h
    apply BitVec.eq_of_getLsbD_eq
    intro i hi
    rw [BitVec.getLsbD_and, BitVec.getLsbD_xor, BitVec.getLsbD_twoPow, BitVec.getLsbD_allOnes]
    by_cases e : j = i
    · subst e; rw [h, Bool.false_and]
    · simp [e, hi]
/-! ===== lN n to 2^64: shifts, and, or, masks, one bit ===== -/
theorem wb_tb (n : Nat) : (lN n).toBitVec = BitVec.ofNat 64 n := rfl
theorem wb_inj {a b : Int64} (h : a.toBitVec = b.toBitVec) : a = b := Int64.toBitVec_inj.mp h
theorem wb_tn {n : Nat} (h : n < 2 ^ 64) : (lN n).toBitVec.toNat = n := by rw [wb_tb, BitVec.toNat_ofNat, Nat.mod_eq_of_lt h]
theorem wb_of (x : Int64) : ∃ n, n < 2 ^ 64 ∧ x = lN n := ⟨x.toBitVec.toNat, x.toBitVec.isLt, wb_inj (by rw [wb_tb]; simp)⟩
theorem wb_of32 (x : Int32) : ∃ n, n < 2 ^ 32 ∧ x = nI n := ⟨x.toBitVec.toNat, x.toBitVec.isLt, Int32.toBitVec_inj.mp (by show _ = BitVec.ofNat 32 _; simp)⟩
theorem wb_c : ∀ k, k < 64 → ((nI k).toInt64 &&& 63) = lN k := by decide +kernel
theorem wb_cu : ∀ k, k < 64 → ((nI k).toInt64.toUInt64 &&& Int64.toUInt64 63) = UInt64.ofNat k := by decide +kernel
theorem wb_sm : ∀ k, k < 64 → (BitVec.ofNat 64 k).smod 64 = BitVec.ofNat 64 k := by decide +kernel
theorem wb_pw {a b : Nat} (h : a ≤ b) : 2 ^ b = 2 ^ a * 2 ^ (b - a) := by rw [← Nat.pow_add]; congr 1; omega
theorem wb_lt2 {a b : Nat} (h : a < b) : 2 ^ a < 2 ^ b := Nat.pow_lt_pow_right (by decide) h
theorem wb_mod (n : Nat) : lN n = lN (n % 2 ^ 64) := wb_inj (by rw [wb_tb, wb_tb]; apply BitVec.eq_of_toNat_eq; rw [BitVec.toNat_ofNat, BitVec.toNat_ofNat, Nat.mod_mod])
theorem wb_shr {n k : Nat} (hn : n < 2 ^ 64) (hk : k < 64) : ((lN n).toUInt64 >>> ((nI k).toInt64.toUInt64 &&& Int64.toUInt64 63)).toInt64 = lN (n / 2 ^ k) := by
  rw [wb_cu k hk]
  apply wb_inj
  apply BitVec.eq_of_toNat_eq
  show ((lN n).toUInt64 >>> UInt64.ofNat k).toNat = (BitVec.ofNat 64 _).toNat
  have h1 : (UInt64.ofNat k).toNat = k := by
    show (BitVec.ofNat 64 k).toNat = k
    rw [BitVec.toNat_ofNat, Nat.mod_eq_of_lt (by omega)]
  have h2 : (lN n).toUInt64.toNat = n := wb_tn hn
  rw [UInt64.toNat_shiftRight, h1, h2, Nat.mod_eq_of_lt hk, Nat.shiftRight_eq_div_pow, BitVec.toNat_ofNat, Nat.mod_eq_of_lt (Nat.lt_of_le_of_lt (Nat.div_le_self _ _) hn)]
theorem wb_shl (n : Nat) {k : Nat} (hk : k < 64) : lN n <<< ((nI k).toInt64 &&& 63) = lN (n * 2 ^ k) := by
  rw [wb_c k hk]
  apply wb_inj
  rw [Int64.toBitVec_shiftLeft, wb_tb, wb_tb, wb_tb, wb_sm k hk]
  apply BitVec.eq_of_toNat_eq
  rw [BitVec.shiftLeft_eq', BitVec.toNat_shiftLeft, BitVec.toNat_ofNat, BitVec.toNat_ofNat, BitVec.toNat_ofNat, Nat.mod_eq_of_lt (show k < 2 ^ 64 by omega), Nat.shiftLeft_eq, Nat.mul_mod, Nat.mod_mod, ← Nat.mul_mod]
theorem wb_and {a b : Nat} (ha : a < 2 ^ 64) (hb : b < 2 ^ 64) : lN a &&& lN b = lN (a &&& b) := by
  apply wb_inj
  rw [Int64.toBitVec_and, wb_tb, wb_tb, wb_tb]
  apply BitVec.eq_of_toNat_eq
  rw [BitVec.toNat_and, BitVec.toNat_ofNat, BitVec.toNat_ofNat, BitVec.toNat_ofNat, Nat.mod_eq_of_lt ha, Nat.mod_eq_of_lt hb, Nat.mod_eq_of_lt (Nat.and_lt_two_pow _ hb)]
theorem wb_or {a b : Nat} (ha : a < 2 ^ 64) (hb : b < 2 ^ 64) : lN a ||| lN b = lN (a ||| b) := by
  apply wb_inj
  rw [Int64.toBitVec_or, wb_tb, wb_tb, wb_tb]
  apply BitVec.eq_of_toNat_eq
  rw [BitVec.toNat_or, BitVec.toNat_ofNat, BitVec.toNat_ofNat, BitVec.toNat_ofNat, Nat.mod_eq_of_lt ha, Nat.mod_eq_of_lt hb, Nat.mod_eq_of_lt (Nat.or_lt_two_pow ha hb)]
theorem wb_mask {n k : Nat} (hn : n < 2 ^ 64) (hk : k < 64) : lN n &&& lN (2 ^ k - 1) = lN (n % 2 ^ k) := by
  rw [wb_and hn (by have := wb_lt2 hk; omega), Nat.and_two_pow_sub_one_eq_mod]
theorem wb_a1 {n : Nat} (hn : n < 2 ^ 64) : lN n &&& 1 = lN (n % 2) := wb_mask (k := 1) hn (by decide)
theorem wb_bit {n k : Nat} (hn : n < 2 ^ 64) (hk : k < 64) : ((lN n).toUInt64 >>> ((nI k).toInt64.toUInt64 &&& Int64.toUInt64 63)).toInt64 &&& 1 = lN (n / 2 ^ k % 2) := by
  rw [wb_shr hn hk, wb_a1 (Nat.lt_of_le_of_lt (Nat.div_le_self _ _) hn)]
theorem wb_xor {q k : Nat} (hk : k < 63) (h : 2 ^ k ≤ q) (h2 : q < 2 ^ (k + 1)) : lN q ^^^ lN (2 ^ k) = lN (q - 2 ^ k) := by
  obtain ⟨r, rfl⟩ : ∃ r, q = 2 ^ k + r := ⟨q - 2 ^ k, by omega⟩
  have hr : r < 2 ^ k := by rw [Nat.pow_succ] at h2; omega
  have hx : (2 ^ k + r) ^^^ 2 ^ k = r := by
    apply Nat.eq_of_testBit_eq
    intro i
    rw [Nat.testBit_xor, Nat.testBit_two_pow]
    rcases Nat.lt_trichotomy i k with h | h | h
    · rw [Nat.testBit_two_pow_add_gt h]
      simp [show ¬ k = i by omega]
    · subst h
      rw [Nat.testBit_two_pow_add_eq]
      simp
    · have a1 : 2 ^ (k + 1) ≤ 2 ^ i := Nat.pow_le_pow_right (by decide) h
      rw [Nat.testBit_lt_two_pow (show 2 ^ k + r < 2 ^ i by omega), Nat.testBit_lt_two_pow (show r < 2 ^ i by omega)]
      simp [show ¬ k = i by omega]
  have b1 := wb_lt2 (show k + 1 < 64 by omega)
  have b2 := wb_lt2 (show k < 64 by omega)
  apply wb_inj
  rw [Int64.toBitVec_xor, wb_tb, wb_tb, wb_tb]
  apply BitVec.eq_of_toNat_eq
  rw [BitVec.toNat_xor, BitVec.toNat_ofNat, BitVec.toNat_ofNat, BitVec.toNat_ofNat, Nat.mod_eq_of_lt (by omega : 2 ^ k + r < 2 ^ 64), Nat.mod_eq_of_lt b2, hx, Nat.add_sub_cancel_left, Nat.mod_eq_of_lt (by omega)]
/-! ===== lN: masks, 'or' of parts that don't overlap is a sum ===== -/
theorem u_tn {n : Nat} (h : n < 2 ^ 64) : (UInt64.ofNat n).toNat = n := Nat.mod_eq_of_lt h
theorem g_and {a b c : Nat} (ha : a < 2 ^ 64) (hb : b < 2 ^ 64) (hc : a &&& b = c) : lN a &&& lN b = lN c := by
  subst hc
  have h : UInt64.ofNat a &&& UInt64.ofNat b = UInt64.ofNat (a &&& b) := UInt64.toNat_inj.mp (by rw [UInt64.toNat_and, u_tn ha, u_tn hb, u_tn (Nat.and_lt_two_pow a hb)])
  have h2 := congrArg UInt64.toInt64 h
  exact h2
theorem g_and1 {a : Nat} (ha : a < 2 ^ 64) : lN a &&& 1 = lN (a % 2) := g_and (b := 1) ha (by decide) (Nat.and_two_pow_sub_one_eq_mod a 1)
theorem g_mask {a s p : Nat} (hp : 2 ^ s = p) (hs : s < 64) (ha : a < 2 ^ 64) : lN a &&& lN (p - 1) = lN (a % p) := by
  subst hp
  have := Nat.pow_lt_pow_right (show 1 < 2 by decide) hs
  exact g_and ha (by omega) (Nat.and_two_pow_sub_one_eq_mod a s)
theorem g_or {k p a b : Nat} (hp : 2 ^ k = p) (ha : a < p) (h : b * p + a < 2 ^ 64) : lN (b * p) ||| lN a = lN (b * p + a) := by
  subst hp
  have h1 : b * 2 ^ k ||| a = b * 2 ^ k + a := by rw [← Nat.shiftLeft_eq, Nat.shiftLeft_add_eq_or_of_lt ha]
  have h3 : UInt64.ofNat (b * 2 ^ k) ||| UInt64.ofNat a = UInt64.ofNat (b * 2 ^ k + a) := UInt64.toNat_inj.mp (by rw [UInt64.toNat_or, u_tn (by omega), u_tn (by omega), u_tn h, h1])
  have h2 := congrArg UInt64.toInt64 h3
  exact h2
theorem g_or' {k p a b : Nat} (hp : 2 ^ k = p) (ha : a < p) (h : a + b * p < 2 ^ 64) : lN a ||| lN (b * p) = lN (a + b * p) := by
  rw [Int64.or_comm, g_or hp ha (by omega), Nat.add_comm]
theorem g_ushr {a k p : Nat} {y : UInt64} (hy : y = UInt64.ofNat k) (hk : k < 64) (hp : 2 ^ k = p) (ha : a < 2 ^ 64) : ((lN a).toUInt64 >>> y).toInt64 = lN (a / p) := by
  subst hy hp
  have h : UInt64.ofNat a >>> UInt64.ofNat k = UInt64.ofNat (a / 2 ^ k) := UInt64.toNat_inj.mp (by rw [UInt64.toNat_shiftRight, u_tn ha, u_tn (by omega), u_tn (Nat.lt_of_le_of_lt (Nat.div_le_self _ _) ha), Nat.mod_eq_of_lt hk, Nat.shiftRight_eq_div_pow])
  have h2 := congrArg UInt64.toInt64 h
  exact h2
theorem g_shl {a k p : Nat} {y : Int64} (hy : y.toBitVec.smod 64 = BitVec.ofNat 64 k) (hk : k < 64) (hp : 2 ^ k = p) (ha : a < 2 ^ 64) : lN a <<< y = lN (a * p) := by
  subst hp
  apply Int64.toBitVec_inj.mp
  rw [Int64.toBitVec_shiftLeft, hy]
  apply BitVec.eq_of_toNat_eq
  have hb : (lN a).toBitVec.toNat = a := Nat.mod_eq_of_lt ha
  have hk' : (BitVec.ofNat 64 k).toNat = k := Nat.mod_eq_of_lt (by omega)
  have h : ((lN a).toBitVec <<< BitVec.ofNat 64 k).toNat = (a * 2 ^ k) % 2 ^ 64 := by simp only [BitVec.shiftLeft_eq', BitVec.toNat_shiftLeft, hb, hk', Nat.shiftLeft_eq]
  exact h
/-! ===== lN to 2^62 under >> and >>> ===== -/
theorem pf_lI {a : Nat} (h : a < 2 ^ 63) : (lN a).toInt = (a : Int) := lg_ofNat_toInt h
theorem pf_shr {a d : Nat} {D : Int64} (hD : (D.toBitVec.smod 64).toNat = d) (h : a < 2 ^ 62) : lN a >>> D = lN (a / 2 ^ d) := by
  have hd : a / 2 ^ d ≤ a := Nat.div_le_self _ _
  apply Int64.toInt_inj.mp
  have e : (lN a >>> D).toInt = (lN a).toInt >>> d := by
    rw [← hD]
    exact BitVec.toInt_sshiftRight ..
  rw [e, Int.shiftRight_eq_div_pow, pf_lI (by omega), pf_lI (by omega)]
  rfl
theorem pf_ushr {a d : Nat} {D : UInt64} (hD : D.toNat % 64 = d) (h : a < 2 ^ 62) : ((lN a).toUInt64 >>> D).toInt64 = lN (a / 2 ^ d) := by
  have hd : a / 2 ^ d ≤ a := Nat.div_le_self _ _
  have e : (lN a).toUInt64 >>> D = UInt64.ofNat (a / 2 ^ d) := UInt64.toNat_inj.mp (by
    rw [UInt64.toNat_shiftRight, hD, Nat.shiftRight_eq_div_pow, UInt64.toNat_ofNat']
    show (UInt64.ofNat a).toNat / 2 ^ d = _
    rw [UInt64.toNat_ofNat', Nat.mod_eq_of_lt (by omega), Nat.mod_eq_of_lt (by omega)])
  rw [e]
  rfl
theorem pf_andw (x : Int64) : ∃ m, m < 2 ^ 32 ∧ x &&& 4294967295 = lN m := ⟨x.toBitVec.toNat % 2 ^ 32, Nat.mod_lt _ (by decide), Int64.toBitVec_inj.mp (BitVec.eq_of_toNat_eq (by
  show (x.toBitVec &&& 4294967295#64).toNat = (BitVec.ofNat 64 (x.toBitVec.toNat % 2 ^ 32)).toNat
  rw [BitVec.toNat_and, show (4294967295#64).toNat = 2 ^ 32 - 1 from by decide, Nat.and_two_pow_sub_one_eq_mod, BitVec.toNat_ofNat]
  omega))⟩
/-! ===== Int64 as an unsigned number: uN x ===== -/
def uN (x : Int64) : Nat := x.toUInt64.toNat
theorem uN_lt (x : Int64) : uN x < 18446744073709551616 := x.toUInt64.toNat_lt
theorem uN_inj {x y : Int64} (h : uN x = uN y) : x = y := congrArg UInt64.toInt64 (UInt64.toNat_inj.mp h)
theorem uN_add (x y : Int64) : uN (x + y) = (uN x + uN y) % 18446744073709551616 := by
  show (x.toUInt64 + y.toUInt64).toNat = _
  exact UInt64.toNat_add _ _
theorem uN_mul (x y : Int64) : uN (x * y) = (uN x * uN y) % 18446744073709551616 := by
  show (x.toUInt64 * y.toUInt64).toNat = _
  exact UInt64.toNat_mul _ _
theorem uN_shl (x : Int64) : uN (x <<< ((1 : Int32).toInt64 &&& 63)) = (2 * uN x) % 18446744073709551616 := by
  have h : (((1 : Int32).toInt64 &&& 63).toBitVec.smod 64).toNat = 1 := by decide
  show (x.toBitVec <<< (((1 : Int32).toInt64 &&& 63).toBitVec.smod 64).toNat).toNat = _
  rw [h, BitVec.toNat_shiftLeft, Nat.shiftLeft_eq, Nat.mul_comm]
  rfl
theorem uN_shr (x : Int64) (s : UInt64) : uN (x.toUInt64 >>> s).toInt64 = uN x / 2 ^ (s.toNat % 64) := by
  show (x.toUInt64 >>> s).toNat = _
  rw [UInt64.toNat_shiftRight, Nat.shiftRight_eq_div_pow]
  rfl
theorem uN_s32 (x : Int64) : uN (x.toUInt64 >>> ((32 : Int32).toInt64.toUInt64 &&& Int64.toUInt64 63)).toInt64 = uN x / 4294967296 := by
  have h : ((32 : Int32).toInt64.toUInt64 &&& Int64.toUInt64 63).toNat % 64 = 32 := by decide
  rw [uN_shr, h]
theorem uN_s63 (x : Int64) : uN (x.toUInt64 >>> ((63 : Int32).toInt64.toUInt64 &&& Int64.toUInt64 63)).toInt64 = uN x / 9223372036854775808 := by
  have h : ((63 : Int32).toInt64.toUInt64 &&& Int64.toUInt64 63).toNat % 64 = 63 := by decide
  rw [uN_shr, h]
theorem uN_lo (x : Int64) : uN (x &&& 4294967295) = uN x % 4294967296 := by
  show (x.toUInt64 &&& Int64.toUInt64 4294967295).toNat = _
  rw [UInt64.toNat_and]
  exact Nat.and_two_pow_sub_one_eq_mod _ 32
theorem uN_bit (x : Int64) : (x &&& 1) = 0 ↔ uN x % 2 = 0 := by
  have h : uN (x &&& 1) = uN x % 2 := by
    show (x.toUInt64 &&& Int64.toUInt64 1).toNat = _
    rw [UInt64.toNat_and]
    exact Nat.and_two_pow_sub_one_eq_mod _ 1
  rw [← h]
  exact ⟨fun z => by rw [z]; rfl, fun z => uN_inj (z.trans rfl)⟩
theorem uN_or {x y : Int64} (hy : uN y < 2) : uN ((x <<< ((1 : Int32).toInt64 &&& 63)) ||| y) = (2 * uN x) % 18446744073709551616 + uN y := by
  have h1 : uN ((x <<< ((1 : Int32).toInt64 &&& 63)) ||| y) = uN (x <<< ((1 : Int32).toInt64 &&& 63)) ||| uN y := UInt64.toNat_or _ _
  have h2 : (2 * uN x) % 18446744073709551616 = 2 ^ 1 * (uN x % 9223372036854775808) := by omega
  rw [h1, uN_shl, h2]
  exact (Nat.two_pow_add_eq_or_of_lt (i := 1) hy _).symm
theorem nat_xor {a : Nat} (h : a < 18446744073709551616) : a ^^^ 2 ^ 63 = (a + 9223372036854775808) % 18446744073709551616 := by
  have h1 : (a ^^^ 2 ^ 63) % 2 ^ 63 = a % 2 ^ 63 := by rw [Nat.xor_mod_two_pow, Nat.mod_self, Nat.xor_zero]
  have h2 : (a ^^^ 2 ^ 63) / 2 ^ 63 = (a / 2 ^ 63) ^^^ 1 := by rw [Nat.xor_div_two_pow, Nat.div_self (Nat.two_pow_pos 63)]
  have h3 : a / 2 ^ 63 = 0 ∨ a / 2 ^ 63 = 1 := by omega
  generalize a ^^^ 2 ^ 63 = t at h1 h2
  rcases h3 with h3 | h3
  · rw [h3] at h2
    have h2 : t / 2 ^ 63 = 1 := h2
    omega
  · rw [h3] at h2
    have h2 : t / 2 ^ 63 = 0 := h2
    omega
theorem uN_xor (x : Int64) : uN (x ^^^ (-9223372036854775808)) = (uN x + 9223372036854775808) % 18446744073709551616 := by
  rw [← nat_xor (uN_lt x)]
  exact UInt64.toNat_xor _ _
theorem uN_int (x : Int64) : x.toInt = if 2 * uN x < 18446744073709551616 then (uN x : Int) else (uN x : Int) - 18446744073709551616 := BitVec.toInt_eq_toNat_cond _
theorem uN_le (x y : Int64) : (x ^^^ (-9223372036854775808)) ≤ (y ^^^ (-9223372036854775808)) ↔ uN x ≤ uN y := by
  have hx := uN_lt x
  have hy := uN_lt y
  rw [Int64.le_iff_toInt_le, uN_int, uN_int, uN_xor, uN_xor]
  omega
theorem uN_sk (x : Int64) {k : Nat} (hk : k < 64) : uN (x.toUInt64 >>> ((nI k).toInt64.toUInt64 &&& Int64.toUInt64 63)).toInt64 = uN x / 2 ^ k := by
  have h : ((nI k).toInt64.toUInt64 &&& Int64.toUInt64 63).toNat % 64 = k := by
    rw [nI_l (by omega), UInt64.toNat_and]
    have e : (lN k).toUInt64.toNat = k % 2 ^ 64 := rfl
    have e2 : (Int64.toUInt64 63).toNat = 2 ^ 6 - 1 := by decide
    rw [e, e2, Nat.and_two_pow_sub_one_eq_mod]
    omega
  rw [uN_shr, h]
/-! ===== unsigned comparison by xor with the least ===== -/
theorem lN_bv (n : Nat) : (lN n).toBitVec = BitVec.ofNat 64 n := rfl
theorem lN_nat {n : Nat} (h : n < 2 ^ 64) : (lN n).toBitVec.toNat = n := by rw [lN_bv, BitVec.toNat_ofNat]; exact Nat.mod_eq_of_lt h
theorem lN_xor (a b : Nat) : lN a ^^^ lN b = lN (a ^^^ b) := by
  apply Int64.toBitVec_inj.mp; rw [Int64.toBitVec_xor, lN_bv, lN_bv, lN_bv]; apply BitVec.eq_of_getLsbD_eq; intro i hi; simp [BitVec.getLsbD_ofNat, Nat.testBit_xor, hi]
theorem lN_ti {m : Nat} (h : m < 2 ^ 64) : (lN m).toInt = if m < 2 ^ 63 then (m : Int) else (m : Int) - 2 ^ 64 := by
  have c := BitVec.toInt_eq_toNat_cond (lN m).toBitVec
  rw [lN_nat h] at c
  show (lN m).toBitVec.toInt = _
  rw [c]
  split <;> split <;> omega
theorem xor63 {x : Nat} (h : x < 2 ^ 63) : x ^^^ 2 ^ 63 = 2 ^ 63 + x := by
  apply Nat.eq_of_testBit_eq
  intro i
  rw [Nat.testBit_xor, Nat.testBit_two_pow]
  rcases Nat.lt_trichotomy i 63 with z | z | z
  · rw [Nat.testBit_two_pow_add_gt z, decide_eq_false (by omega)]; simp
  · subst z; rw [Nat.testBit_two_pow_add_eq]; simp
  · have hp : 2 ^ 64 ≤ 2 ^ i := Nat.pow_le_pow_right (by decide) z
    rw [Nat.testBit_lt_two_pow (show x < 2 ^ i by omega), Nat.testBit_lt_two_pow (show 2 ^ 63 + x < 2 ^ i by omega), decide_eq_false (by omega)]; rfl
theorem xorS {a : Nat} (h : a < 2 ^ 64) : (lN a ^^^ (-9223372036854775808)).toInt = (a : Int) - 2 ^ 63 := by
  rw [show (-9223372036854775808 : Int64) = lN (2 ^ 63) from by decide +kernel, lN_xor]
  rcases Nat.lt_or_ge a (2 ^ 63) with z | z
  · rw [xor63 z, lN_ti (by omega), if_neg (by omega)]; omega
  · obtain ⟨x, rfl⟩ : ∃ x, a = 2 ^ 63 + x := ⟨a - 2 ^ 63, by omega⟩
    rw [← xor63 (by omega), Nat.xor_assoc, Nat.xor_self, Nat.xor_zero, lN_ti (by omega), if_pos (by omega), xor63 (by omega)]; omega
theorem ultL {a b : Nat} (ha : a < 2 ^ 64) (hb : b < 2 ^ 64) : ((lN b ^^^ (-9223372036854775808)) ≤ (lN a ^^^ (-9223372036854775808))) ↔ b ≤ a := by
  rw [Int64.le_iff_toInt_le, xorS ha, xorS hb]; omega
/-! ===== Int64 masks of n low bits ===== -/
theorem cr_bits (W U M : BitVec 64) : ((W &&& U) &&& (U &&& (M ^^^ BitVec.allOnes 64))) = 0#64 ↔ (W &&& U) &&& M = W &&& U := by
  constructor
  · intro h
    apply BitVec.eq_of_getLsbD_eq
    intro i hi
    have e := congrArg (fun x => BitVec.getLsbD x i) h
    simp only [BitVec.getLsbD_and, BitVec.getLsbD_xor, BitVec.getLsbD_allOnes, BitVec.getLsbD_zero, hi, decide_true] at e ⊢
    revert e
    cases W.getLsbD i <;> cases U.getLsbD i <;> cases M.getLsbD i <;> decide
  · intro h
    apply BitVec.eq_of_getLsbD_eq
    intro i hi
    have e := congrArg (fun x => BitVec.getLsbD x i) h
    simp only [BitVec.getLsbD_and, BitVec.getLsbD_xor, BitVec.getLsbD_allOnes, BitVec.getLsbD_zero, hi, decide_true] at e ⊢
    revert e
    cases W.getLsbD i <;> cases U.getLsbD i <;> cases M.getLsbD i <;> decide
theorem cr_mask (w U m : Int64) (n : Nat) (hm : m.toBitVec.toNat = 2 ^ n - 1) : ((w &&& U) &&& (U &&& (m ^^^ (-1)))) = 0 ↔ (w &&& U).toBitVec.toNat < 2 ^ n := by
  have e0 : (-1 : Int64).toBitVec = BitVec.allOnes 64 := by decide
  have z0 : (0 : Int64).toBitVec = 0#64 := by decide
  rw [← Int64.toBitVec_inj, z0, Int64.toBitVec_and, Int64.toBitVec_and, Int64.toBitVec_and, Int64.toBitVec_xor, e0, cr_bits]
  generalize w.toBitVec &&& U.toBitVec = T
  rw [← BitVec.toNat_inj, BitVec.toNat_and, hm, Nat.and_two_pow_sub_one_eq_mod]
  constructor
  · intro h
    have t := Nat.mod_lt T.toNat (Nat.two_pow_pos n)
    rw [h] at t
    exact t
  · exact Nat.mod_eq_of_lt
theorem cr_shr (t : Int64) (x : UInt64) (n : Nat) (hx : x.toNat % 64 = n) : (t.toUInt64 >>> x).toInt64 = 0 ↔ t.toBitVec.toNat < 2 ^ n := by
  rw [← Int64.toBitVec_inj, ← BitVec.toNat_inj]
  show (t.toUInt64 >>> x).toNat = 0 ↔ t.toUInt64.toNat < 2 ^ n
  rw [UInt64.toNat_shiftRight, hx, Nat.shiftRight_eq_div_pow]
  constructor
  · intro h
    have d : t.toUInt64.toNat / 2 ^ n < 1 := by
      rw [h]
      decide
    have e := (Nat.div_lt_iff_lt_mul (Nat.two_pow_pos n)).mp d
    rw [Nat.one_mul] at e
    exact e
  · exact Nat.div_eq_of_lt
theorem cr_amt (s : Int64) : ∃ n, n < 64 ∧ s &&& 63 = lN n ∧ (s.toUInt64 &&& Int64.toUInt64 63).toNat % 64 = n := by
  have e : (s.toUInt64 &&& Int64.toUInt64 63).toNat = s.toUInt64.toNat % 2 ^ 6 := by
    rw [UInt64.toNat_and, show (Int64.toUInt64 63).toNat = 2 ^ 6 - 1 from by decide, Nat.and_two_pow_sub_one_eq_mod]
  refine ⟨s.toUInt64.toNat % 2 ^ 6, by omega, ?_, by omega⟩
  rw [← Int64.toBitVec_inj, ← BitVec.toNat_inj]
  show (s.toUInt64 &&& Int64.toUInt64 63).toNat = (BitVec.ofNat 64 (s.toUInt64.toNat % 2 ^ 6)).toNat
  rw [e, BitVec.toNat_ofNat]
  omega
end
section
/-! ints and longs as numbers; truth as 0 and 1 -/
abbrev tn (x : Int32) : Nat := x.toNatClampNeg
abbrev tl (x : Int64) : Nat := x.toNatClampNeg
noncomputable def zb (c : Prop) : Int32 := @ite _ c (Classical.propDecidable c) 1 0
theorem zb_t {c : Prop} (h : c) : zb c = 1 := if_pos h
theorem zb_f {c : Prop} (h : ¬ c) : zb c = 0 := if_neg h
theorem zb_01 (c : Prop) : zb c = 0 ∨ zb c = 1 := by
  by_cases h : c
  · exact Or.inr (zb_t h)
  · exact Or.inl (zb_f h)
theorem zb_0 {c : Prop} (h : zb c = 0) : ¬ c := fun q => by
  rw [zb_t q] at h; exact absurd h (by decide)
theorem zb_1 {c : Prop} (h : ¬ zb c = 0) : c := by
  by_cases q : c
  · exact q
  · exact absurd (zb_f q) h
theorem zb_c {c d : Prop} (h : c ↔ d) : zb c = zb d := by
  by_cases q : c
  · rw [zb_t q, zb_t (h.mp q)]
  · rw [zb_f q, zb_f (fun r => q (h.mpr r))]
theorem tn_nI {n : Nat} (h : n < 2 ^ 31) : tn (nI n) = n := nI_clamp h
theorem tl_lN {n : Nat} (h : n < 2 ^ 63) : tl (lN n) = n := by
  show (lN n).toInt.toNat = n
  rw [pk_lT h]; rfl
theorem of_i {x : Int32} (h : 0 ≤ x.toInt) : ∃ n : Nat, n < 2 ^ 31 ∧ x = nI n ∧ x.toInt = n := by
  obtain ⟨j, h1, h2⟩ := nI_of (x := x) (fun q => by
    have := Int32.lt_iff_toInt_lt.mp q
    rw [Int32.toInt_zero] at this
    omega)
  exact ⟨j, h1, h2, by rw [h2, nI_toInt h1]⟩
theorem of_l {x : Int64} (h : 0 ≤ x.toInt) : ∃ n : Nat, n < 2 ^ 63 ∧ x = lN n ∧ x.toInt = n := by
  obtain ⟨j, h1, h2⟩ := pk_lOf (x := x) (fun q => by
    have := Int64.lt_iff_toInt_lt.mp q
    rw [Int64.toInt_zero] at this
    omega)
  exact ⟨j, h1, h2, by rw [h2, pk_lT h1]⟩
theorem i_lt {x y : Int32} : x < y ↔ x.toInt < y.toInt := Int32.lt_iff_toInt_lt
theorem i_le {x y : Int32} : x ≤ y ↔ x.toInt ≤ y.toInt := Int32.le_iff_toInt_le
theorem l_lt {x y : Int64} : x < y ↔ x.toInt < y.toInt := Int64.lt_iff_toInt_lt
theorem l_le {x y : Int64} : x ≤ y ↔ x.toInt ≤ y.toInt := Int64.le_iff_toInt_le
theorem i_eq {x y : Int32} : x = y ↔ x.toInt = y.toInt := Int32.toInt_inj.symm
theorem l_eq {x y : Int64} : x = y ↔ x.toInt = y.toInt := Int64.toInt_inj.symm
theorem il_t (x : Int32) : x.toInt64.toInt = x.toInt := Int32.toInt_toInt64 x
theorem ql_le {x y : Int64} {A B : Prop} (a b : Nat) (f : a ≤ b → A) (g : b < a → B) (hx : x = lN a := by rfl) (hy : y = lN b := by rfl) (ha : a < 2 ^ 63 := by omega) (hb : b < 2 ^ 63 := by omega) : (x ≤ y → A) ∧ (¬ x ≤ y → B) := by
  subst hx hy
  rw [pk_lLE ha hb]
  exact ⟨f, fun z => g (by omega)⟩
theorem ql_lt {x y : Int64} {A B : Prop} (a b : Nat) (f : a < b → A) (g : b ≤ a → B) (hx : x = lN a := by rfl) (hy : y = lN b := by rfl) (ha : a < 2 ^ 63 := by omega) (hb : b < 2 ^ 63 := by omega) : (x < y → A) ∧ (¬ x < y → B) := by
  subst hx hy
  rw [pk_lLT ha hb]
  exact ⟨f, fun z => g (by omega)⟩
theorem ql_eq {x y : Int64} {A B : Prop} (a b : Nat) (f : a = b → A) (g : a ≠ b → B) (hx : x = lN a := by rfl) (hy : y = lN b := by rfl) (ha : a < 2 ^ 63 := by omega) (hb : b < 2 ^ 63 := by omega) : (x = y → A) ∧ (¬ x = y → B) := by
  subst hx hy
  rw [pk_lEQ ha hb]
  exact ⟨f, g⟩
theorem nI_nz {n : Nat} (h0 : 0 < n) (h : n < 2 ^ 31) : ¬ nI n = 0 := nI_ne0 h0 h
theorem lN_nz {n : Nat} (h0 : 0 < n) (h : n < 2 ^ 63) : ¬ lN n = 0 := fun q => by
  have := (pk_lEQ h (by decide : 0 < 2 ^ 63)).mp q
  omega
end
section
/-! numbers, plain: primes, congruences, orders -/
def Pr (p : Nat) : Prop := 2 ≤ p ∧ ∀ d, d ∣ p → d = 1 ∨ d = p
theorem pr_cop {p a : Nat} (h : Pr p) (ha : ¬ p ∣ a) : Nat.Coprime p a := by
  rcases h.2 (Nat.gcd p a) (Nat.gcd_dvd_left p a) with e | e
  · exact e
  · exact absurd (e ▸ Nat.gcd_dvd_right p a) ha
theorem pr_dvd_mul {p a b : Nat} (h : Pr p) (hd : p ∣ a * b) : p ∣ a ∨ p ∣ b := by
  by_cases ha : p ∣ a
  · exact Or.inl ha
  · exact Or.inr ((pr_cop h ha).dvd_of_dvd_mul_left hd)
theorem pr_dvd_pow {p a : Nat} (h : Pr p) : ∀ {k : Nat}, p ∣ a ^ k → p ∣ a
  | 0, hd => by
    rw [Nat.pow_zero] at hd
    have := Nat.le_of_dvd (by omega) hd
    have := h.1
    omega
  | k + 1, hd => by
    rw [Nat.pow_succ] at hd
    rcases pr_dvd_mul h hd with q | q
    · exact pr_dvd_pow h q
    · exact q
theorem pr_eq {p q : Nat} (hp : Pr p) (hq : Pr q) (h : p ∣ q) : p = q := by
  rcases hq.2 p h with e | e
  · have := hp.1; omega
  · exact e
theorem pr_ex {n : Nat} (hn : 2 ≤ n) : ∃ p, Pr p ∧ p ∣ n ∧ ∀ j, 2 ≤ j → j ∣ n → p ≤ j := by
  obtain ⟨p, ⟨h1, h2⟩, h3⟩ := pk_least (fun k => 2 ≤ k ∧ k ∣ n) ⟨n, hn, Nat.dvd_refl n⟩
  have h4 : ∀ j, 2 ≤ j → j ∣ n → p ≤ j := fun j a b => Nat.not_lt.mp fun c => h3 j c ⟨a, b⟩
  refine ⟨p, ⟨h1, fun d hd => ?_⟩, h2, h4⟩
  have hp : 0 < p := by omega
  have hle := Nat.le_of_dvd hp hd
  by_cases h : 2 ≤ d
  · exact Or.inr (Nat.le_antisymm hle (h4 d h (Nat.dvd_trans hd h2)))
  · have : d ≠ 0 := fun e => by rw [e] at hd; have := Nat.eq_zero_of_zero_dvd hd; omega
    exact Or.inl (by omega)
/-- by trial: no divisor up to the root -/
theorem pr_trial {n : Nat} (hn : 2 ≤ n) (h : ∀ p, 2 ≤ p → p * p ≤ n → ¬ p ∣ n) : Pr n := by
  obtain ⟨p, hp, hd, hm⟩ := pr_ex hn
  by_cases hs : p * p ≤ n
  · exact absurd hd (h p hp.1 hs)
  · obtain ⟨k, hk⟩ := hd
    by_cases h1 : k = 1
    · rw [h1, Nat.mul_one] at hk; rw [hk]; exact hp
    · exfalso
      have hk0 : k ≠ 0 := fun e => by rw [e, Nat.mul_zero] at hk; omega
      have h2 := hm k (by omega) ⟨p, by rw [hk, Nat.mul_comm]⟩
      exact hs (by rw [hk]; exact Nat.mul_le_mul_left p h2)
theorem not_pr_of {n p : Nat} (h2 : 2 ≤ p) (hs : p * p ≤ n) (hd : p ∣ n) : ¬ Pr n := by
  intro h
  rcases h.2 p hd with e | e
  · omega
  · subst e
    have : p * 2 ≤ p * p := Nat.mul_le_mul_left p h2
    omega
theorem md_cancel {n c x y : Nat} (hc : Nat.Coprime n c) (h : c * x % n = c * y % n) : x % n = y % n := by
  have key : ∀ {x y : Nat}, c * x % n = c * y % n → y ≤ x → x % n = y % n := by
    intro x y h hl
    have h1 : (c * x - c * y) % n = 0 := Nat.sub_mod_eq_zero_of_mod_eq h
    rw [← Nat.mul_sub] at h1
    have h2 : n ∣ x - y := hc.dvd_of_dvd_mul_left (Nat.dvd_of_mod_eq_zero h1)
    obtain ⟨k, hk⟩ := h2
    have : x = y + n * k := by omega
    rw [this, Nat.add_mul_mod_self_left]
  rcases Nat.le_total y x with hl | hl
  · exact key h hl
  · exact (key h.symm hl).symm
theorem md_mul {n a b c d : Nat} (h1 : a % n = b % n) (h2 : c % n = d % n) : a * c % n = b * d % n := by
  rw [Nat.mul_mod, h1, h2, ← Nat.mul_mod]
theorem md_pow {n a b : Nat} (h : a % n = b % n) (k : Nat) : a ^ k % n = b ^ k % n := by
  rw [Nat.pow_mod, h, ← Nat.pow_mod]
theorem md_dvd {m n a b : Nat} (hd : m ∣ n) (h : a % n = b % n) : a % m = b % m := by
  rw [← Nat.mod_mod_of_dvd a hd, h, Nat.mod_mod_of_dvd b hd]
theorem md_iff {n a b : Nat} (hl : b ≤ a) : a % n = b % n ↔ n ∣ a - b := by
  constructor
  · intro h; exact Nat.dvd_of_mod_eq_zero (Nat.sub_mod_eq_zero_of_mod_eq h)
  · rintro ⟨k, hk⟩
    have : a = b + n * k := by omega
    rw [this, Nat.add_mul_mod_self_left]
/-- congruent by both of two that share nothing: by their product -/
theorem md_both {m n a b : Nat} (hc : Nat.Coprime m n) (h1 : a % m = b % m) (h2 : a % n = b % n) : a % (m * n) = b % (m * n) := by
  have key : ∀ {a b : Nat}, b ≤ a → a % m = b % m → a % n = b % n → a % (m * n) = b % (m * n) := by
    intro a b hl h1 h2
    exact (md_iff hl).mpr (hc.mul_dvd_of_dvd_of_dvd ((md_iff hl).mp h1) ((md_iff hl).mp h2))
  rcases Nat.le_total b a with hl | hl
  · exact key hl h1 h2
  · exact (key hl h1.symm h2.symm).symm
theorem md_split {m n a b : Nat} (hc : Nat.Coprime m n) : a % (m * n) = b % (m * n) ↔ a % m = b % m ∧ a % n = b % n :=
  ⟨fun h => ⟨md_dvd (Nat.dvd_mul_right m n) h, md_dvd (Nat.dvd_mul_left n m) h⟩, fun h => md_both hc h.1 h.2⟩
theorem cop_mod {n a : Nat} : Nat.gcd n (a % n) = Nat.gcd n a := by
  rw [Nat.gcd_comm n (a % n), ← Nat.gcd_rec, ]
def IsOrd (n a e : Nat) : Prop := 0 < e ∧ a ^ e % n = 1 % n ∧ ∀ k, 0 < k → k < e → ¬ a ^ k % n = 1 % n
theorem pow_one_mul {n a e : Nat} (h : a ^ e % n = 1 % n) (k : Nat) : a ^ (e * k) % n = 1 % n := by
  rw [Nat.pow_mul]
  have := md_pow h k
  rw [this, Nat.one_pow]
theorem pow_one_dvd {n a e k : Nat} (h : a ^ e % n = 1 % n) (hd : e ∣ k) : a ^ k % n = 1 % n := by
  obtain ⟨q, rfl⟩ := hd
  exact pow_one_mul h q
theorem pow_mod_ord {n a e : Nat} (h : a ^ e % n = 1 % n) (k : Nat) : a ^ k % n = a ^ (k % e) % n := by
  have h1 : a ^ k = a ^ (e * (k / e)) * a ^ (k % e) := by rw [← Nat.pow_add, Nat.div_add_mod]
  rw [h1]
  have := md_mul (pow_one_mul h (k / e)) (rfl : a ^ (k % e) % n = a ^ (k % e) % n)
  rw [this, Nat.one_mul]
theorem ord_dvd {n a e k : Nat} (h : IsOrd n a e) (hk : a ^ k % n = 1 % n) : e ∣ k := by
  apply Nat.dvd_of_mod_eq_zero
  apply Classical.byContradiction
  intro hr
  have h1 := pow_mod_ord h.2.1 k
  rw [hk] at h1
  exact h.2.2 (k % e) (Nat.pos_of_ne_zero hr) (Nat.mod_lt _ h.1) h1.symm
theorem ord_iff {n a e k : Nat} (h : IsOrd n a e) : a ^ k % n = 1 % n ↔ e ∣ k := ⟨ord_dvd h, fun hd => pow_one_dvd h.2.1 hd⟩
theorem ord_of {n a e : Nat} (h : ∀ k, a ^ k % n = 1 % n ↔ e ∣ k) (he : 0 < e) : IsOrd n a e :=
  ⟨he, (h e).mpr (Nat.dvd_refl e), fun k h1 h2 h3 => by
    have := Nat.le_of_dvd h1 ((h k).mp h3)
    omega⟩
theorem ord_one {n a e f : Nat} (h : IsOrd n a e) (h2 : IsOrd n a f) : e = f :=
  Nat.dvd_antisymm (ord_dvd h h2.2.1) (ord_dvd h2 h.2.1)
theorem pow_cop {n a : Nat} (h : Nat.Coprime n a) (k : Nat) : Nat.Coprime n (a ^ k) := h.pow_right k
theorem cop_of_pow {n a k : Nat} (hk : 0 < k) (h : a ^ k % n = 1 % n) : Nat.Coprime n a := by
  have h1 : Nat.gcd n (a ^ k) = 1 := by
    rw [← cop_mod, h, cop_mod]; exact Nat.gcd_one_right n
  have h2 : Nat.Coprime n (a ^ k) := h1
  refine Nat.Coprime.coprime_dvd_right ?_ h2
  obtain ⟨j, rfl⟩ : ∃ j, k = j + 1 := ⟨k - 1, by omega⟩
  rw [Nat.pow_succ]
  exact Nat.dvd_mul_left a (a ^ j)
end
section
/-! numbers: how many -/
/-- an injection of those of p (below n) into those of q (below m): no more -/
theorem ct_inj {p : Nat → Bool} : ∀ {n m : Nat} {q : Nat → Bool} (f : Nat → Nat), (∀ i, i < n → p i = true → f i < m ∧ q (f i) = true) → (∀ i j, i < n → j < n → p i = true → p j = true → f i = f j → i = j) → fb_ct p n ≤ fb_ct q m
  | 0, _, _, _, _, _ => Nat.zero_le _
  | n + 1, m, q, f, hf, hi => by
    rw [fb_ct_succ]
    by_cases hp : p n = true
    · obtain ⟨h1, h2⟩ := hf n (Nat.lt_succ_self n) hp
      have hu := fb_ct_upd q false h1
      rw [h2] at hu
      have ih : fb_ct p n ≤ fb_ct (fun k => if k = f n then false else q k) m := by
        refine ct_inj f (fun i hin hpi => ?_) (fun i j a b => hi i j (by omega) (by omega))
        obtain ⟨h3, h4⟩ := hf i (by omega) hpi
        refine ⟨h3, ?_⟩
        have hne : ¬ f i = f n := fun e => by
          have := hi i n (by omega) (by omega) hpi hp e
          omega
        simp [hne, h4]
      rw [if_pos rfl, if_neg (by decide)] at hu
      rw [if_pos hp]
      omega
    · rw [if_neg hp]
      exact ct_inj f (fun i a => hf i (by omega)) (fun i j a b => hi i j (by omega) (by omega))
theorem ct_mul_pair (P Q : Nat → Bool) {m : Nat} (hm : 0 < m) : ∀ k, fb_ct (fun c => P (c % m) && Q (c / m)) (m * k) = fb_ct P m * fb_ct Q k
  | 0 => by rw [Nat.mul_zero]; rfl
  | k + 1 => by
    rw [Nat.mul_succ, fb_ct_split, ct_mul_pair P Q hm k, fb_ct_succ]
    have h : fb_ct (fun i => P ((m * k + i) % m) && Q ((m * k + i) / m)) m = fb_ct (fun i => P i && Q k) m := by
      apply fb_ct_cong
      intro i hi
      rw [Nat.mul_add_mod, Nat.mod_eq_of_lt hi, Nat.mul_add_div hm, Nat.div_eq_of_lt hi, Nat.add_zero]
    rw [h]
    by_cases hq : Q k = true
    · rw [if_pos hq, Nat.mul_add, Nat.mul_one]
      congr 1
      apply fb_ct_cong
      intro i _
      rw [hq, Bool.and_true]
    · rw [if_neg hq, Nat.add_zero]
      have h0 : fb_ct (fun i => P i && Q k) m = 0 := fb_ct_zero.mpr (fun i _ => by
        rw [show Q k = false by simpa using hq, Bool.and_false])
      rw [h0, Nat.add_zero]
/-- the pair of rests tells the number -/
theorem crt_inj {m k a b : Nat} (hc : Nat.Coprime m k) (ha : a < m * k) (hb : b < m * k) (h1 : a % m = b % m) (h2 : a % k = b % k) : a = b := by
  have := md_both hc h1 h2
  rwa [Nat.mod_eq_of_lt ha, Nat.mod_eq_of_lt hb] at this
theorem crt_code {m : Nat} (hm : 0 < m) {i j i' j' : Nat} (hi : i < m) (hi' : i' < m) (h : i + m * j = i' + m * j') : i = i' ∧ j = j' := by
  have h1 : (i + m * j) % m = (i' + m * j') % m := by rw [h]
  rw [Nat.add_mul_mod_self_left, Nat.add_mul_mod_self_left, Nat.mod_eq_of_lt hi, Nat.mod_eq_of_lt hi'] at h1
  subst h1
  exact ⟨rfl, Nat.eq_of_mul_eq_mul_left hm (by omega)⟩
theorem crt_lt {m k i j : Nat} (hi : i < m) (hj : j < k) : i + m * j < m * k := by
  have : m * (j + 1) ≤ m * k := Nat.mul_le_mul_left m hj
  rw [Nat.mul_succ] at this
  omega
theorem crt_ex {m k : Nat} (hc : Nat.Coprime m k) (hm : 0 < m) (hk : 0 < k) {i j : Nat} (hi : i < m) (hj : j < k) : ∃ a, a < m * k ∧ a % m = i ∧ a % k = j := by
  obtain ⟨a, h1, h2⟩ := fb_onto (n := m * k) (f := fun a => a % m + m * (a % k)) (fun a _ => crt_lt (Nat.mod_lt a hm) (Nat.mod_lt a hk)) (fun a b hab hb e => by
    obtain ⟨e1, e2⟩ := crt_code hm (Nat.mod_lt a hm) (Nat.mod_lt b hm) e
    have := crt_inj hc (by omega) hb e1 e2
    omega) (crt_lt hi hj)
  obtain ⟨e1, e2⟩ := crt_code hm (Nat.mod_lt a hm) hi h2
  exact ⟨a, h1, e1, e2⟩
/-- how many do by both: the product -/
theorem ct_crt (P Q : Nat → Bool) {m k : Nat} (hc : Nat.Coprime m k) (hm : 0 < m) (hk : 0 < k) : fb_ct (fun a => P (a % m) && Q (a % k)) (m * k) = fb_ct P m * fb_ct Q k := by
  rw [← ct_mul_pair P Q hm k]
  apply Nat.le_antisymm
  · refine ct_inj (fun a => a % m + m * (a % k)) (fun a ha h => ⟨crt_lt (Nat.mod_lt a hm) (Nat.mod_lt a hk), ?_⟩) (fun a b ha hb _ _ e => ?_)
    · rw [Nat.add_mul_mod_self_left, Nat.mod_mod, Nat.add_mul_div_left _ _ hm, Nat.div_eq_of_lt (Nat.mod_lt a hm), Nat.zero_add]
      exact h
    · obtain ⟨e1, e2⟩ := crt_code hm (Nat.mod_lt a hm) (Nat.mod_lt b hm) e
      exact crt_inj hc ha hb e1 e2
  · have hex : ∀ c, c < m * k → ∃ a, a < m * k ∧ a % m = c % m ∧ a % k = c / m := fun c hcl => crt_ex hc hm hk (Nat.mod_lt c hm) (Nat.div_lt_of_lt_mul hcl)
    refine ct_inj (fun c => if h : c < m * k then Classical.choose (hex c h) else 0) (fun c hcl h => ?_) (fun c d h1 h2 _ _ e => ?_)
    · have hs := Classical.choose_spec (hex c hcl)
      simp only [dif_pos hcl]
      refine ⟨hs.1, ?_⟩
      rw [hs.2.1, hs.2.2]
      exact h
    · simp only [dif_pos h1, dif_pos h2] at e
      have s1 := Classical.choose_spec (hex c h1)
      have s2 := Classical.choose_spec (hex d h2)
      rw [e] at s1
      have a1 : c % m = d % m := s1.2.1.symm.trans s2.2.1
      have a2 : c / m = d / m := s1.2.2.symm.trans s2.2.2
      rw [← Nat.div_add_mod c m, ← Nat.div_add_mod d m, a1, a2]
/-- the multiples of s below s d -/
theorem ct_mult {s : Nat} (hs : 0 < s) : ∀ d, fb_ct (fun j => decide (s ∣ j)) (s * d) = d
  | 0 => by rw [Nat.mul_zero]; rfl
  | d + 1 => by
    rw [Nat.mul_succ, fb_ct_split, ct_mult hs d]
    congr 1
    obtain ⟨s', rfl⟩ : ∃ s', s = s' + 1 := ⟨s - 1, by omega⟩
    rw [Nat.add_comm s' 1, fb_ct_split]
    have h1 : fb_ct (fun k => decide (1 + s' ∣ (1 + s') * d + k)) 1 = 1 := by
      rw [fb_ct_succ]
      simp [fb_ct, Nat.dvd_mul_right]
    have h2 : fb_ct (fun k => decide (1 + s' ∣ (1 + s') * d + (1 + k))) s' = 0 := fb_ct_zero.mpr (fun k hk => by
      rw [decide_eq_false_iff_not]
      intro hd
      have h3 : 1 + s' ∣ 1 + k := (Nat.dvd_add_right (Nat.dvd_mul_right _ _)).mp hd
      have := Nat.le_of_dvd (by omega) h3
      omega)
    rw [h1, h2]
/-- how many j below m have m | j e -/
theorem ct_kill {m e : Nat} (hm : 0 < m) : fb_ct (fun j => decide (m ∣ j * e)) m = Nat.gcd e m := by
  have hd : 0 < Nat.gcd e m := Nat.gcd_pos_of_pos_right e hm
  obtain ⟨s, hs⟩ := Nat.gcd_dvd_right e m
  obtain ⟨t, ht⟩ := Nat.gcd_dvd_left e m
  have hs0 : 0 < s := Nat.pos_of_ne_zero fun h => by rw [h, Nat.mul_zero] at hs; omega
  have hco : Nat.Coprime s t := by
    have h1 := Nat.gcd_mul_left (Nat.gcd e m) t s
    rw [← ht, ← hs] at h1
    have h2 : Nat.gcd e m * 1 = Nat.gcd e m * Nat.gcd t s := by rw [← h1, Nat.mul_one]
    have h3 := Nat.eq_of_mul_eq_mul_left hd h2
    exact (Nat.gcd_comm s t).trans h3.symm
  have h4 : fb_ct (fun j => decide (m ∣ j * e)) m = fb_ct (fun j => decide (s ∣ j)) (s * Nat.gcd e m) := by
    have hm2 : m = s * Nat.gcd e m := by rw [Nat.mul_comm]; exact hs
    rw [← hm2]
    apply fb_ct_cong
    intro j _
    apply decide_eq_decide.mpr
    constructor
    · intro h
      have h5 : Nat.gcd e m * s ∣ Nat.gcd e m * (j * t) := by
        rw [← hs, Nat.mul_left_comm, ← ht]; exact h
      exact hco.dvd_of_dvd_mul_right (Nat.dvd_of_mul_dvd_mul_left hd h5)
    · rintro ⟨q, rfl⟩
      exact ⟨q * t, by
        have a1 : e = Nat.gcd e m * t := ht
        have a2 : m = Nat.gcd e m * s := hs
        calc s * q * e = s * q * (Nat.gcd e m * t) := by rw [← a1]
          _ = Nat.gcd e m * s * (q * t) := by
            rw [Nat.mul_comm (s * q), Nat.mul_assoc, Nat.mul_left_comm t, Nat.mul_assoc, Nat.mul_comm t q]
          _ = m * (q * t) := by rw [← a2]⟩
  rw [h4, ct_mult hs0]
/-- a unit's powers come to one -/
theorem ord_ex {n a : Nat} (hn : 0 < n) (hc : Nat.Coprime n a) : ∃ e, IsOrd n a e ∧ e ≤ n := by
  obtain ⟨i, j, h1, h2, h3⟩ := fb_twice (m := n) (n := n + 1) (f := fun i => a ^ i % n) (fun i _ => Nat.mod_lt _ hn) (Nat.lt_succ_self n)
  have h4 : a ^ (j - i) % n = 1 % n := by
    apply md_cancel (pow_cop hc i)
    rw [← Nat.pow_add, Nat.mul_one, Nat.add_sub_cancel' (by omega)]
    exact h3.symm
  obtain ⟨e, ⟨k1, k2⟩, k3⟩ := pk_least (fun e => 0 < e ∧ a ^ e % n = 1 % n) ⟨j - i, by omega, h4⟩
  refine ⟨e, ⟨k1, k2, fun k a1 a2 a3 => k3 k a2 ⟨a1, a3⟩⟩, ?_⟩
  have : ¬ (j - i) < e := fun h => k3 _ h ⟨by omega, h4⟩
  omega
end
section
set_option maxHeartbeats 4000000 in
set_option maxRecDepth 100000 in
theorem met_X7_in (l : Launch) (p0 : Int64) (p1 : Int64) (p2 : Int64) (post : Int32 → Prop)
  (hV : ((p0 < p1 → post (0 : Int32)) ∧ (¬ p0 < p1 → ((p2 < p0 → post (0 : Int32)) ∧ (¬ p2 < p0 → post (1 : Int32)))))) :
  Met l yX7_in wsX7_in ({ frames := 0, cells := 0, slots := 0, locals := 0 } : Room) (va_Pc [.long p0, .long p1, .long p2] (fun _ => True)) (Qpi post) 0 0 noF := by
  refine Met.ofW (cc := cX7_in) (maxL := 6) (ret := (some .boolean)) (by decide) rfl ?_
  intro p e s m args below meth c s₁ B hml hv
  obtain ⟨rfl, -⟩ := hv
  have hx := B.exec
  have hb := B.bytes
  have hr := B.returns
  have hts := atoms_spec (ws := wsX7_in) B.pre
  have hown : s.vm.findClass RX7 = some m.cls := findClass_of_methodNamed B.named
  have hlocks := B.notSynchronized
  have hl := lv_entry ([.long p0, .long p1, .long p2]) (n := 6) (Nat.le_of_ble_eq_true rfl)
  rw [lg_entry_eq]
  generalize (lg_sl ([.long p0, .long p1, .long p2]) ++ List.replicate (6 - (lg_sl ([.long p0, .long p1, .long p2])).length) Slot.unset).toArray = ls at hl ⊢
  have hl : lv_has ls 6 [(0, .long p0), (2, .long p1), (4, .long p2)] := hl
  refine lv_lload_n hx hb dX7_in_0 rfl (lv_at hl 0 rfl) ?_
  refine lv_lload_n hx hb dX7_in_1 rfl (lv_at hl 1 rfl) ?_
  refine lc_lt (tgt := 17) hx hb dX7_in_2 dX7_in_3 (by decide) (fun c_2 => ?_) (fun c_2 => ?_)
  · have hV := hV.1 c_2
    refine lv_iconst (v := (0 : Int32)) hx hb dX7_in_17 (by decide) ?_
    exact W.zret (v := (0 : Int32)) hx hb hr rfl (fun t ht hW => ⟨_, rfl, hV, ht⟩) (fun _ h => by cases h) dX7_in_18
  · have hV := hV.2 c_2
    refine lv_lload_n hx hb dX7_in_6 rfl (lv_at hl 0 rfl) ?_
    refine lv_lload hx hb dX7_in_7 (lv_at hl 2 rfl) ?_
    refine lc_gt (tgt := 17) hx hb dX7_in_9 dX7_in_10 (by decide) (fun c_9 => ?_) (fun c_9 => ?_)
    · have hV := hV.1 c_9
      refine lv_iconst (v := (0 : Int32)) hx hb dX7_in_17 (by decide) ?_
      exact W.zret (v := (0 : Int32)) hx hb hr rfl (fun t ht hW => ⟨_, rfl, hV, ht⟩) (fun _ h => by cases h) dX7_in_18
    · have hV := hV.2 c_9
      refine lv_iconst (v := (1 : Int32)) hx hb dX7_in_13 (by decide) ?_
      refine lv_goto (tgt := 18) hx hb dX7_in_14 (by decide) ?_
      exact W.zret (v := (1 : Int32)) hx hb hr rfl (fun t ht hW => ⟨_, rfl, hV, ht⟩) (fun _ h => by cases h) dX7_in_18
def post_X7_in (p0 p1 p2 : Int64) (r : Int32) : Prop := r = zb (p1.toInt ≤ p0.toInt ∧ p0.toInt ≤ p2.toInt)
set_option maxRecDepth 4000 in
theorem spec_X7_in (l : Launch) (p0 : Int64) (p1 : Int64) (p2 : Int64) : Met l yX7_in wsX7_in ({ frames := 0, cells := 0, slots := 0, locals := 0 } : Room) (va_Pc [.long p0, .long p1, .long p2] (fun _ => True)) (Qpi (post_X7_in p0 p1 p2)) 0 0 noF := by
  apply met_X7_in
  unfold post_X7_in
  simp only [l_lt]
  refine ⟨fun h => (zb_f (by omega)).symm, fun h => ⟨fun h2 => (zb_f (by omega)).symm, fun h2 => (zb_t (by omega)).symm⟩⟩
set_option maxHeartbeats 4000000 in
set_option maxRecDepth 100000 in
theorem met_X7_isBy (l : Launch) (p0 : Int32) (post : Int32 → Prop)
  (hV : ∀ r8 : Int32, post_X7_in p0.toInt64 (2 : Int64) (50000 : Int64) r8 → (r8 = 0 ∨ r8 = 1) ∧ post r8) :
  Met l yX7_isBy wsX7_isBy ({ frames := 1, cells := 0, slots := 0, locals := 25 } : Room) (va_Pc [.int p0] (fun _ => True)) (Qpi post) 0 0 noF := by
  refine Met.ofW (cc := cX7_isBy) (maxL := 1) (ret := (some .boolean)) (by decide) rfl ?_
  intro p e s m args below meth c s₁ B hml hv
  obtain ⟨rfl, -⟩ := hv
  have hx := B.exec
  have hb := B.bytes
  have hr := B.returns
  have hts := atoms_spec (ws := wsX7_isBy) B.pre
  have hown : s.vm.findClass RX7 = some m.cls := findClass_of_methodNamed B.named
  have hlocks := B.notSynchronized
  have hl := lv_entry ([.int p0]) (n := 1) (Nat.le_of_ble_eq_true rfl)
  rw [lg_entry_eq]
  generalize (lg_sl ([.int p0]) ++ List.replicate (1 - (lg_sl ([.int p0])).length) Slot.unset).toArray = ls at hl ⊢
  have hl : lv_has ls 1 [(0, .int p0)] := hl
  refine lv_iload_n hx hb dX7_isBy_0 rfl (lv_at hl 0 rfl) ?_
  refine lv_i2l (v := p0.toInt64) hx hb dX7_isBy_1 rfl ?_
  refine lv_ldc2 (v := (2 : Int64)) hx hb hown (hts (.constantLong RX7 56 (2)) (by decide +kernel)) dX7_isBy_2 ?_
  refine lv_ldc2 (v := (50000 : Int64)) hx hb hown (hts (.constantLong RX7 58 (50000)) (by decide +kernel)) dX7_isBy_5 ?_
  refine cp_i (va_runS (As := [.long p0.toInt64, .long (2 : Int64), .long (50000 : Int64)]) (rest := []) ⟨hx, hb, hml, hown, hts⟩ (spec_X7_in l p0.toInt64 (2 : Int64) (50000 : Int64)) (va_cwS 3 hts gX7_isBy_X7_in rfl rfl rfl (by decide +kernel) ⟨Nat.le_of_ble_eq_true rfl, Nat.le_of_ble_eq_true rfl⟩) cp_pre rfl rfl hl.1 rfl (lv_room (Nat.le_of_ble_eq_true rfl)) dX7_isBy_8 ⟨Nat.zero_le _, Nat.zero_le _⟩) (fun r8 q_8 => ?_)
  have hV := hV r8 q_8
  obtain ⟨h_11, hV⟩ := hV
  exact W.zret (v := r8) hx hb hr (zr_nar h_11) (fun t ht hW => ⟨_, rfl, hV, ht⟩) (fun _ h => by cases h) dX7_isBy_11
def post_X7_isBy (p0 r : Int32) : Prop := r = zb (2 ≤ p0.toInt ∧ p0.toInt ≤ 50000)
set_option maxRecDepth 4000 in
theorem spec_X7_isBy (l : Launch) (p0 : Int32) : Met l yX7_isBy wsX7_isBy ({ frames := 1, cells := 0, slots := 0, locals := 25 } : Room) (va_Pc [.int p0] (fun _ => True)) (Qpi (post_X7_isBy p0)) 0 0 noF := by
  apply met_X7_isBy
  intro r h
  unfold post_X7_in at h
  rw [il_t] at h
  exact ⟨h ▸ zb_01 _, h⟩
set_option maxHeartbeats 4000000 in
set_option maxRecDepth 100000 in
theorem met_X6_isDivisor (l : Launch) (p0 : Int32) (post : Int32 → Prop)
  (hV : ((p0 < (2 : Int32) → post (0 : Int32)) ∧ (¬ p0 < (2 : Int32) → (((50000 : Int32) < p0 → post (0 : Int32)) ∧ (¬ (50000 : Int32) < p0 → post (1 : Int32)))))) :
  Met l yX6_isDivisor wsX6_isDivisor ({ frames := 0, cells := 0, slots := 0, locals := 0 } : Room) (va_Pc [.int p0] (fun _ => True)) (Qpi post) 0 0 noF := by
  refine Met.ofW (cc := cX6_isDivisor) (maxL := 1) (ret := (some .boolean)) (by decide) rfl ?_
  intro p e s m args below meth c s₁ B hml hv
  obtain ⟨rfl, -⟩ := hv
  have hx := B.exec
  have hb := B.bytes
  have hr := B.returns
  have hts := atoms_spec (ws := wsX6_isDivisor) B.pre
  have hown : s.vm.findClass RX6 = some m.cls := findClass_of_methodNamed B.named
  have hlocks := B.notSynchronized
  have hl := lv_entry ([.int p0]) (n := 1) (Nat.le_of_ble_eq_true rfl)
  rw [lg_entry_eq]
  generalize (lg_sl ([.int p0]) ++ List.replicate (1 - (lg_sl ([.int p0])).length) Slot.unset).toArray = ls at hl ⊢
  have hl : lv_has ls 1 [(0, .int p0)] := hl
  refine lv_iload_n hx hb dX6_isDivisor_0 rfl (lv_at hl 0 rfl) ?_
  refine lv_iconst (v := (2 : Int32)) hx hb dX6_isDivisor_1 (by decide) ?_
  refine lv_icmp_lt (tgt := 15) hx hb dX6_isDivisor_2 (by decide) (fun c_2 => ?_) (fun c_2 => ?_)
  · have hV := hV.1 c_2
    refine lv_iconst (v := (0 : Int32)) hx hb dX6_isDivisor_15 (by decide) ?_
    exact W.zret (v := (0 : Int32)) hx hb hr rfl (fun t ht hW => ⟨_, rfl, hV, ht⟩) (fun _ h => by cases h) dX6_isDivisor_16
  · have hV := hV.2 c_2
    refine lv_iload_n hx hb dX6_isDivisor_5 rfl (lv_at hl 0 rfl) ?_
    refine lv_ldc (v := (50000 : Int32)) hx hb hown (hts (.constant RX6 77 (50000)) (by decide +kernel)) dX6_isDivisor_6 ?_
    refine lv_icmp_gt (tgt := 15) hx hb dX6_isDivisor_8 (by decide) (fun c_8 => ?_) (fun c_8 => ?_)
    · have hV := hV.1 c_8
      refine lv_iconst (v := (0 : Int32)) hx hb dX6_isDivisor_15 (by decide) ?_
      exact W.zret (v := (0 : Int32)) hx hb hr rfl (fun t ht hW => ⟨_, rfl, hV, ht⟩) (fun _ h => by cases h) dX6_isDivisor_16
    · have hV := hV.2 c_8
      refine lv_iconst (v := (1 : Int32)) hx hb dX6_isDivisor_11 (by decide) ?_
      refine lv_goto (tgt := 16) hx hb dX6_isDivisor_12 (by decide) ?_
      exact W.zret (v := (1 : Int32)) hx hb hr rfl (fun t ht hW => ⟨_, rfl, hV, ht⟩) (fun _ h => by cases h) dX6_isDivisor_16
def post_X6_isDivisor (p0 r : Int32) : Prop := r = zb (2 ≤ p0.toInt ∧ p0.toInt ≤ 50000)
set_option maxRecDepth 4000 in
theorem spec_X6_isDivisor (l : Launch) (p0 : Int32) : Met l yX6_isDivisor wsX6_isDivisor ({ frames := 0, cells := 0, slots := 0, locals := 0 } : Room) (va_Pc [.int p0] (fun _ => True)) (Qpi (post_X6_isDivisor p0)) 0 0 noF := by
  apply met_X6_isDivisor
  unfold post_X6_isDivisor
  simp only [i_lt]
  have e1 : (2 : Int32).toInt = 2 := rfl
  have e2 : (50000 : Int32).toInt = 50000 := rfl
  rw [e1, e2]
  refine ⟨fun h => (zb_f (by omega)).symm, fun h => ⟨fun h2 => (zb_f (by omega)).symm, fun h2 => (zb_t (by omega)).symm⟩⟩
set_option maxHeartbeats 4000000 in
set_option maxRecDepth 100000 in
theorem met_X6_isRest (l : Launch) (p0 : Int32) (p1 : Int32) (post : Int32 → Prop)
  (hV : ((p0 < 0 → post (0 : Int32)) ∧ (¬ p0 < 0 → ((p1 ≤ p0 → post (0 : Int32)) ∧ (¬ p1 ≤ p0 → post (1 : Int32)))))) :
  Met l yX6_isRest wsX6_isRest ({ frames := 0, cells := 0, slots := 0, locals := 0 } : Room) (va_Pc [.int p0, .int p1] (fun _ => True)) (Qpi post) 0 0 noF := by
  refine Met.ofW (cc := cX6_isRest) (maxL := 2) (ret := (some .boolean)) (by decide) rfl ?_
  intro p e s m args below meth c s₁ B hml hv
  obtain ⟨rfl, -⟩ := hv
  have hx := B.exec
  have hb := B.bytes
  have hr := B.returns
  have hts := atoms_spec (ws := wsX6_isRest) B.pre
  have hown : s.vm.findClass RX6 = some m.cls := findClass_of_methodNamed B.named
  have hlocks := B.notSynchronized
  have hl := lv_entry ([.int p0, .int p1]) (n := 2) (Nat.le_of_ble_eq_true rfl)
  rw [lg_entry_eq]
  generalize (lg_sl ([.int p0, .int p1]) ++ List.replicate (2 - (lg_sl ([.int p0, .int p1])).length) Slot.unset).toArray = ls at hl ⊢
  have hl : lv_has ls 2 [(0, .int p0), (1, .int p1)] := hl
  refine lv_iload_n hx hb dX6_isRest_0 rfl (lv_at hl 0 rfl) ?_
  refine lv_if_lt (tgt := 13) hx hb dX6_isRest_1 (by decide) (fun c_1 => ?_) (fun c_1 => ?_)
  · have hV := hV.1 c_1
    refine lv_iconst (v := (0 : Int32)) hx hb dX6_isRest_13 (by decide) ?_
    exact W.zret (v := (0 : Int32)) hx hb hr rfl (fun t ht hW => ⟨_, rfl, hV, ht⟩) (fun _ h => by cases h) dX6_isRest_14
  · have hV := hV.2 c_1
    refine lv_iload_n hx hb dX6_isRest_4 rfl (lv_at hl 0 rfl) ?_
    refine lv_iload_n hx hb dX6_isRest_5 rfl (lv_at hl 1 rfl) ?_
    refine lv_icmp_ge (tgt := 13) hx hb dX6_isRest_6 (by decide) (fun c_6 => ?_) (fun c_6 => ?_)
    · have hV := hV.1 c_6
      refine lv_iconst (v := (0 : Int32)) hx hb dX6_isRest_13 (by decide) ?_
      exact W.zret (v := (0 : Int32)) hx hb hr rfl (fun t ht hW => ⟨_, rfl, hV, ht⟩) (fun _ h => by cases h) dX6_isRest_14
    · have hV := hV.2 c_6
      refine lv_iconst (v := (1 : Int32)) hx hb dX6_isRest_9 (by decide) ?_
      refine lv_goto (tgt := 14) hx hb dX6_isRest_10 (by decide) ?_
      exact W.zret (v := (1 : Int32)) hx hb hr rfl (fun t ht hW => ⟨_, rfl, hV, ht⟩) (fun _ h => by cases h) dX6_isRest_14
def post_X6_isRest (p0 p1 r : Int32) : Prop := r = zb (0 ≤ p0.toInt ∧ p0.toInt < p1.toInt)
set_option maxRecDepth 4000 in
theorem spec_X6_isRest (l : Launch) (p0 : Int32) (p1 : Int32) : Met l yX6_isRest wsX6_isRest ({ frames := 0, cells := 0, slots := 0, locals := 0 } : Room) (va_Pc [.int p0, .int p1] (fun _ => True)) (Qpi (post_X6_isRest p0 p1)) 0 0 noF := by
  apply met_X6_isRest
  unfold post_X6_isRest
  simp only [i_lt, i_le]
  rw [Int32.toInt_zero]
  refine ⟨fun h => (zb_f (by omega)).symm, fun h => ⟨fun h2 => (zb_f (by omega)).symm, fun h2 => (zb_t (by omega)).symm⟩⟩
def pre_X7_isRest (p0 p1 : Int32) : Prop := 1 ≤ p0.toInt
set_option maxHeartbeats 4000000 in
set_option maxRecDepth 100000 in
theorem met_X7_isRest (l : Launch) (p0 : Int32) (p1 : Int32) (post : Int32 → Prop)
  (hV : ∀ r7 : Int32, post_X7_in p1.toInt64 (0 : Int64) ((p0 - (1 : Int32)).toInt64) r7 → (r7 = 0 ∨ r7 = 1) ∧ post r7) :
  Met l yX7_isRest wsX7_isRest ({ frames := 1, cells := 0, slots := 0, locals := 25 } : Room) (va_Pc [.int p0, .int p1] (fun _ => True)) (Qpi post) 0 0 noF := by
  refine Met.ofW (cc := cX7_isRest) (maxL := 2) (ret := (some .boolean)) (by decide) rfl ?_
  intro p e s m args below meth c s₁ B hml hv
  obtain ⟨rfl, -⟩ := hv
  have hx := B.exec
  have hb := B.bytes
  have hr := B.returns
  have hts := atoms_spec (ws := wsX7_isRest) B.pre
  have hown : s.vm.findClass RX7 = some m.cls := findClass_of_methodNamed B.named
  have hlocks := B.notSynchronized
  have hl := lv_entry ([.int p0, .int p1]) (n := 2) (Nat.le_of_ble_eq_true rfl)
  rw [lg_entry_eq]
  generalize (lg_sl ([.int p0, .int p1]) ++ List.replicate (2 - (lg_sl ([.int p0, .int p1])).length) Slot.unset).toArray = ls at hl ⊢
  have hl : lv_has ls 2 [(0, .int p0), (1, .int p1)] := hl
  refine lv_iload_n hx hb dX7_isRest_0 rfl (lv_at hl 1 rfl) ?_
  refine lv_i2l (v := p1.toInt64) hx hb dX7_isRest_1 rfl ?_
  refine lv_lconst (v := (0 : Int64)) hx hb dX7_isRest_2 (by decide) ?_
  refine lv_iload_n hx hb dX7_isRest_3 rfl (lv_at hl 0 rfl) ?_
  refine lv_iconst (v := (1 : Int32)) hx hb dX7_isRest_4 (by decide) ?_
  refine lv_isub hx hb dX7_isRest_5 ?_
  refine lv_i2l (v := (p0 - (1 : Int32)).toInt64) hx hb dX7_isRest_6 rfl ?_
  refine cp_i (va_runS (As := [.long p1.toInt64, .long (0 : Int64), .long ((p0 - (1 : Int32)).toInt64)]) (rest := []) ⟨hx, hb, hml, hown, hts⟩ (spec_X7_in l p1.toInt64 (0 : Int64) ((p0 - (1 : Int32)).toInt64)) (va_cwS 3 hts gX7_isRest_X7_in rfl rfl rfl (by decide +kernel) ⟨Nat.le_of_ble_eq_true rfl, Nat.le_of_ble_eq_true rfl⟩) cp_pre rfl rfl hl.1 rfl (lv_room (Nat.le_of_ble_eq_true rfl)) dX7_isRest_7 ⟨Nat.zero_le _, Nat.zero_le _⟩) (fun r7 q_7 => ?_)
  have hV := hV r7 q_7
  obtain ⟨h_10, hV⟩ := hV
  exact W.zret (v := r7) hx hb hr (zr_nar h_10) (fun t ht hW => ⟨_, rfl, hV, ht⟩) (fun _ h => by cases h) dX7_isRest_10
def post_X7_isRest (p0 p1 r : Int32) : Prop := r = zb (0 ≤ p1.toInt ∧ p1.toInt < p0.toInt)
set_option maxRecDepth 4000 in
theorem spec_X7_isRest (l : Launch) (p0 : Int32) (p1 : Int32) (hpre : pre_X7_isRest p0 p1) : Met l yX7_isRest wsX7_isRest ({ frames := 1, cells := 0, slots := 0, locals := 25 } : Room) (va_Pc [.int p0, .int p1] (fun _ => True)) (Qpi (post_X7_isRest p0 p1)) 0 0 noF := by
  apply met_X7_isRest
  intro r h
  unfold post_X7_in at h
  obtain ⟨n, hn, rfl, hn2⟩ := of_i (x := p0) (by unfold pre_X7_isRest at hpre; omega)
  have hn1 : 1 ≤ n := by unfold pre_X7_isRest at hpre; omega
  have e : nI n - 1 = nI (n - 1) := pk_sub (a := n) (b := 1) hn1
  rw [e, il_t, il_t, nI_toInt (by omega)] at h
  unfold post_X7_isRest
  rw [hn2]
  have e0 : (0 : Int64).toInt = 0 := rfl
  rw [e0] at h
  refine ⟨h ▸ zb_01 _, h.trans (zb_c ⟨fun q => ⟨q.1, by omega⟩, fun q => ⟨q.1, by omega⟩⟩)⟩
def pre_X7_common (p0 p1 : Int32) : Prop := 0 ≤ p0.toInt ∧ 0 ≤ p1.toInt
set_option maxHeartbeats 4000000 in
set_option maxRecDepth 100000 in
theorem met_X7_common (l : Launch) (p0 : Int32) (p1 : Int32) (post : Int32 → Prop)
  (hV : ∀ (J4 : Int32 → Int32 → Prop),
    (∀ (x2 : Int32) (x3 : Int32), ((x3 = 0 → post x2) ∧ (¬ x3 = 0 → J4 x3 (x2 - x2 / x3 * x3))) → J4 x2 x3) →
    J4 p0 p1) :
  Met l yX7_common wsX7_common ({ frames := 0, cells := 0, slots := 0, locals := 0 } : Room) (va_Pc [.int p0, .int p1] (fun _ => True)) (Qpi post) 0 0 noF := by
  refine Met.ofW (cc := cX7_common) (maxL := 5) (ret := (some .int)) (by decide) rfl ?_
  intro p e s m args below meth c s₁ B hml hv
  obtain ⟨rfl, -⟩ := hv
  have hx := B.exec
  have hb := B.bytes
  have hr := B.returns
  have hts := atoms_spec (ws := wsX7_common) B.pre
  have hown : s.vm.findClass RX7 = some m.cls := findClass_of_methodNamed B.named
  have hlocks := B.notSynchronized
  obtain ⟨J4, iJ4, oJ4⟩ : ∃ J : Int32 → Int32 → Prop, (∀ (x2 : Int32) (x3 : Int32), (∀ ls : Array Slot, lv_has ls 5 [(2, .int x2), (3, .int x3)] → W p l e (headSpec wsX7_common ({ frames := 0, cells := 0, slots := 0, locals := 0 } : Room)).room s m [.int p0, .int p1].toArray below meth c s.heap [] 0 0 (MQ below (Qpi post) [.int p0, .int p1].toArray s 0 0 noF) (F0 m 4 ls [])) → J x2 x3) ∧ (∀ (x2 : Int32) (x3 : Int32), J x2 x3 → (∀ ls : Array Slot, lv_has ls 5 [(2, .int x2), (3, .int x3)] → W p l e (headSpec wsX7_common ({ frames := 0, cells := 0, slots := 0, locals := 0 } : Room)).room s m [.int p0, .int p1].toArray below meth c s.heap [] 0 0 (MQ below (Qpi post) [.int p0, .int p1].toArray s 0 0 noF) (F0 m 4 ls []))) := ⟨fun (x2 : Int32) (x3 : Int32) => (∀ ls : Array Slot, lv_has ls 5 [(2, .int x2), (3, .int x3)] → W p l e (headSpec wsX7_common ({ frames := 0, cells := 0, slots := 0, locals := 0 } : Room)).room s m [.int p0, .int p1].toArray below meth c s.heap [] 0 0 (MQ below (Qpi post) [.int p0, .int p1].toArray s 0 0 noF) (F0 m 4 ls [])), fun _ _ h => h, fun _ _ h => h⟩
  have hV := hV J4
  replace hV := hV (by
    intro x2 x3 hV
    refine iJ4 x2 x3 ?_
    intro ls hl
    refine lv_iload_n hx hb dX7_common_4 rfl (lv_at hl 1 rfl) ?_
    refine lv_if_eq (tgt := 21) hx hb dX7_common_5 (by decide) (fun c_5 => ?_) (fun c_5 => ?_)
    · have hV := hV.1 c_5
      refine lv_iload_n hx hb dX7_common_21 rfl (lv_at hl 0 rfl) ?_
      exact W.iret (v := x2) hx hb hr (fun t ht hW => ⟨_, rfl, hV, ht⟩) (fun _ h => by cases h) dX7_common_22
    · have hV := hV.2 c_5
      refine lv_iload_n hx hb dX7_common_8 rfl (lv_at hl 0 rfl) ?_
      refine lv_iload_n hx hb dX7_common_9 rfl (lv_at hl 1 rfl) ?_
      refine lv_irem hx hb dX7_common_10 c_5 ?_
      refine lv_istore (lv' := [(4, .int (x2 - x2 / x3 * x3)), (2, .int x2), (3, .int x3)]) hx hb dX7_common_11 hl (by decide) rfl (fun ls hl => ?_)
      refine lv_iload_n hx hb dX7_common_13 rfl (lv_at hl 2 rfl) ?_
      refine lv_istore_n (lv' := [(2, .int x3), (4, .int (x2 - x2 / x3 * x3)), (3, .int x3)]) hx hb dX7_common_14 rfl hl (by decide) rfl (fun ls hl => ?_)
      refine lv_iload hx hb dX7_common_15 (lv_at hl 1 rfl) ?_
      refine lv_istore_n (lv' := [(3, .int (x2 - x2 / x3 * x3)), (2, .int x3), (4, .int (x2 - x2 / x3 * x3))]) hx hb dX7_common_17 rfl hl (by decide) rfl (fun ls hl => ?_)
      refine lv_goto (tgt := 4) hx hb dX7_common_18 (by decide) ?_
      exact oJ4 _ _ hV _ (lv_sub hl [1, 0] rfl))
  have hl := lv_entry ([.int p0, .int p1]) (n := 5) (Nat.le_of_ble_eq_true rfl)
  rw [lg_entry_eq]
  generalize (lg_sl ([.int p0, .int p1]) ++ List.replicate (5 - (lg_sl ([.int p0, .int p1])).length) Slot.unset).toArray = ls at hl ⊢
  have hl : lv_has ls 5 [(0, .int p0), (1, .int p1)] := hl
  refine lv_iload_n hx hb dX7_common_0 rfl (lv_at hl 0 rfl) ?_
  refine lv_istore_n (lv' := [(2, .int p0), (0, .int p0), (1, .int p1)]) hx hb dX7_common_1 rfl hl (by decide) rfl (fun ls hl => ?_)
  refine lv_iload_n hx hb dX7_common_2 rfl (lv_at hl 2 rfl) ?_
  refine lv_istore_n (lv' := [(3, .int p1), (2, .int p0), (0, .int p0), (1, .int p1)]) hx hb dX7_common_3 rfl hl (by decide) rfl (fun ls hl => ?_)
  exact oJ4 _ _ hV _ (lv_sub hl [1, 0] rfl)
def post_X7_common (p0 p1 r : Int32) : Prop := r = nI (Nat.gcd (tn p0) (tn p1))
set_option maxRecDepth 4000 in
theorem spec_X7_common (l : Launch) (p0 : Int32) (p1 : Int32) (hpre : pre_X7_common p0 p1) : Met l yX7_common wsX7_common ({ frames := 0, cells := 0, slots := 0, locals := 0 } : Room) (va_Pc [.int p0, .int p1] (fun _ => True)) (Qpi (post_X7_common p0 p1)) 0 0 noF := by
  apply met_X7_common
  intro J hJ
  obtain ⟨a, ha, rfl, -⟩ := of_i hpre.1
  obtain ⟨b, hb, rfl, -⟩ := of_i hpre.2
  have key : ∀ (n a' b' : Nat), b' ≤ n → a' < 2 ^ 31 → b' < 2 ^ 31 → Nat.gcd a' b' = Nat.gcd a b → J (nI a') (nI b') := by
    intro n
    induction n with
    | zero =>
      intro a' b' h1 h2 h3 h4
      have : b' = 0 := by omega
      subst this
      refine hJ _ _ ⟨fun _ => ?_, fun h => absurd nI_0 h⟩
      unfold post_X7_common
      rw [tn_nI ha, tn_nI hb, ← h4, Nat.gcd_zero_right]
    | succ n ih =>
      intro a' b' h1 h2 h3 h4
      refine hJ _ _ (pk_eq b' 0 (fun h => ?_) (fun h => ?_))
      · unfold post_X7_common
        rw [tn_nI ha, tn_nI hb, ← h4, h, Nat.gcd_zero_right]
      · rw [pk_rem h2 (by omega) h3]
        have hlt := Nat.mod_lt a' (show 0 < b' by omega)
        exact ih b' (a' % b') (by omega) h3 (by omega) (by rw [← h4, Nat.gcd_comm a' b', Nat.gcd_rec b' a', Nat.gcd_comm])
  exact key b a b (Nat.le_refl b) ha hb rfl
def pre_X4_commonDivisor (p0 p1 : Int32) : Prop := 0 ≤ p0.toInt ∧ 0 ≤ p1.toInt
set_option maxHeartbeats 4000000 in
set_option maxRecDepth 100000 in
theorem met_X4_commonDivisor (l : Launch) (p0 : Int32) (p1 : Int32) (post : Int32 → Prop)
  (hV : ∀ (J7 : Int32 → Int32 → Int32 → Prop),
    (∀ (x2 : Int32) (x3 : Int32) (x4 : Int32), (((64 : Int32) ≤ x4 → post x2) ∧ (¬ (64 : Int32) ≤ x4 → ((x3 = 0 → post x2) ∧ (¬ x3 = 0 → J7 x3 (x2 - x2 / x3 * x3) (x4 + 1))))) → J7 x2 x3 x4) →
    J7 p0 p1 (0 : Int32)) :
  Met l yX4_commonDivisor wsX4_commonDivisor ({ frames := 0, cells := 0, slots := 0, locals := 0 } : Room) (va_Pc [.int p0, .int p1] (fun _ => True)) (Qpi post) 0 0 noF := by
  refine Met.ofW (cc := cX4_commonDivisor) (maxL := 6) (ret := (some .int)) (by decide) rfl ?_
  intro p e s m args below meth c s₁ B hml hv
  obtain ⟨rfl, -⟩ := hv
  have hx := B.exec
  have hb := B.bytes
  have hr := B.returns
  have hts := atoms_spec (ws := wsX4_commonDivisor) B.pre
  have hown : s.vm.findClass RX4 = some m.cls := findClass_of_methodNamed B.named
  have hlocks := B.notSynchronized
  obtain ⟨J7, iJ7, oJ7⟩ : ∃ J : Int32 → Int32 → Int32 → Prop, (∀ (x2 : Int32) (x3 : Int32) (x4 : Int32), (∀ ls : Array Slot, lv_has ls 6 [(2, .int x2), (3, .int x3), (4, .int x4)] → W p l e (headSpec wsX4_commonDivisor ({ frames := 0, cells := 0, slots := 0, locals := 0 } : Room)).room s m [.int p0, .int p1].toArray below meth c s.heap [] 0 0 (MQ below (Qpi post) [.int p0, .int p1].toArray s 0 0 noF) (F0 m 7 ls [])) → J x2 x3 x4) ∧ (∀ (x2 : Int32) (x3 : Int32) (x4 : Int32), J x2 x3 x4 → (∀ ls : Array Slot, lv_has ls 6 [(2, .int x2), (3, .int x3), (4, .int x4)] → W p l e (headSpec wsX4_commonDivisor ({ frames := 0, cells := 0, slots := 0, locals := 0 } : Room)).room s m [.int p0, .int p1].toArray below meth c s.heap [] 0 0 (MQ below (Qpi post) [.int p0, .int p1].toArray s 0 0 noF) (F0 m 7 ls []))) := ⟨fun (x2 : Int32) (x3 : Int32) (x4 : Int32) => (∀ ls : Array Slot, lv_has ls 6 [(2, .int x2), (3, .int x3), (4, .int x4)] → W p l e (headSpec wsX4_commonDivisor ({ frames := 0, cells := 0, slots := 0, locals := 0 } : Room)).room s m [.int p0, .int p1].toArray below meth c s.heap [] 0 0 (MQ below (Qpi post) [.int p0, .int p1].toArray s 0 0 noF) (F0 m 7 ls [])), fun _ _ _ h => h, fun _ _ _ h => h⟩
  have hV := hV J7
  replace hV := hV (by
    intro x2 x3 x4 hV
    refine iJ7 x2 x3 x4 ?_
    intro ls hl
    refine lv_iload hx hb dX4_commonDivisor_7 (lv_at hl 2 rfl) ?_
    refine lv_bipush (v := (64 : Int32)) hx hb dX4_commonDivisor_9 (by decide) ?_
    refine lv_icmp_ge (tgt := 34) hx hb dX4_commonDivisor_11 (by decide) (fun c_11 => ?_) (fun c_11 => ?_)
    · have hV := hV.1 c_11
      refine lv_iload_n hx hb dX4_commonDivisor_34 rfl (lv_at hl 0 rfl) ?_
      exact W.iret (v := x2) hx hb hr (fun t ht hW => ⟨_, rfl, hV, ht⟩) (fun _ h => by cases h) dX4_commonDivisor_35
    · have hV := hV.2 c_11
      refine lv_iload_n hx hb dX4_commonDivisor_14 rfl (lv_at hl 1 rfl) ?_
      refine lv_if_eq (tgt := 34) hx hb dX4_commonDivisor_15 (by decide) (fun c_15 => ?_) (fun c_15 => ?_)
      · have hV := hV.1 c_15
        refine lv_iload_n hx hb dX4_commonDivisor_34 rfl (lv_at hl 0 rfl) ?_
        exact W.iret (v := x2) hx hb hr (fun t ht hW => ⟨_, rfl, hV, ht⟩) (fun _ h => by cases h) dX4_commonDivisor_35
      · have hV := hV.2 c_15
        refine lv_iload_n hx hb dX4_commonDivisor_18 rfl (lv_at hl 0 rfl) ?_
        refine lv_iload_n hx hb dX4_commonDivisor_19 rfl (lv_at hl 1 rfl) ?_
        refine lv_irem hx hb dX4_commonDivisor_20 c_15 ?_
        refine lv_istore (lv' := [(5, .int (x2 - x2 / x3 * x3)), (2, .int x2), (3, .int x3), (4, .int x4)]) hx hb dX4_commonDivisor_21 hl (by decide) rfl (fun ls hl => ?_)
        refine lv_iload_n hx hb dX4_commonDivisor_23 rfl (lv_at hl 2 rfl) ?_
        refine lv_istore_n (lv' := [(2, .int x3), (5, .int (x2 - x2 / x3 * x3)), (3, .int x3), (4, .int x4)]) hx hb dX4_commonDivisor_24 rfl hl (by decide) rfl (fun ls hl => ?_)
        refine lv_iload hx hb dX4_commonDivisor_25 (lv_at hl 1 rfl) ?_
        refine lv_istore_n (lv' := [(3, .int (x2 - x2 / x3 * x3)), (2, .int x3), (5, .int (x2 - x2 / x3 * x3)), (4, .int x4)]) hx hb dX4_commonDivisor_27 rfl hl (by decide) rfl (fun ls hl => ?_)
        refine lv_iinc (v := x4 + 1) (lv' := [(4, .int (x4 + 1)), (3, .int (x2 - x2 / x3 * x3)), (2, .int x3), (5, .int (x2 - x2 / x3 * x3))]) hx hb dX4_commonDivisor_28 hl (k := 3) rfl rfl (by decide) rfl (fun ls hl => ?_)
        refine lv_goto (tgt := 7) hx hb dX4_commonDivisor_31 (by decide) ?_
        exact oJ7 _ _ _ hV _ (lv_sub hl [2, 1, 0] rfl))
  have hl := lv_entry ([.int p0, .int p1]) (n := 6) (Nat.le_of_ble_eq_true rfl)
  rw [lg_entry_eq]
  generalize (lg_sl ([.int p0, .int p1]) ++ List.replicate (6 - (lg_sl ([.int p0, .int p1])).length) Slot.unset).toArray = ls at hl ⊢
  have hl : lv_has ls 6 [(0, .int p0), (1, .int p1)] := hl
  refine lv_iload_n hx hb dX4_commonDivisor_0 rfl (lv_at hl 0 rfl) ?_
  refine lv_istore_n (lv' := [(2, .int p0), (0, .int p0), (1, .int p1)]) hx hb dX4_commonDivisor_1 rfl hl (by decide) rfl (fun ls hl => ?_)
  refine lv_iload_n hx hb dX4_commonDivisor_2 rfl (lv_at hl 2 rfl) ?_
  refine lv_istore_n (lv' := [(3, .int p1), (2, .int p0), (0, .int p0), (1, .int p1)]) hx hb dX4_commonDivisor_3 rfl hl (by decide) rfl (fun ls hl => ?_)
  refine lv_iconst (v := (0 : Int32)) hx hb dX4_commonDivisor_4 (by decide) ?_
  refine lv_istore (lv' := [(4, .int (0 : Int32)), (3, .int p1), (2, .int p0), (0, .int p0), (1, .int p1)]) hx hb dX4_commonDivisor_5 hl (by decide) rfl (fun ls hl => ?_)
  exact oJ7 _ _ _ hV _ (lv_sub hl [2, 1, 0] rfl)
def post_X4_commonDivisor (p0 p1 r : Int32) : Prop := r = nI (Nat.gcd (tn p0) (tn p1))
theorem eu_half {a b : Nat} (hb : 0 < b) (h : b < a) : a % b * 2 ≤ a := by
  have h1 := Nat.mod_lt a hb
  have h2 := Nat.div_add_mod a b
  have h3 : 1 ≤ a / b := (Nat.le_div_iff_mul_le hb).mpr (by omega)
  have h4 : b * 1 ≤ b * (a / b) := Nat.mul_le_mul_left b h3
  omega
set_option maxRecDepth 4000 in
theorem spec_X4_commonDivisor (l : Launch) (p0 : Int32) (p1 : Int32) (hpre : pre_X4_commonDivisor p0 p1) : Met l yX4_commonDivisor wsX4_commonDivisor ({ frames := 0, cells := 0, slots := 0, locals := 0 } : Room) (va_Pc [.int p0, .int p1] (fun _ => True)) (Qpi (post_X4_commonDivisor p0 p1)) 0 0 noF := by
  apply met_X4_commonDivisor
  intro J hJ
  obtain ⟨a, ha, rfl, -⟩ := of_i hpre.1
  obtain ⟨b, hb, rfl, -⟩ := of_i hpre.2
  -- b' * 2^(k/2) < 2^31; behind the first step a' * 2^((k-1)/2) < 2^31 too
  have key : ∀ (n k a' b' : Nat), 64 - k ≤ n → k ≤ 64 → a' < 2 ^ 31 → b' < 2 ^ 31 → b' * 2 ^ (k / 2) < 2 ^ 31 → (1 ≤ k → a' * 2 ^ ((k - 1) / 2) < 2 ^ 31 ∧ b' < a') → Nat.gcd a' b' = Nat.gcd a b → J (nI a') (nI b') (nI k) := by
    intro n
    induction n with
    | zero =>
      intro k a' b' h1 h2 h3 h4 h5 h6 h7
      have hk : k = 64 := by omega
      subst hk
      have hb0 : b' = 0 := by
        have : 2 ^ 31 ≤ 2 ^ (64 / 2) := by decide
        apply Classical.byContradiction
        intro hne
        have : 1 * 2 ^ (64 / 2) ≤ b' * 2 ^ (64 / 2) := Nat.mul_le_mul_right _ (by omega)
        omega
      subst hb0
      refine hJ _ _ _ ⟨fun _ => ?_, fun h => absurd (show (64 : Int32) ≤ nI 64 by decide) h⟩
      unfold post_X4_commonDivisor
      rw [tn_nI ha, tn_nI hb, ← h7, Nat.gcd_zero_right]
    | succ n ih =>
      intro k a' b' h1 h2 h3 h4 h5 h6 h7
      have fin : b' = 0 → post_X4_commonDivisor (nI a) (nI b) (nI a') := fun h => by
        unfold post_X4_commonDivisor
        rw [tn_nI ha, tn_nI hb, ← h7, h, Nat.gcd_zero_right]
      refine hJ _ _ _ (pk_le 64 k (fun h => fin ?_) (fun h => pk_eq b' 0 fin (fun h0 => ?_)))
      · have hk : k = 64 := by omega
        subst hk
        apply Classical.byContradiction
        intro hne
        have : 2 ^ 31 ≤ 2 ^ (64 / 2) := by decide
        have : 1 * 2 ^ (64 / 2) ≤ b' * 2 ^ (64 / 2) := Nat.mul_le_mul_right _ (by omega)
        omega
      · rw [pk_rem h3 (by omega) h4, nI_1]
        have hlt := Nat.mod_lt a' (show 0 < b' by omega)
        refine ih (k + 1) b' (a' % b') (by omega) (by omega) h4 (by omega) ?_ (fun _ => ⟨by rw [Nat.add_sub_cancel]; exact h5, hlt⟩) (by rw [← h7, Nat.gcd_comm a' b', Nat.gcd_rec b' a', Nat.gcd_comm])
        rcases Nat.mod_two_eq_zero_or_one k with hj | hj
        · have e1 : (k + 1) / 2 = k / 2 := by omega
          rw [e1]
          exact Nat.lt_of_le_of_lt (Nat.mul_le_mul_right _ (Nat.le_of_lt hlt)) h5
        · have e1 : (k + 1) / 2 = (k - 1) / 2 + 1 := by omega
          obtain ⟨h8, h9⟩ := h6 (by omega)
          rw [e1, Nat.pow_succ, Nat.mul_comm (2 ^ ((k - 1) / 2)) 2, ← Nat.mul_assoc]
          exact Nat.lt_of_le_of_lt (Nat.mul_le_mul_right _ (eu_half (by omega) h9)) h8
  exact key 64 0 a b (by omega) (by omega) ha hb (by simpa using hb) (fun h => by omega) rfl
def pre_X7_isUnit (p0 p1 : Int32) : Prop := 0 ≤ p0.toInt ∧ 0 ≤ p1.toInt
set_option maxHeartbeats 4000000 in
set_option maxRecDepth 100000 in
theorem met_X7_isUnit (l : Launch) (p0 : Int32) (p1 : Int32) (post : Int32 → Prop)
  (hV : pre_X7_common p0 p1 ∧ (∀ r2 : Int32, post_X7_common p0 p1 r2 → ((r2 = (1 : Int32) → post (1 : Int32)) ∧ (¬ r2 = (1 : Int32) → post (0 : Int32))))) :
  Met l yX7_isUnit wsX7_isUnit ({ frames := 1, cells := 0, slots := 0, locals := 24 } : Room) (va_Pc [.int p0, .int p1] (fun _ => True)) (Qpi post) 0 0 noF := by
  refine Met.ofW (cc := cX7_isUnit) (maxL := 2) (ret := (some .boolean)) (by decide) rfl ?_
  intro p e s m args below meth c s₁ B hml hv
  obtain ⟨rfl, -⟩ := hv
  have hx := B.exec
  have hb := B.bytes
  have hr := B.returns
  have hts := atoms_spec (ws := wsX7_isUnit) B.pre
  have hown : s.vm.findClass RX7 = some m.cls := findClass_of_methodNamed B.named
  have hlocks := B.notSynchronized
  have hl := lv_entry ([.int p0, .int p1]) (n := 2) (Nat.le_of_ble_eq_true rfl)
  rw [lg_entry_eq]
  generalize (lg_sl ([.int p0, .int p1]) ++ List.replicate (2 - (lg_sl ([.int p0, .int p1])).length) Slot.unset).toArray = ls at hl ⊢
  have hl : lv_has ls 2 [(0, .int p0), (1, .int p1)] := hl
  refine lv_iload_n hx hb dX7_isUnit_0 rfl (lv_at hl 0 rfl) ?_
  refine lv_iload_n hx hb dX7_isUnit_1 rfl (lv_at hl 1 rfl) ?_
  obtain ⟨h_2, hV⟩ := hV
  refine cp_i (va_runS (As := [.int p0, .int p1]) (rest := []) ⟨hx, hb, hml, hown, hts⟩ (spec_X7_common l p0 p1 h_2) (va_cwS 2 hts gX7_isUnit_X7_common rfl rfl rfl (by decide +kernel) ⟨Nat.le_of_ble_eq_true rfl, Nat.le_of_ble_eq_true rfl⟩) cp_pre rfl rfl hl.1 rfl (lv_room (Nat.le_of_ble_eq_true rfl)) dX7_isUnit_2 ⟨Nat.zero_le _, Nat.zero_le _⟩) (fun r2 q_2 => ?_)
  have hV := hV r2 q_2
  refine lv_iconst (v := (1 : Int32)) hx hb dX7_isUnit_5 (by decide) ?_
  refine lv_icmp_ne (tgt := 13) hx hb dX7_isUnit_6 (by decide) (fun c_6 => ?_) (fun c_6 => ?_)
  · have hV := hV.2 c_6
    refine lv_iconst (v := (0 : Int32)) hx hb dX7_isUnit_13 (by decide) ?_
    exact W.zret (v := (0 : Int32)) hx hb hr rfl (fun t ht hW => ⟨_, rfl, hV, ht⟩) (fun _ h => by cases h) dX7_isUnit_14
  · have hV := hV.1 c_6
    refine lv_iconst (v := (1 : Int32)) hx hb dX7_isUnit_9 (by decide) ?_
    refine lv_goto (tgt := 14) hx hb dX7_isUnit_10 (by decide) ?_
    exact W.zret (v := (1 : Int32)) hx hb hr rfl (fun t ht hW => ⟨_, rfl, hV, ht⟩) (fun _ h => by cases h) dX7_isUnit_14
def post_X7_isUnit (p0 p1 r : Int32) : Prop := r = zb (Nat.Coprime (tn p0) (tn p1))
set_option maxRecDepth 4000 in
theorem spec_X7_isUnit (l : Launch) (p0 : Int32) (p1 : Int32) (hpre : pre_X7_isUnit p0 p1) : Met l yX7_isUnit wsX7_isUnit ({ frames := 1, cells := 0, slots := 0, locals := 24 } : Room) (va_Pc [.int p0, .int p1] (fun _ => True)) (Qpi (post_X7_isUnit p0 p1)) 0 0 noF := by
  apply met_X7_isUnit
  refine ⟨hpre, fun r h => ?_⟩
  unfold post_X7_common at h
  unfold post_X7_isUnit
  obtain ⟨a, ha, rfl, -⟩ := of_i hpre.1
  obtain ⟨b, hb, rfl, -⟩ := of_i hpre.2
  rw [tn_nI ha, tn_nI hb] at h ⊢
  have hg : Nat.gcd a b < 2 ^ 31 := by
    rcases Nat.eq_zero_or_pos a with h0 | h0
    · rw [h0, Nat.gcd_zero_left]; exact hb
    · exact Nat.lt_of_le_of_lt (Nat.gcd_le_left b h0) ha
  refine pk_eq (Nat.gcd a b) 1 (fun h1 => (zb_t h1).symm) (fun h1 => (zb_f h1).symm) h
end
