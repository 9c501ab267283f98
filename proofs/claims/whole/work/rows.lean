section
-- ===== PART A: goes FIRST, ahead of the names: the tables' words, and 'selects' of the private methods out of them =====
/-- a private method of a class that the tables say can be made, by its rows of tables_1 -/
def lw_okq (q : MethodName × Nat) : Prop := (q.1.cls ≠ "java/lang/invoke/MethodHandle" ∧ q.1.cls ≠ "java/lang/invoke/VarHandle") ∧ Cond.instantiable q.1.cls q.2 ∈ tables_1 ∧ Cond.privateMethod q.1 ∈ tables_1 ∧ Cond.instanceMethod q.1 ∈ tables_1
theorem lw_p0 : lw_okq (⟨"BeltArms$Belt", "addUp", "()V"⟩, 5) := ⟨⟨by decide +kernel, by decide +kernel⟩, List.mem_of_getElem? (i := 28) (by decide +kernel), List.mem_of_getElem? (i := 34) (by decide +kernel), List.mem_of_getElem? (i := 35) (by decide +kernel)⟩
theorem lw_p1 : lw_okq (⟨"BeltArms$Belt", "begunBy", "(I)I"⟩, 5) := ⟨⟨by decide +kernel, by decide +kernel⟩, List.mem_of_getElem? (i := 28) (by decide +kernel), List.mem_of_getElem? (i := 246) (by decide +kernel), List.mem_of_getElem? (i := 247) (by decide +kernel)⟩
theorem lw_p2 : lw_okq (⟨"BeltArms$Belt", "insert", "(III)V"⟩, 5) := ⟨⟨by decide +kernel, by decide +kernel⟩, List.mem_of_getElem? (i := 28) (by decide +kernel), List.mem_of_getElem? (i := 259) (by decide +kernel), List.mem_of_getElem? (i := 260) (by decide +kernel)⟩
theorem lw_p3 : lw_okq (⟨"BeltArms", "isThing", "(I)Z"⟩, 7) := ⟨⟨by decide +kernel, by decide +kernel⟩, List.mem_of_getElem? (i := 14) (by decide +kernel), List.mem_of_getElem? (i := 307) (by decide +kernel), List.mem_of_getElem? (i := 308) (by decide +kernel)⟩
theorem lw_p4 : lw_okq (⟨"BeltArms", "freshPlan", "()LBeltArms$Plan;"⟩, 7) := ⟨⟨by decide +kernel, by decide +kernel⟩, List.mem_of_getElem? (i := 14) (by decide +kernel), List.mem_of_getElem? (i := 332) (by decide +kernel), List.mem_of_getElem? (i := 333) (by decide +kernel)⟩
theorem lw_p5 : lw_okq (⟨"BeltArms$Plan", "listSlots", "(LBeltArms$State;II)V"⟩, 11) := ⟨⟨by decide +kernel, by decide +kernel⟩, List.mem_of_getElem? (i := 153) (by decide +kernel), List.mem_of_getElem? (i := 343) (by decide +kernel), List.mem_of_getElem? (i := 344) (by decide +kernel)⟩
theorem lw_p6 : lw_okq (⟨"BeltArms$Plan", "listSlotsOf", "(LBeltArms$State;II)V"⟩, 11) := ⟨⟨by decide +kernel, by decide +kernel⟩, List.mem_of_getElem? (i := 153) (by decide +kernel), List.mem_of_getElem? (i := 351) (by decide +kernel), List.mem_of_getElem? (i := 352) (by decide +kernel)⟩
theorem lw_p7 : lw_okq (⟨"BeltArms$Plan", "takeOneMore", "(I)Z"⟩, 11) := ⟨⟨by decide +kernel, by decide +kernel⟩, List.mem_of_getElem? (i := 153) (by decide +kernel), List.mem_of_getElem? (i := 387) (by decide +kernel), List.mem_of_getElem? (i := 388) (by decide +kernel)⟩
theorem lw_p8 : lw_okq (⟨"BeltArms$Plan", "enqueue", "(II)V"⟩, 11) := ⟨⟨by decide +kernel, by decide +kernel⟩, List.mem_of_getElem? (i := 153) (by decide +kernel), List.mem_of_getElem? (i := 391) (by decide +kernel), List.mem_of_getElem? (i := 392) (by decide +kernel)⟩
theorem lw_p9 : lw_okq (⟨"BeltArms$Plan", "freeSlot", "(II)I"⟩, 11) := ⟨⟨by decide +kernel, by decide +kernel⟩, List.mem_of_getElem? (i := 153) (by decide +kernel), List.mem_of_getElem? (i := 395) (by decide +kernel), List.mem_of_getElem? (i := 396) (by decide +kernel)⟩
theorem lw_p10 : lw_okq (⟨"BeltArms$Plan", "moveUp", "(II)V"⟩, 11) := ⟨⟨by decide +kernel, by decide +kernel⟩, List.mem_of_getElem? (i := 153) (by decide +kernel), List.mem_of_getElem? (i := 399) (by decide +kernel), List.mem_of_getElem? (i := 400) (by decide +kernel)⟩
theorem lw_p11 : lw_okq (⟨"BeltArms$Plan", "hold", "(II)V"⟩, 11) := ⟨⟨by decide +kernel, by decide +kernel⟩, List.mem_of_getElem? (i := 153) (by decide +kernel), List.mem_of_getElem? (i := 403) (by decide +kernel), List.mem_of_getElem? (i := 404) (by decide +kernel)⟩
theorem lw_p12 : lw_okq (⟨"BeltArms$Plan", "settleAt", "(II)Z"⟩, 11) := ⟨⟨by decide +kernel, by decide +kernel⟩, List.mem_of_getElem? (i := 153) (by decide +kernel), List.mem_of_getElem? (i := 411) (by decide +kernel), List.mem_of_getElem? (i := 412) (by decide +kernel)⟩
theorem lw_p13 : lw_okq (⟨"BeltArms$Plan", "leave", "(I)V"⟩, 11) := ⟨⟨by decide +kernel, by decide +kernel⟩, List.mem_of_getElem? (i := 153) (by decide +kernel), List.mem_of_getElem? (i := 415) (by decide +kernel), List.mem_of_getElem? (i := 416) (by decide +kernel)⟩
theorem lw_p14 : lw_okq (⟨"BeltArms$Trays", "emptiest", "(II)I"⟩, 2) := ⟨⟨by decide +kernel, by decide +kernel⟩, List.mem_of_getElem? (i := 195) (by decide +kernel), List.mem_of_getElem? (i := 428) (by decide +kernel), List.mem_of_getElem? (i := 429) (by decide +kernel)⟩
theorem lw_p15 : lw_okq (⟨"BeltArmsModel", "changes", "()I"⟩, 16) := ⟨⟨by decide +kernel, by decide +kernel⟩, List.mem_of_getElem? (i := 581) (by decide +kernel), List.mem_of_getElem? (i := 647) (by decide +kernel), List.mem_of_getElem? (i := 648) (by decide +kernel)⟩
def lw_privs_1 : List (MethodName × Nat) := [(⟨"BeltArms$Belt", "addUp", "()V"⟩, 5), (⟨"BeltArms$Belt", "begunBy", "(I)I"⟩, 5), (⟨"BeltArms$Belt", "insert", "(III)V"⟩, 5), (⟨"BeltArms", "isThing", "(I)Z"⟩, 7), (⟨"BeltArms", "freshPlan", "()LBeltArms$Plan;"⟩, 7), (⟨"BeltArms$Plan", "listSlots", "(LBeltArms$State;II)V"⟩, 11), (⟨"BeltArms$Plan", "listSlotsOf", "(LBeltArms$State;II)V"⟩, 11), (⟨"BeltArms$Plan", "takeOneMore", "(I)Z"⟩, 11), (⟨"BeltArms$Plan", "enqueue", "(II)V"⟩, 11), (⟨"BeltArms$Plan", "freeSlot", "(II)I"⟩, 11), (⟨"BeltArms$Plan", "moveUp", "(II)V"⟩, 11), (⟨"BeltArms$Plan", "hold", "(II)V"⟩, 11), (⟨"BeltArms$Plan", "settleAt", "(II)Z"⟩, 11), (⟨"BeltArms$Plan", "leave", "(I)V"⟩, 11), (⟨"BeltArms$Trays", "emptiest", "(II)I"⟩, 2), (⟨"BeltArmsModel", "changes", "()I"⟩, 16)]
theorem lw_r1 : ∀ q ∈ lw_privs_1, lw_okq q := List.forall_mem_cons.mpr ⟨lw_p0, List.forall_mem_cons.mpr ⟨lw_p1, List.forall_mem_cons.mpr ⟨lw_p2, List.forall_mem_cons.mpr ⟨lw_p3, List.forall_mem_cons.mpr ⟨lw_p4, List.forall_mem_cons.mpr ⟨lw_p5, List.forall_mem_cons.mpr ⟨lw_p6, List.forall_mem_cons.mpr ⟨lw_p7, List.forall_mem_cons.mpr ⟨lw_p8, List.forall_mem_cons.mpr ⟨lw_p9, List.forall_mem_cons.mpr ⟨lw_p10, List.forall_mem_cons.mpr ⟨lw_p11, List.forall_mem_cons.mpr ⟨lw_p12, List.forall_mem_cons.mpr ⟨lw_p13, List.forall_mem_cons.mpr ⟨lw_p14, List.forall_mem_cons.mpr ⟨lw_p15, fun _ h => absurd h List.not_mem_nil⟩⟩⟩⟩⟩⟩⟩⟩⟩⟩⟩⟩⟩⟩⟩⟩
theorem lw_p16 : lw_okq (⟨"BeltArmsModel", "speedAt", "(I)I"⟩, 16) := ⟨⟨by decide +kernel, by decide +kernel⟩, List.mem_of_getElem? (i := 581) (by decide +kernel), List.mem_of_getElem? (i := 651) (by decide +kernel), List.mem_of_getElem? (i := 652) (by decide +kernel)⟩
theorem lw_p17 : lw_okq (⟨"BeltArmsModel", "layGone", "()V"⟩, 16) := ⟨⟨by decide +kernel, by decide +kernel⟩, List.mem_of_getElem? (i := 581) (by decide +kernel), List.mem_of_getElem? (i := 663) (by decide +kernel), List.mem_of_getElem? (i := 664) (by decide +kernel)⟩
theorem lw_p18 : lw_okq (⟨"BeltArmsModel", "placeOf", "(II)I"⟩, 16) := ⟨⟨by decide +kernel, by decide +kernel⟩, List.mem_of_getElem? (i := 581) (by decide +kernel), List.mem_of_getElem? (i := 671) (by decide +kernel), List.mem_of_getElem? (i := 672) (by decide +kernel)⟩
theorem lw_p19 : lw_okq (⟨"BeltArmsModel", "wasSeen", "(II)Z"⟩, 16) := ⟨⟨by decide +kernel, by decide +kernel⟩, List.mem_of_getElem? (i := 581) (by decide +kernel), List.mem_of_getElem? (i := 678) (by decide +kernel), List.mem_of_getElem? (i := 679) (by decide +kernel)⟩
theorem lw_p20 : lw_okq (⟨"BeltArmsModel", "isThing", "(I)Z"⟩, 16) := ⟨⟨by decide +kernel, by decide +kernel⟩, List.mem_of_getElem? (i := 581) (by decide +kernel), List.mem_of_getElem? (i := 686) (by decide +kernel), List.mem_of_getElem? (i := 687) (by decide +kernel)⟩
theorem lw_p21 : lw_okq (⟨"BeltArmsModel", "canTake", "(III)Z"⟩, 16) := ⟨⟨by decide +kernel, by decide +kernel⟩, List.mem_of_getElem? (i := 581) (by decide +kernel), List.mem_of_getElem? (i := 713) (by decide +kernel), List.mem_of_getElem? (i := 714) (by decide +kernel)⟩
theorem lw_p22 : lw_okq (⟨"BeltArmsModel", "layPlan", "()V"⟩, 16) := ⟨⟨by decide +kernel, by decide +kernel⟩, List.mem_of_getElem? (i := 581) (by decide +kernel), List.mem_of_getElem? (i := 721) (by decide +kernel), List.mem_of_getElem? (i := 722) (by decide +kernel)⟩
theorem lw_p23 : lw_okq (⟨"BeltArmsModel", "layArms", "(I)V"⟩, 16) := ⟨⟨by decide +kernel, by decide +kernel⟩, List.mem_of_getElem? (i := 581) (by decide +kernel), List.mem_of_getElem? (i := 725) (by decide +kernel), List.mem_of_getElem? (i := 726) (by decide +kernel)⟩
theorem lw_p24 : lw_okq (⟨"BeltArmsModel", "clear", "()V"⟩, 16) := ⟨⟨by decide +kernel, by decide +kernel⟩, List.mem_of_getElem? (i := 581) (by decide +kernel), List.mem_of_getElem? (i := 729) (by decide +kernel), List.mem_of_getElem? (i := 730) (by decide +kernel)⟩
theorem lw_p25 : lw_okq (⟨"BeltArmsModel", "most", "(I)I"⟩, 16) := ⟨⟨by decide +kernel, by decide +kernel⟩, List.mem_of_getElem? (i := 581) (by decide +kernel), List.mem_of_getElem? (i := 733) (by decide +kernel), List.mem_of_getElem? (i := 734) (by decide +kernel)⟩
theorem lw_p26 : lw_okq (⟨"BeltArmsModel", "find", "(I)Z"⟩, 16) := ⟨⟨by decide +kernel, by decide +kernel⟩, List.mem_of_getElem? (i := 581) (by decide +kernel), List.mem_of_getElem? (i := 737) (by decide +kernel), List.mem_of_getElem? (i := 738) (by decide +kernel)⟩
theorem lw_p27 : lw_okq (⟨"BeltArmsModel", "turn", "(II)V"⟩, 16) := ⟨⟨by decide +kernel, by decide +kernel⟩, List.mem_of_getElem? (i := 581) (by decide +kernel), List.mem_of_getElem? (i := 744) (by decide +kernel), List.mem_of_getElem? (i := 745) (by decide +kernel)⟩
theorem lw_p28 : lw_okq (⟨"BeltArmsModel", "layTrays", "()V"⟩, 16) := ⟨⟨by decide +kernel, by decide +kernel⟩, List.mem_of_getElem? (i := 581) (by decide +kernel), List.mem_of_getElem? (i := 748) (by decide +kernel), List.mem_of_getElem? (i := 749) (by decide +kernel)⟩
theorem lw_p29 : lw_okq (⟨"BeltArmsModel", "seenOf", "(I)I"⟩, 16) := ⟨⟨by decide +kernel, by decide +kernel⟩, List.mem_of_getElem? (i := 581) (by decide +kernel), List.mem_of_getElem? (i := 756) (by decide +kernel), List.mem_of_getElem? (i := 757) (by decide +kernel)⟩
theorem lw_p30 : lw_okq (⟨"BeltArmsModel", "planned", "(II)I"⟩, 16) := ⟨⟨by decide +kernel, by decide +kernel⟩, List.mem_of_getElem? (i := 581) (by decide +kernel), List.mem_of_getElem? (i := 760) (by decide +kernel), List.mem_of_getElem? (i := 761) (by decide +kernel)⟩
theorem lw_p31 : lw_okq (⟨"BeltArmsModel", "canAt", "(II)I"⟩, 16) := ⟨⟨by decide +kernel, by decide +kernel⟩, List.mem_of_getElem? (i := 581) (by decide +kernel), List.mem_of_getElem? (i := 764) (by decide +kernel), List.mem_of_getElem? (i := 765) (by decide +kernel)⟩
def lw_privs_2 : List (MethodName × Nat) := [(⟨"BeltArmsModel", "speedAt", "(I)I"⟩, 16), (⟨"BeltArmsModel", "layGone", "()V"⟩, 16), (⟨"BeltArmsModel", "placeOf", "(II)I"⟩, 16), (⟨"BeltArmsModel", "wasSeen", "(II)Z"⟩, 16), (⟨"BeltArmsModel", "isThing", "(I)Z"⟩, 16), (⟨"BeltArmsModel", "canTake", "(III)Z"⟩, 16), (⟨"BeltArmsModel", "layPlan", "()V"⟩, 16), (⟨"BeltArmsModel", "layArms", "(I)V"⟩, 16), (⟨"BeltArmsModel", "clear", "()V"⟩, 16), (⟨"BeltArmsModel", "most", "(I)I"⟩, 16), (⟨"BeltArmsModel", "find", "(I)Z"⟩, 16), (⟨"BeltArmsModel", "turn", "(II)V"⟩, 16), (⟨"BeltArmsModel", "layTrays", "()V"⟩, 16), (⟨"BeltArmsModel", "seenOf", "(I)I"⟩, 16), (⟨"BeltArmsModel", "planned", "(II)I"⟩, 16), (⟨"BeltArmsModel", "canAt", "(II)I"⟩, 16)]
theorem lw_r2 : ∀ q ∈ lw_privs_2, lw_okq q := List.forall_mem_cons.mpr ⟨lw_p16, List.forall_mem_cons.mpr ⟨lw_p17, List.forall_mem_cons.mpr ⟨lw_p18, List.forall_mem_cons.mpr ⟨lw_p19, List.forall_mem_cons.mpr ⟨lw_p20, List.forall_mem_cons.mpr ⟨lw_p21, List.forall_mem_cons.mpr ⟨lw_p22, List.forall_mem_cons.mpr ⟨lw_p23, List.forall_mem_cons.mpr ⟨lw_p24, List.forall_mem_cons.mpr ⟨lw_p25, List.forall_mem_cons.mpr ⟨lw_p26, List.forall_mem_cons.mpr ⟨lw_p27, List.forall_mem_cons.mpr ⟨lw_p28, List.forall_mem_cons.mpr ⟨lw_p29, List.forall_mem_cons.mpr ⟨lw_p30, List.forall_mem_cons.mpr ⟨lw_p31, fun _ h => absurd h List.not_mem_nil⟩⟩⟩⟩⟩⟩⟩⟩⟩⟩⟩⟩⟩⟩⟩⟩
theorem lw_p32 : lw_okq (⟨"BeltArmsModel", "takenBy", "(I)I"⟩, 16) := ⟨⟨by decide +kernel, by decide +kernel⟩, List.mem_of_getElem? (i := 581) (by decide +kernel), List.mem_of_getElem? (i := 772) (by decide +kernel), List.mem_of_getElem? (i := 773) (by decide +kernel)⟩
theorem lw_p33 : lw_okq (⟨"BeltArmsModel", "mostWithout", "(I)I"⟩, 16) := ⟨⟨by decide +kernel, by decide +kernel⟩, List.mem_of_getElem? (i := 581) (by decide +kernel), List.mem_of_getElem? (i := 776) (by decide +kernel), List.mem_of_getElem? (i := 777) (by decide +kernel)⟩
theorem lw_p34 : lw_okq (⟨"BeltArmsModel", "inEach", "()I"⟩, 16) := ⟨⟨by decide +kernel, by decide +kernel⟩, List.mem_of_getElem? (i := 581) (by decide +kernel), List.mem_of_getElem? (i := 788) (by decide +kernel), List.mem_of_getElem? (i := 789) (by decide +kernel)⟩
theorem lw_p35 : lw_okq (⟨"BeltArmsModel", "ofKind", "(I)I"⟩, 16) := ⟨⟨by decide +kernel, by decide +kernel⟩, List.mem_of_getElem? (i := 581) (by decide +kernel), List.mem_of_getElem? (i := 808) (by decide +kernel), List.mem_of_getElem? (i := 809) (by decide +kernel)⟩
theorem lw_p36 : lw_okq (⟨"BeltArmsModel", "seenTwice", "()I"⟩, 16) := ⟨⟨by decide +kernel, by decide +kernel⟩, List.mem_of_getElem? (i := 581) (by decide +kernel), List.mem_of_getElem? (i := 812) (by decide +kernel), List.mem_of_getElem? (i := 813) (by decide +kernel)⟩
def lw_privs_3 : List (MethodName × Nat) := [(⟨"BeltArmsModel", "takenBy", "(I)I"⟩, 16), (⟨"BeltArmsModel", "mostWithout", "(I)I"⟩, 16), (⟨"BeltArmsModel", "inEach", "()I"⟩, 16), (⟨"BeltArmsModel", "ofKind", "(I)I"⟩, 16), (⟨"BeltArmsModel", "seenTwice", "()I"⟩, 16)]
theorem lw_r3 : ∀ q ∈ lw_privs_3, lw_okq q := List.forall_mem_cons.mpr ⟨lw_p32, List.forall_mem_cons.mpr ⟨lw_p33, List.forall_mem_cons.mpr ⟨lw_p34, List.forall_mem_cons.mpr ⟨lw_p35, List.forall_mem_cons.mpr ⟨lw_p36, fun _ h => absurd h List.not_mem_nil⟩⟩⟩⟩⟩
def lw_privs : List (MethodName × Nat) := lw_privs_1 ++ (lw_privs_2 ++ (lw_privs_3))
def lw_tbl : List Cond := k2_sels lw_privs ++ tables_1
theorem lw_privs_ok : ∀ q ∈ lw_privs, lw_okq q := by
  show ∀ q ∈ lw_privs_1 ++ (lw_privs_2 ++ (lw_privs_3)), lw_okq q
  exact List.forall_mem_append.mpr ⟨lw_r1, List.forall_mem_append.mpr ⟨lw_r2, lw_r3⟩⟩
/-! ===== BEGIN words of one list among another's, by their places ===== -/
theorem goodIn_r {big : List Cond} (ws : List Cond) (ps : List Nat) (hp : ws = ps.filterMap (fun i => big[i]?)) (h : ws.all goodWord = true) : GoodIn big ws := by
  intro w hw
  have h1 := List.all_eq_true.mp h w hw
  rw [hp] at hw
  obtain ⟨i, -, hi⟩ := List.mem_filterMap.mp hw
  have hm : w ∈ big := by first | exact List.mem_of_getElem? hi | exact List.getElem?_mem hi
  exact ⟨hm, good_of_word h1⟩
theorem goodIn_app {big a b : List Cond} (ha : GoodIn big a) (hb : GoodIn big b) : GoodIn big (a ++ b) := fun w h => (List.mem_append.mp h).elim (ha w) (hb w)
theorem goodIn_ca {big a b : List Cond} {c : Cond} (ha : GoodIn big (c :: a)) (hb : GoodIn big b) : GoodIn big (c :: (a ++ b)) := fun w h => (List.mem_cons.mp h).elim (fun e => ha w (List.mem_cons.mpr (Or.inl e))) (fun h => (List.mem_append.mp h).elim (fun h => ha w (List.mem_cons.mpr (Or.inr h))) (hb w))
theorem goodIn_sub {big ws : List Cond} (hm : ∀ w ∈ ws, w ∈ big) (h : ws.all goodWord = true) : GoodIn big ws := fun w hw => ⟨hm w hw, good_of_word (List.all_eq_true.mp h w hw)⟩
/-! ===== END ===== -/
def RX0 : String := "BeltArms$Arms"
def TX0 : u_T := fun k => match k with
  | 0 => ("BeltArms$Arms", "froms", "[I", true)
  | 1 => ("BeltArms$Arms", "tills", "[I", true)
  | 2 => ("BeltArms$Arms", "beats", "[I", true)
  | 3 => ("BeltArms$Arms", "offs", "[I", true)
  | _ => ("BeltArms$Arms", "laneSets", "[I", true)
def tyX0 : Nat → FieldType := fun k => match k with
  | 0 => .array .int
  | 1 => .array .int
  | 2 => .array .int
  | 3 => .array .int
  | _ => .array .int
abbrev wsX00 : List Cond := u_ws RX0 TX0 5
theorem nmX0 : ∀ a, a < 5 → ∀ b, b < 5 → a ≠ b → (TX0 a).2.1 ≠ (TX0 b).2.1 := by decide +kernel
theorem tyX0_ok : ∀ k, k < 5 → parseFieldDescriptor (TX0 k).2.2.1 = some (tyX0 k) := by decide +kernel
abbrev cX0_init : ByteArray := prog_2_method_1_code
def yX0_init : MethodName := ⟨RX0, "<init>", "()V"⟩
abbrev cX0_copyFrom : ByteArray := prog_2_method_2_code
def yX0_copyFrom : MethodName := ⟨RX0, "copyFrom", "(LBeltArms$Arms;)V"⟩
abbrev cX0_othersReach : ByteArray := prog_2_method_3_code
def yX0_othersReach : MethodName := ⟨RX0, "othersReach", "(III)Z"⟩
abbrev cX0_hasLane : ByteArray := prog_2_method_4_code
def yX0_hasLane : MethodName := ⟨RX0, "hasLane", "(II)Z"⟩
abbrev cX0_reaches : ByteArray := prog_2_method_5_code
def yX0_reaches : MethodName := ⟨RX0, "reaches", "(II)Z"⟩
abbrev cX0_hasBeatAt : ByteArray := prog_2_method_6_code
def yX0_hasBeatAt : MethodName := ⟨RX0, "hasBeatAt", "(II)Z"⟩
abbrev cX0_beatFrom : ByteArray := prog_2_method_7_code
def yX0_beatFrom : MethodName := ⟨RX0, "beatFrom", "(II)I"⟩
abbrev cX0_beatTill : ByteArray := prog_2_method_8_code
def yX0_beatTill : MethodName := ⟨RX0, "beatTill", "(II)I"⟩
abbrev cX0_nextAlong : ByteArray := prog_2_method_9_code
def yX0_nextAlong : MethodName := ⟨RX0, "nextAlong", "(I)I"⟩
def RX1 : String := "BeltArms$Belt"
def TX1 : u_T := fun k => match k with
  | 0 => ("BeltArms$Belt", "firstSpeed", "I", false)
  | 1 => ("BeltArms$Belt", "changes", "I", false)
  | 2 => ("BeltArms$Belt", "ticks", "[I", true)
  | 3 => ("BeltArms$Belt", "speeds", "[I", true)
  | _ => ("BeltArms$Belt", "goneAt", "[I", true)
def tyX1 : Nat → FieldType := fun k => match k with
  | 0 => .int
  | 1 => .int
  | 2 => .array .int
  | 3 => .array .int
  | _ => .array .int
abbrev wsX10 : List Cond := u_ws RX1 TX1 5
theorem nmX1 : ∀ a, a < 5 → ∀ b, b < 5 → a ≠ b → (TX1 a).2.1 ≠ (TX1 b).2.1 := by decide +kernel
theorem tyX1_ok : ∀ k, k < 5 → parseFieldDescriptor (TX1 k).2.2.1 = some (tyX1 k) := by decide +kernel
abbrev cX1_init : ByteArray := prog_3_method_1_code
def yX1_init : MethodName := ⟨RX1, "<init>", "()V"⟩
abbrev cX1_copyFrom : ByteArray := prog_3_method_2_code
def yX1_copyFrom : MethodName := ⟨RX1, "copyFrom", "(LBeltArms$Belt;)V"⟩
abbrev cX1_begunBy : ByteArray := prog_3_method_3_code
def yX1_begunBy : MethodName := ⟨RX1, "begunBy", "(I)I"⟩
abbrev cX1_speedAt : ByteArray := prog_3_method_4_code
def yX1_speedAt : MethodName := ⟨RX1, "speedAt", "(I)I"⟩
abbrev cX1_changeAt : ByteArray := prog_3_method_5_code
def yX1_changeAt : MethodName := ⟨RX1, "changeAt", "(I)I"⟩
abbrev cX1_tell : ByteArray := prog_3_method_6_code
def yX1_tell : MethodName := ⟨RX1, "tell", "(II)V"⟩
abbrev cX1_insert : ByteArray := prog_3_method_7_code
def yX1_insert : MethodName := ⟨RX1, "insert", "(III)V"⟩
abbrev cX1_forget : ByteArray := prog_3_method_8_code
def yX1_forget : MethodName := ⟨RX1, "forget", "(I)V"⟩
abbrev cX1_addUp : ByteArray := prog_3_method_9_code
def yX1_addUp : MethodName := ⟨RX1, "addUp", "()V"⟩
abbrev cX1_firstTickGone : ByteArray := prog_3_method_10_code
def yX1_firstTickGone : MethodName := ⟨RX1, "firstTickGone", "(I)I"⟩
def RX2 : String := "BeltArms$Plan"
def TX2 : u_T := fun k => match k with
  | 0 => ("BeltArms$Plan", "count", "I", false)
  | 1 => ("BeltArms$Plan", "taken", "I", false)
  | 2 => ("BeltArms$Plan", "slots", "[I", true)
  | 3 => ("BeltArms$Plan", "slotCounts", "[I", true)
  | 4 => ("BeltArms$Plan", "slotOf", "[I", true)
  | 5 => ("BeltArms$Plan", "holderOf", "[I", true)
  | 6 => ("BeltArms$Plan", "queue", "[I", true)
  | 7 => ("BeltArms$Plan", "wantedBy", "[I", true)
  | 8 => ("BeltArms$Plan", "queued", "I", false)
  | 9 => ("BeltArms$Plan", "reachedSet", "I", false)
  | _ => ("BeltArms$Plan", "replaceableSet", "I", false)
def tyX2 : Nat → FieldType := fun k => match k with
  | 0 => .int
  | 1 => .int
  | 2 => .array .int
  | 3 => .array .int
  | 4 => .array .int
  | 5 => .array .int
  | 6 => .array .int
  | 7 => .array .int
  | 8 => .int
  | 9 => .int
  | _ => .int
abbrev wsX20 : List Cond := u_ws RX2 TX2 11
theorem nmX2 : ∀ a, a < 11 → ∀ b, b < 11 → a ≠ b → (TX2 a).2.1 ≠ (TX2 b).2.1 := by decide +kernel
theorem tyX2_ok : ∀ k, k < 11 → parseFieldDescriptor (TX2 k).2.2.1 = some (tyX2 k) := by decide +kernel
abbrev cX2_init : ByteArray := prog_4_method_1_code
def yX2_init : MethodName := ⟨RX2, "<init>", "()V"⟩
abbrev cX2_takeMost : ByteArray := prog_4_method_2_code
def yX2_takeMost : MethodName := ⟨RX2, "takeMost", "(LBeltArms$State;I)V"⟩
abbrev cX2_listSlots : ByteArray := prog_4_method_3_code
def yX2_listSlots : MethodName := ⟨RX2, "listSlots", "(LBeltArms$State;II)V"⟩
abbrev cX2_listSlotsOf : ByteArray := prog_4_method_4_code
def yX2_listSlotsOf : MethodName := ⟨RX2, "listSlotsOf", "(LBeltArms$State;II)V"⟩
abbrev cX2_settle : ByteArray := prog_4_method_5_code
def yX2_settle : MethodName := ⟨RX2, "settle", "()V"⟩
abbrev cX2_settleAt : ByteArray := prog_4_method_6_code
def yX2_settleAt : MethodName := ⟨RX2, "settleAt", "(II)Z"⟩
abbrev cX2_hold : ByteArray := prog_4_method_7_code
def yX2_hold : MethodName := ⟨RX2, "hold", "(II)V"⟩
abbrev cX2_leave : ByteArray := prog_4_method_8_code
def yX2_leave : MethodName := ⟨RX2, "leave", "(I)V"⟩
abbrev cX2_takeOneMore : ByteArray := prog_4_method_9_code
def yX2_takeOneMore : MethodName := ⟨RX2, "takeOneMore", "(I)Z"⟩
abbrev cX2_freeSlot : ByteArray := prog_4_method_10_code
def yX2_freeSlot : MethodName := ⟨RX2, "freeSlot", "(II)I"⟩
abbrev cX2_enqueue : ByteArray := prog_4_method_11_code
def yX2_enqueue : MethodName := ⟨RX2, "enqueue", "(II)V"⟩
abbrev cX2_moveUp : ByteArray := prog_4_method_12_code
def yX2_moveUp : MethodName := ⟨RX2, "moveUp", "(II)V"⟩
abbrev cX2_tickOf : ByteArray := prog_4_method_13_code
def yX2_tickOf : MethodName := ⟨RX2, "tickOf", "(I)I"⟩
abbrev cX2_armOf : ByteArray := prog_4_method_14_code
def yX2_armOf : MethodName := ⟨RX2, "armOf", "(I)I"⟩
abbrev cX2_takenAt : ByteArray := prog_4_method_15_code
def yX2_takenAt : MethodName := ⟨RX2, "takenAt", "(II)I"⟩
abbrev cX2_takenBy : ByteArray := prog_4_method_16_code
def yX2_takenBy : MethodName := ⟨RX2, "takenBy", "(I)I"⟩
abbrev cX2_lastTick : ByteArray := prog_4_method_17_code
def yX2_lastTick : MethodName := ⟨RX2, "lastTick", "()I"⟩
abbrev cX2_missedSet : ByteArray := prog_4_method_18_code
def yX2_missedSet : MethodName := ⟨RX2, "missedSet", "()I"⟩
abbrev cX2_neededSet : ByteArray := prog_4_method_19_code
def yX2_neededSet : MethodName := ⟨RX2, "neededSet", "()I"⟩
abbrev cX2_nextTaken : ByteArray := prog_4_method_20_code
def yX2_nextTaken : MethodName := ⟨RX2, "nextTaken", "(I)I"⟩
def RX3 : String := "BeltArms$State"
def TX3 : u_T := fun k => match k with
  | 0 => ("BeltArms$State", "belt", "LBeltArms$Belt;", true)
  | 1 => ("BeltArms$State", "things", "LBeltArms$Things;", true)
  | 2 => ("BeltArms$State", "arms", "LBeltArms$Arms;", true)
  | 3 => ("BeltArms$State", "near", "I", false)
  | _ => ("BeltArms$State", "share", "I", false)
def tyX3 : Nat → FieldType := fun k => match k with
  | 0 => .object "BeltArms$Belt"
  | 1 => .object "BeltArms$Things"
  | 2 => .object "BeltArms$Arms"
  | 3 => .int
  | _ => .int
abbrev wsX30 : List Cond := u_ws RX3 TX3 5
theorem nmX3 : ∀ a, a < 5 → ∀ b, b < 5 → a ≠ b → (TX3 a).2.1 ≠ (TX3 b).2.1 := by decide +kernel
theorem tyX3_ok : ∀ k, k < 5 → parseFieldDescriptor (TX3 k).2.2.1 = some (tyX3 k) := by decide +kernel
abbrev cX3_init : ByteArray := prog_5_method_1_code
def yX3_init : MethodName := ⟨RX3, "<init>", "()V"⟩
abbrev cX3_copyFrom : ByteArray := prog_5_method_2_code
def yX3_copyFrom : MethodName := ⟨RX3, "copyFrom", "(LBeltArms$State;)V"⟩
abbrev cX3_placeAt : ByteArray := prog_5_method_3_code
def yX3_placeAt : MethodName := ⟨RX3, "placeAt", "(II)I"⟩
abbrev cX3_nearest : ByteArray := prog_5_method_4_code
def yX3_nearest : MethodName := ⟨RX3, "nearest", "(IIII)I"⟩
abbrev cX3_canTake : ByteArray := prog_5_method_5_code
def yX3_canTake : MethodName := ⟨RX3, "canTake", "(III)Z"⟩
abbrev cX3_firstChanceOf : ByteArray := prog_5_method_6_code
def yX3_firstChanceOf : MethodName := ⟨RX3, "firstChanceOf", "(II)I"⟩
abbrev cX3_lastChanceOf : ByteArray := prog_5_method_7_code
def yX3_lastChanceOf : MethodName := ⟨RX3, "lastChanceOf", "(II)I"⟩
abbrev cX3_firstChance : ByteArray := prog_5_method_8_code
def yX3_firstChance : MethodName := ⟨RX3, "firstChance", "(I)I"⟩
abbrev cX3_lastChance : ByteArray := prog_5_method_9_code
def yX3_lastChance : MethodName := ⟨RX3, "lastChance", "(I)I"⟩
abbrev cX3_chances : ByteArray := prog_5_method_10_code
def yX3_chances : MethodName := ⟨RX3, "chances", "(I)I"⟩
def RX4 : String := "BeltArms$Things"
def TX4 : u_T := fun k => match k with
  | 0 => ("BeltArms$Things", "count", "I", false)
  | 1 => ("BeltArms$Things", "ticks", "[I", true)
  | 2 => ("BeltArms$Things", "lanes", "[I", true)
  | 3 => ("BeltArms$Things", "places", "[I", true)
  | 4 => ("BeltArms$Things", "kinds", "[I", true)
  | _ => ("BeltArms$Things", "seen", "[J", true)
def tyX4 : Nat → FieldType := fun k => match k with
  | 0 => .int
  | 1 => .array .int
  | 2 => .array .int
  | 3 => .array .int
  | 4 => .array .int
  | _ => .array .long
abbrev wsX40 : List Cond := u_ws RX4 TX4 6
theorem nmX4 : ∀ a, a < 6 → ∀ b, b < 6 → a ≠ b → (TX4 a).2.1 ≠ (TX4 b).2.1 := by decide +kernel
theorem tyX4_ok : ∀ k, k < 6 → parseFieldDescriptor (TX4 k).2.2.1 = some (tyX4 k) := by decide +kernel
abbrev cX4_init : ByteArray := prog_6_method_1_code
def yX4_init : MethodName := ⟨RX4, "<init>", "()V"⟩
abbrev cX4_copyFrom : ByteArray := prog_6_method_2_code
def yX4_copyFrom : MethodName := ⟨RX4, "copyFrom", "(LBeltArms$Things;)V"⟩
abbrev cX4_append : ByteArray := prog_6_method_3_code
def yX4_append : MethodName := ⟨RX4, "append", "(IIII)V"⟩
abbrev cX4_remove : ByteArray := prog_6_method_4_code
def yX4_remove : MethodName := ⟨RX4, "remove", "(I)V"⟩
abbrev cX4_markSeen : ByteArray := prog_6_method_5_code
def yX4_markSeen : MethodName := ⟨RX4, "markSeen", "(II)V"⟩
abbrev cX4_wasSeen : ByteArray := prog_6_method_6_code
def yX4_wasSeen : MethodName := ⟨RX4, "wasSeen", "(II)Z"⟩
abbrev cX4_timesSeen : ByteArray := prog_6_method_7_code
def yX4_timesSeen : MethodName := ⟨RX4, "timesSeen", "(I)I"⟩
abbrev cX4_seenOften : ByteArray := prog_6_method_8_code
def yX4_seenOften : MethodName := ⟨RX4, "seenOften", "()I"⟩
abbrev cX4_ofKind : ByteArray := prog_6_method_9_code
def yX4_ofKind : MethodName := ⟨RX4, "ofKind", "(I)I"⟩
def RX5 : String := "BeltArms$Trays"
def TX5 : u_T := fun k => match k with
  | 0 => ("BeltArms$Trays", "parts", "[I", true)
  | _ => ("BeltArms$Trays", "laid", "[I", true)
def tyX5 : Nat → FieldType := fun k => match k with
  | 0 => .array .int
  | _ => .array .int
abbrev wsX50 : List Cond := u_ws RX5 TX5 2
theorem nmX5 : ∀ a, a < 2 → ∀ b, b < 2 → a ≠ b → (TX5 a).2.1 ≠ (TX5 b).2.1 := by decide +kernel
theorem tyX5_ok : ∀ k, k < 2 → parseFieldDescriptor (TX5 k).2.2.1 = some (tyX5 k) := by decide +kernel
abbrev cX5_init : ByteArray := prog_7_method_1_code
def yX5_init : MethodName := ⟨RX5, "<init>", "()V"⟩
abbrev cX5_lay : ByteArray := prog_7_method_2_code
def yX5_lay : MethodName := ⟨RX5, "lay", "(LBeltArms$Plan;LBeltArms$State;)V"⟩
abbrev cX5_emptiest : ByteArray := prog_7_method_3_code
def yX5_emptiest : MethodName := ⟨RX5, "emptiest", "(II)I"⟩
def RX6 : String := "BeltArms"
def TX6 : u_T := fun k => match k with
  | 0 => ("BeltArms", "now", "LBeltArms$State;", true)
  | 1 => ("BeltArms", "images", "[LBeltArms$State;", true)
  | 2 => ("BeltArms", "kept", "I", false)
  | 3 => ("BeltArms", "thePlan", "LBeltArms$Plan;", true)
  | 4 => ("BeltArms", "lessOneArm", "LBeltArms$Plan;", true)
  | 5 => ("BeltArms", "trays", "LBeltArms$Trays;", true)
  | _ => ("BeltArms", "stale", "Z", false)
def tyX6 : Nat → FieldType := fun k => match k with
  | 0 => .object "BeltArms$State"
  | 1 => .array (.object "BeltArms$State")
  | 2 => .int
  | 3 => .object "BeltArms$Plan"
  | 4 => .object "BeltArms$Plan"
  | 5 => .object "BeltArms$Trays"
  | _ => .boolean
abbrev wsX60 : List Cond := u_ws RX6 TX6 7
theorem nmX6 : ∀ a, a < 7 → ∀ b, b < 7 → a ≠ b → (TX6 a).2.1 ≠ (TX6 b).2.1 := by decide +kernel
theorem tyX6_ok : ∀ k, k < 7 → parseFieldDescriptor (TX6 k).2.2.1 = some (tyX6 k) := by decide +kernel
abbrev cX6_init : ByteArray := prog_1_method_1_code
def yX6_init : MethodName := ⟨RX6, "<init>", "()V"⟩
abbrev cX6_speed : ByteArray := prog_1_method_2_code
def yX6_speed : MethodName := ⟨RX6, "speed", "(II)I"⟩
abbrev cX6_level : ByteArray := prog_1_method_3_code
def yX6_level : MethodName := ⟨RX6, "level", "(I)I"⟩
abbrev cX6_gone : ByteArray := prog_1_method_4_code
def yX6_gone : MethodName := ⟨RX6, "gone", "(I)I"⟩
abbrev cX6_see : ByteArray := prog_1_method_5_code
def yX6_see : MethodName := ⟨RX6, "see", "(IIII)I"⟩
abbrev cX6_drop : ByteArray := prog_1_method_6_code
def yX6_drop : MethodName := ⟨RX6, "drop", "(I)I"⟩
abbrev cX6_thing : ByteArray := prog_1_method_7_code
def yX6_thing : MethodName := ⟨RX6, "thing", "(II)I"⟩
abbrev cX6_place : ByteArray := prog_1_method_8_code
def yX6_place : MethodName := ⟨RX6, "place", "(II)I"⟩
abbrev cX6_reach : ByteArray := prog_1_method_9_code
def yX6_reach : MethodName := ⟨RX6, "reach", "(III)I"⟩
abbrev cX6_beat : ByteArray := prog_1_method_10_code
def yX6_beat : MethodName := ⟨RX6, "beat", "(III)I"⟩
abbrev cX6_lanes : ByteArray := prog_1_method_11_code
def yX6_lanes : MethodName := ⟨RX6, "lanes", "(II)I"⟩
abbrev cX6_arm : ByteArray := prog_1_method_12_code
def yX6_arm : MethodName := ⟨RX6, "arm", "(II)I"⟩
abbrev cX6_can : ByteArray := prog_1_method_13_code
def yX6_can : MethodName := ⟨RX6, "can", "(III)I"⟩
abbrev cX6_takes : ByteArray := prog_1_method_14_code
def yX6_takes : MethodName := ⟨RX6, "takes", "(II)I"⟩
abbrev cX6_plan : ByteArray := prog_1_method_15_code
def yX6_plan : MethodName := ⟨RX6, "plan", "(I)I"⟩
abbrev cX6_tray : ByteArray := prog_1_method_16_code
def yX6_tray : MethodName := ⟨RX6, "tray", "(II)I"⟩
abbrev cX6_set : ByteArray := prog_1_method_17_code
def yX6_set : MethodName := ⟨RX6, "set", "(II)I"⟩
abbrev cX6_image : ByteArray := prog_1_method_18_code
def yX6_image : MethodName := ⟨RX6, "image", "(I)I"⟩
abbrev cX6_restore : ByteArray := prog_1_method_19_code
def yX6_restore : MethodName := ⟨RX6, "restore", "(I)I"⟩
abbrev cX6_count : ByteArray := prog_1_method_20_code
def yX6_count : MethodName := ⟨RX6, "count", "(I)I"⟩
abbrev cX6_isWithin : ByteArray := prog_1_method_21_code
def yX6_isWithin : MethodName := ⟨RX6, "isWithin", "(III)Z"⟩
abbrev cX6_isTick : ByteArray := prog_1_method_22_code
def yX6_isTick : MethodName := ⟨RX6, "isTick", "(I)Z"⟩
abbrev cX6_isArm : ByteArray := prog_1_method_23_code
def yX6_isArm : MethodName := ⟨RX6, "isArm", "(I)Z"⟩
abbrev cX6_isThing : ByteArray := prog_1_method_24_code
def yX6_isThing : MethodName := ⟨RX6, "isThing", "(I)Z"⟩
abbrev cX6_freshPlan : ByteArray := prog_1_method_25_code
def yX6_freshPlan : MethodName := ⟨RX6, "freshPlan", "()LBeltArms$Plan;"⟩
def RX7 : String := "BeltArmsModel"
def TX7 : u_T := fun k => match k with
  | 0 => ("BeltArmsModel", "state", "[I", true)
  | 1 => ("BeltArmsModel", "images", "[I", true)
  | 2 => ("BeltArmsModel", "isKept", "[Z", true)
  | 3 => ("BeltArmsModel", "gone", "[I", true)
  | 4 => ("BeltArmsModel", "armAt", "[I", true)
  | 5 => ("BeltArmsModel", "taker", "[I", true)
  | 6 => ("BeltArmsModel", "isFixed", "[Z", true)
  | 7 => ("BeltArmsModel", "isOut", "[Z", true)
  | 8 => ("BeltArmsModel", "still", "[I", true)
  | 9 => ("BeltArmsModel", "wayFrom", "[I", true)
  | 10 => ("BeltArmsModel", "slotOf", "[I", true)
  | 11 => ("BeltArmsModel", "when", "[I", true)
  | 12 => ("BeltArmsModel", "by", "[I", true)
  | 13 => ("BeltArmsModel", "taken", "I", false)
  | 14 => ("BeltArmsModel", "parts", "[I", true)
  | _ => ("BeltArmsModel", "partOf", "[I", true)
def tyX7 : Nat → FieldType := fun k => match k with
  | 0 => .array .int
  | 1 => .array .int
  | 2 => .array .boolean
  | 3 => .array .int
  | 4 => .array .int
  | 5 => .array .int
  | 6 => .array .boolean
  | 7 => .array .boolean
  | 8 => .array .int
  | 9 => .array .int
  | 10 => .array .int
  | 11 => .array .int
  | 12 => .array .int
  | 13 => .int
  | 14 => .array .int
  | _ => .array .int
abbrev wsX70 : List Cond := u_ws RX7 TX7 16
theorem nmX7 : ∀ a, a < 16 → ∀ b, b < 16 → a ≠ b → (TX7 a).2.1 ≠ (TX7 b).2.1 := by decide +kernel
theorem tyX7_ok : ∀ k, k < 16 → parseFieldDescriptor (TX7 k).2.2.1 = some (tyX7 k) := by decide +kernel
abbrev cX7_init : ByteArray := prog_9_method_1_code
def yX7_init : MethodName := ⟨RX7, "<init>", "()V"⟩
abbrev cX7_in : ByteArray := prog_9_method_2_code
def yX7_in : MethodName := ⟨RX7, "in", "(III)Z"⟩
abbrev cX7_isTick : ByteArray := prog_9_method_3_code
def yX7_isTick : MethodName := ⟨RX7, "isTick", "(I)Z"⟩
abbrev cX7_isThing : ByteArray := prog_9_method_4_code
def yX7_isThing : MethodName := ⟨RX7, "isThing", "(I)Z"⟩
abbrev cX7_isArm : ByteArray := prog_9_method_5_code
def yX7_isArm : MethodName := ⟨RX7, "isArm", "(I)Z"⟩
abbrev cX7_size : ByteArray := prog_9_method_6_code
def yX7_size : MethodName := ⟨RX7, "size", "(I)I"⟩
abbrev cX7_changes : ByteArray := prog_9_method_7_code
def yX7_changes : MethodName := ⟨RX7, "changes", "()I"⟩
abbrev cX7_speedAt : ByteArray := prog_9_method_8_code
def yX7_speedAt : MethodName := ⟨RX7, "speedAt", "(I)I"⟩
abbrev cX7_speed : ByteArray := prog_9_method_9_code
def yX7_speed : MethodName := ⟨RX7, "speed", "(II)I"⟩
abbrev cX7_level : ByteArray := prog_9_method_10_code
def yX7_level : MethodName := ⟨RX7, "level", "(I)I"⟩
abbrev cX7_layGone : ByteArray := prog_9_method_11_code
def yX7_layGone : MethodName := ⟨RX7, "layGone", "()V"⟩
abbrev cX7_gone : ByteArray := prog_9_method_12_code
def yX7_gone : MethodName := ⟨RX7, "gone", "(I)I"⟩
abbrev cX7_placeOf : ByteArray := prog_9_method_13_code
def yX7_placeOf : MethodName := ⟨RX7, "placeOf", "(II)I"⟩
abbrev cX7_wasSeen : ByteArray := prog_9_method_14_code
def yX7_wasSeen : MethodName := ⟨RX7, "wasSeen", "(II)Z"⟩
abbrev cX7_see : ByteArray := prog_9_method_15_code
def yX7_see : MethodName := ⟨RX7, "see", "(IIII)I"⟩
abbrev cX7_drop : ByteArray := prog_9_method_16_code
def yX7_drop : MethodName := ⟨RX7, "drop", "(I)I"⟩
abbrev cX7_place : ByteArray := prog_9_method_17_code
def yX7_place : MethodName := ⟨RX7, "place", "(II)I"⟩
abbrev cX7_seenOf : ByteArray := prog_9_method_18_code
def yX7_seenOf : MethodName := ⟨RX7, "seenOf", "(I)I"⟩
abbrev cX7_reach : ByteArray := prog_9_method_19_code
def yX7_reach : MethodName := ⟨RX7, "reach", "(III)I"⟩
abbrev cX7_beat : ByteArray := prog_9_method_20_code
def yX7_beat : MethodName := ⟨RX7, "beat", "(III)I"⟩
abbrev cX7_lanes : ByteArray := prog_9_method_21_code
def yX7_lanes : MethodName := ⟨RX7, "lanes", "(II)I"⟩
abbrev cX7_canTake : ByteArray := prog_9_method_22_code
def yX7_canTake : MethodName := ⟨RX7, "canTake", "(III)Z"⟩
abbrev cX7_can : ByteArray := prog_9_method_23_code
def yX7_can : MethodName := ⟨RX7, "can", "(III)I"⟩
abbrev cX7_layArms : ByteArray := prog_9_method_24_code
def yX7_layArms : MethodName := ⟨RX7, "layArms", "(I)V"⟩
abbrev cX7_slot : ByteArray := prog_9_method_25_code
def yX7_slot : MethodName := ⟨RX7, "slot", "(II)I"⟩
abbrev cX7_find : ByteArray := prog_9_method_26_code
def yX7_find : MethodName := ⟨RX7, "find", "(I)Z"⟩
abbrev cX7_turn : ByteArray := prog_9_method_27_code
def yX7_turn : MethodName := ⟨RX7, "turn", "(II)V"⟩
abbrev cX7_most : ByteArray := prog_9_method_28_code
def yX7_most : MethodName := ⟨RX7, "most", "(I)I"⟩
abbrev cX7_clear : ByteArray := prog_9_method_29_code
def yX7_clear : MethodName := ⟨RX7, "clear", "()V"⟩
abbrev cX7_layPlan : ByteArray := prog_9_method_30_code
def yX7_layPlan : MethodName := ⟨RX7, "layPlan", "()V"⟩
abbrev cX7_mostWithout : ByteArray := prog_9_method_31_code
def yX7_mostWithout : MethodName := ⟨RX7, "mostWithout", "(I)I"⟩
abbrev cX7_layTrays : ByteArray := prog_9_method_32_code
def yX7_layTrays : MethodName := ⟨RX7, "layTrays", "()V"⟩
abbrev cX7_tray : ByteArray := prog_9_method_33_code
def yX7_tray : MethodName := ⟨RX7, "tray", "(II)I"⟩
abbrev cX7_canAt : ByteArray := prog_9_method_34_code
def yX7_canAt : MethodName := ⟨RX7, "canAt", "(II)I"⟩
abbrev cX7_planned : ByteArray := prog_9_method_35_code
def yX7_planned : MethodName := ⟨RX7, "planned", "(II)I"⟩
abbrev cX7_thing : ByteArray := prog_9_method_36_code
def yX7_thing : MethodName := ⟨RX7, "thing", "(II)I"⟩
abbrev cX7_takenBy : ByteArray := prog_9_method_37_code
def yX7_takenBy : MethodName := ⟨RX7, "takenBy", "(I)I"⟩
abbrev cX7_arm : ByteArray := prog_9_method_38_code
def yX7_arm : MethodName := ⟨RX7, "arm", "(II)I"⟩
abbrev cX7_takes : ByteArray := prog_9_method_39_code
def yX7_takes : MethodName := ⟨RX7, "takes", "(II)I"⟩
abbrev cX7_inEach : ByteArray := prog_9_method_40_code
def yX7_inEach : MethodName := ⟨RX7, "inEach", "()I"⟩
abbrev cX7_plan : ByteArray := prog_9_method_41_code
def yX7_plan : MethodName := ⟨RX7, "plan", "(I)I"⟩
abbrev cX7_set : ByteArray := prog_9_method_42_code
def yX7_set : MethodName := ⟨RX7, "set", "(II)I"⟩
abbrev cX7_image : ByteArray := prog_9_method_43_code
def yX7_image : MethodName := ⟨RX7, "image", "(I)I"⟩
abbrev cX7_restore : ByteArray := prog_9_method_44_code
def yX7_restore : MethodName := ⟨RX7, "restore", "(I)I"⟩
abbrev cX7_seenTwice : ByteArray := prog_9_method_45_code
def yX7_seenTwice : MethodName := ⟨RX7, "seenTwice", "()I"⟩
abbrev cX7_ofKind : ByteArray := prog_9_method_46_code
def yX7_ofKind : MethodName := ⟨RX7, "ofKind", "(I)I"⟩
abbrev cX7_count : ByteArray := prog_9_method_47_code
def yX7_count : MethodName := ⟨RX7, "count", "(I)I"⟩
def RJ13 : String := "java/lang/Long"
def TJ13 : u_T := fun k => match k with
  | _ => ("", "", "", false)
def tyJ13 : Nat → FieldType := fun k => match k with
  | _ => .int
abbrev wsJ130 : List Cond := u_ws RJ13 TJ13 0
theorem nmJ13 : ∀ a, a < 0 → ∀ b, b < 0 → a ≠ b → (TJ13 a).2.1 ≠ (TJ13 b).2.1 := by decide +kernel
theorem tyJ13_ok : ∀ k, k < 0 → parseFieldDescriptor (TJ13 k).2.2.1 = some (tyJ13 k) := by decide +kernel
abbrev cJ13_bitCount_95d88 : ByteArray := prog_10_method_50_code
def yJ13_bitCount_95d88 : MethodName := ⟨RJ13, "bitCount", "(J)I"⟩
def RJ9 : String := "java/lang/Math"
def TJ9 : u_T := fun k => match k with
  | _ => ("", "", "", false)
def tyJ9 : Nat → FieldType := fun k => match k with
  | _ => .int
abbrev wsJ90 : List Cond := u_ws RJ9 TJ9 0
theorem nmJ9 : ∀ a, a < 0 → ∀ b, b < 0 → a ≠ b → (TJ9 a).2.1 ≠ (TJ9 b).2.1 := by decide +kernel
theorem tyJ9_ok : ∀ k, k < 0 → parseFieldDescriptor (TJ9 k).2.2.1 = some (tyJ9 k) := by decide +kernel
abbrev cJ9_floorMod_7cf53 : ByteArray := prog_11_method_50_code
def yJ9_floorMod_7cf53 : MethodName := ⟨RJ9, "floorMod", "(II)I"⟩
abbrev cJ9_abs_0f7a4 : ByteArray := prog_11_method_59_code
def yJ9_abs_0f7a4 : MethodName := ⟨RJ9, "abs", "(I)I"⟩
abbrev cJ9_max_7cf53 : ByteArray := prog_11_method_65_code
def yJ9_max_7cf53 : MethodName := ⟨RJ9, "max", "(II)I"⟩
abbrev cJ9_min_7cf53 : ByteArray := prog_11_method_69_code
def yJ9_min_7cf53 : MethodName := ⟨RJ9, "min", "(II)I"⟩
def RJ10 : String := "java/lang/System"
def TJ10 : u_T := fun k => match k with
  | _ => ("", "", "", false)
def tyJ10 : Nat → FieldType := fun k => match k with
  | _ => .int
abbrev wsJ100 : List Cond := u_ws RJ10 TJ10 0
theorem nmJ10 : ∀ a, a < 0 → ∀ b, b < 0 → a ≠ b → (TJ10 a).2.1 ≠ (TJ10 b).2.1 := by decide +kernel
theorem tyJ10_ok : ∀ k, k < 0 → parseFieldDescriptor (TJ10 k).2.2.1 = some (tyJ10 k) := by decide +kernel
def RJ7 : String := "java/util/Arrays"
def TJ7 : u_T := fun k => match k with
  | _ => ("", "", "", false)
def tyJ7 : Nat → FieldType := fun k => match k with
  | _ => .int
abbrev wsJ70 : List Cond := u_ws RJ7 TJ7 0
theorem nmJ7 : ∀ a, a < 0 → ∀ b, b < 0 → a ≠ b → (TJ7 a).2.1 ≠ (TJ7 b).2.1 := by decide +kernel
theorem tyJ7_ok : ∀ k, k < 0 → parseFieldDescriptor (TJ7 k).2.2.1 = some (tyJ7 k) := by decide +kernel
abbrev cJ7_fill_53178 : ByteArray := prog_13_method_103_code
def yJ7_fill_53178 : MethodName := ⟨RJ7, "fill", "([II)V"⟩
def RL : String := "BeltArmsLaw"
abbrev cL_law : ByteArray := code
def yL_law : MethodName := ⟨RL, "law", "([I)Z"⟩
end
section
theorem dX0_init_0 : decode cX0_init 0 = .ok (.aload_n 0, 1) := by decide +kernel
theorem dX0_init_1 : decode cX0_init 1 = .ok (.invokespecial 3, 3) := by decide +kernel
theorem dX0_init_4 : decode cX0_init 4 = .ok (.aload_n 0, 1) := by decide +kernel
theorem dX0_init_5 : decode cX0_init 5 = .ok (.iconst 4, 1) := by decide +kernel
theorem dX0_init_6 : decode cX0_init 6 = .ok (.newarray .int, 2) := by decide +kernel
theorem dX0_init_8 : decode cX0_init 8 = .ok (.dup, 1) := by decide +kernel
theorem dX0_init_9 : decode cX0_init 9 = .ok (.iconst 0, 1) := by decide +kernel
theorem dX0_init_10 : decode cX0_init 10 = .ok (.bipush 100, 2) := by decide +kernel
theorem dX0_init_12 : decode cX0_init 12 = .ok (.iastore, 1) := by decide +kernel
theorem dX0_init_13 : decode cX0_init 13 = .ok (.dup, 1) := by decide +kernel
theorem dX0_init_14 : decode cX0_init 14 = .ok (.iconst 1, 1) := by decide +kernel
theorem dX0_init_15 : decode cX0_init 15 = .ok (.sipush 200, 3) := by decide +kernel
theorem dX0_init_18 : decode cX0_init 18 = .ok (.iastore, 1) := by decide +kernel
theorem dX0_init_19 : decode cX0_init 19 = .ok (.dup, 1) := by decide +kernel
theorem dX0_init_20 : decode cX0_init 20 = .ok (.iconst 2, 1) := by decide +kernel
theorem dX0_init_21 : decode cX0_init 21 = .ok (.sipush 300, 3) := by decide +kernel
theorem dX0_init_24 : decode cX0_init 24 = .ok (.iastore, 1) := by decide +kernel
theorem dX0_init_25 : decode cX0_init 25 = .ok (.dup, 1) := by decide +kernel
theorem dX0_init_26 : decode cX0_init 26 = .ok (.iconst 3, 1) := by decide +kernel
theorem dX0_init_27 : decode cX0_init 27 = .ok (.sipush 400, 3) := by decide +kernel
theorem dX0_init_30 : decode cX0_init 30 = .ok (.iastore, 1) := by decide +kernel
theorem dX0_init_31 : decode cX0_init 31 = .ok (.putfield 9, 3) := by decide +kernel
theorem dX0_init_34 : decode cX0_init 34 = .ok (.aload_n 0, 1) := by decide +kernel
theorem dX0_init_35 : decode cX0_init 35 = .ok (.iconst 4, 1) := by decide +kernel
theorem dX0_init_36 : decode cX0_init 36 = .ok (.newarray .int, 2) := by decide +kernel
theorem dX0_init_38 : decode cX0_init 38 = .ok (.dup, 1) := by decide +kernel
theorem dX0_init_39 : decode cX0_init 39 = .ok (.iconst 0, 1) := by decide +kernel
theorem dX0_init_40 : decode cX0_init 40 = .ok (.sipush 160, 3) := by decide +kernel
theorem dX0_init_43 : decode cX0_init 43 = .ok (.iastore, 1) := by decide +kernel
theorem dX0_init_44 : decode cX0_init 44 = .ok (.dup, 1) := by decide +kernel
theorem dX0_init_45 : decode cX0_init 45 = .ok (.iconst 1, 1) := by decide +kernel
theorem dX0_init_46 : decode cX0_init 46 = .ok (.sipush 260, 3) := by decide +kernel
theorem dX0_init_49 : decode cX0_init 49 = .ok (.iastore, 1) := by decide +kernel
theorem dX0_init_50 : decode cX0_init 50 = .ok (.dup, 1) := by decide +kernel
theorem dX0_init_51 : decode cX0_init 51 = .ok (.iconst 2, 1) := by decide +kernel
theorem dX0_init_52 : decode cX0_init 52 = .ok (.sipush 360, 3) := by decide +kernel
theorem dX0_init_55 : decode cX0_init 55 = .ok (.iastore, 1) := by decide +kernel
theorem dX0_init_56 : decode cX0_init 56 = .ok (.dup, 1) := by decide +kernel
theorem dX0_init_57 : decode cX0_init 57 = .ok (.iconst 3, 1) := by decide +kernel
theorem dX0_init_58 : decode cX0_init 58 = .ok (.sipush 460, 3) := by decide +kernel
theorem dX0_init_61 : decode cX0_init 61 = .ok (.iastore, 1) := by decide +kernel
theorem dX0_init_62 : decode cX0_init 62 = .ok (.putfield 15, 3) := by decide +kernel
theorem dX0_init_65 : decode cX0_init 65 = .ok (.aload_n 0, 1) := by decide +kernel
theorem dX0_init_66 : decode cX0_init 66 = .ok (.iconst 4, 1) := by decide +kernel
theorem dX0_init_67 : decode cX0_init 67 = .ok (.newarray .int, 2) := by decide +kernel
theorem dX0_init_69 : decode cX0_init 69 = .ok (.dup, 1) := by decide +kernel
theorem dX0_init_70 : decode cX0_init 70 = .ok (.iconst 0, 1) := by decide +kernel
theorem dX0_init_71 : decode cX0_init 71 = .ok (.iconst 5, 1) := by decide +kernel
theorem dX0_init_72 : decode cX0_init 72 = .ok (.iastore, 1) := by decide +kernel
theorem dX0_init_73 : decode cX0_init 73 = .ok (.dup, 1) := by decide +kernel
theorem dX0_init_74 : decode cX0_init 74 = .ok (.iconst 1, 1) := by decide +kernel
theorem dX0_init_75 : decode cX0_init 75 = .ok (.iconst 5, 1) := by decide +kernel
theorem dX0_init_76 : decode cX0_init 76 = .ok (.iastore, 1) := by decide +kernel
theorem dX0_init_77 : decode cX0_init 77 = .ok (.dup, 1) := by decide +kernel
theorem dX0_init_78 : decode cX0_init 78 = .ok (.iconst 2, 1) := by decide +kernel
theorem dX0_init_79 : decode cX0_init 79 = .ok (.iconst 5, 1) := by decide +kernel
theorem dX0_init_80 : decode cX0_init 80 = .ok (.iastore, 1) := by decide +kernel
theorem dX0_init_81 : decode cX0_init 81 = .ok (.dup, 1) := by decide +kernel
theorem dX0_init_82 : decode cX0_init 82 = .ok (.iconst 3, 1) := by decide +kernel
theorem dX0_init_83 : decode cX0_init 83 = .ok (.iconst 5, 1) := by decide +kernel
theorem dX0_init_84 : decode cX0_init 84 = .ok (.iastore, 1) := by decide +kernel
theorem dX0_init_85 : decode cX0_init 85 = .ok (.putfield 18, 3) := by decide +kernel
theorem dX0_init_88 : decode cX0_init 88 = .ok (.aload_n 0, 1) := by decide +kernel
theorem dX0_init_89 : decode cX0_init 89 = .ok (.iconst 4, 1) := by decide +kernel
theorem dX0_init_90 : decode cX0_init 90 = .ok (.newarray .int, 2) := by decide +kernel
theorem dX0_init_92 : decode cX0_init 92 = .ok (.dup, 1) := by decide +kernel
theorem dX0_init_93 : decode cX0_init 93 = .ok (.iconst 0, 1) := by decide +kernel
theorem dX0_init_94 : decode cX0_init 94 = .ok (.iconst 0, 1) := by decide +kernel
theorem dX0_init_95 : decode cX0_init 95 = .ok (.iastore, 1) := by decide +kernel
theorem dX0_init_96 : decode cX0_init 96 = .ok (.dup, 1) := by decide +kernel
theorem dX0_init_97 : decode cX0_init 97 = .ok (.iconst 1, 1) := by decide +kernel
theorem dX0_init_98 : decode cX0_init 98 = .ok (.iconst 0, 1) := by decide +kernel
theorem dX0_init_99 : decode cX0_init 99 = .ok (.iastore, 1) := by decide +kernel
theorem dX0_init_100 : decode cX0_init 100 = .ok (.dup, 1) := by decide +kernel
theorem dX0_init_101 : decode cX0_init 101 = .ok (.iconst 2, 1) := by decide +kernel
theorem dX0_init_102 : decode cX0_init 102 = .ok (.iconst 0, 1) := by decide +kernel
theorem dX0_init_103 : decode cX0_init 103 = .ok (.iastore, 1) := by decide +kernel
theorem dX0_init_104 : decode cX0_init 104 = .ok (.dup, 1) := by decide +kernel
theorem dX0_init_105 : decode cX0_init 105 = .ok (.iconst 3, 1) := by decide +kernel
theorem dX0_init_106 : decode cX0_init 106 = .ok (.iconst 0, 1) := by decide +kernel
theorem dX0_init_107 : decode cX0_init 107 = .ok (.iastore, 1) := by decide +kernel
theorem dX0_init_108 : decode cX0_init 108 = .ok (.putfield 21, 3) := by decide +kernel
theorem dX0_init_111 : decode cX0_init 111 = .ok (.aload_n 0, 1) := by decide +kernel
theorem dX0_init_112 : decode cX0_init 112 = .ok (.iconst 4, 1) := by decide +kernel
theorem dX0_init_113 : decode cX0_init 113 = .ok (.newarray .int, 2) := by decide +kernel
theorem dX0_init_115 : decode cX0_init 115 = .ok (.dup, 1) := by decide +kernel
theorem dX0_init_116 : decode cX0_init 116 = .ok (.iconst 0, 1) := by decide +kernel
theorem dX0_init_117 : decode cX0_init 117 = .ok (.bipush 15, 2) := by decide +kernel
theorem dX0_init_119 : decode cX0_init 119 = .ok (.iastore, 1) := by decide +kernel
theorem dX0_init_120 : decode cX0_init 120 = .ok (.dup, 1) := by decide +kernel
theorem dX0_init_121 : decode cX0_init 121 = .ok (.iconst 1, 1) := by decide +kernel
theorem dX0_init_122 : decode cX0_init 122 = .ok (.bipush 15, 2) := by decide +kernel
theorem dX0_init_124 : decode cX0_init 124 = .ok (.iastore, 1) := by decide +kernel
theorem dX0_init_125 : decode cX0_init 125 = .ok (.dup, 1) := by decide +kernel
theorem dX0_init_126 : decode cX0_init 126 = .ok (.iconst 2, 1) := by decide +kernel
theorem dX0_init_127 : decode cX0_init 127 = .ok (.bipush 15, 2) := by decide +kernel
theorem dX0_init_129 : decode cX0_init 129 = .ok (.iastore, 1) := by decide +kernel
theorem dX0_init_130 : decode cX0_init 130 = .ok (.dup, 1) := by decide +kernel
theorem dX0_init_131 : decode cX0_init 131 = .ok (.iconst 3, 1) := by decide +kernel
theorem dX0_init_132 : decode cX0_init 132 = .ok (.bipush 15, 2) := by decide +kernel
theorem dX0_init_134 : decode cX0_init 134 = .ok (.iastore, 1) := by decide +kernel
theorem dX0_init_135 : decode cX0_init 135 = .ok (.putfield 24, 3) := by decide +kernel
theorem dX0_init_138 : decode cX0_init 138 = .ok (.return_, 1) := by decide +kernel
theorem dX0_copyFrom_0 : decode cX0_copyFrom 0 = .ok (.aload_n 1, 1) := by decide +kernel
theorem dX0_copyFrom_1 : decode cX0_copyFrom 1 = .ok (.getfield 9, 3) := by decide +kernel
theorem dX0_copyFrom_4 : decode cX0_copyFrom 4 = .ok (.iconst 0, 1) := by decide +kernel
theorem dX0_copyFrom_5 : decode cX0_copyFrom 5 = .ok (.aload_n 0, 1) := by decide +kernel
theorem dX0_copyFrom_6 : decode cX0_copyFrom 6 = .ok (.getfield 9, 3) := by decide +kernel
theorem dX0_copyFrom_9 : decode cX0_copyFrom 9 = .ok (.iconst 0, 1) := by decide +kernel
theorem dX0_copyFrom_10 : decode cX0_copyFrom 10 = .ok (.iconst 4, 1) := by decide +kernel
theorem dX0_copyFrom_11 : decode cX0_copyFrom 11 = .ok (.invokestatic 27, 3) := by decide +kernel
theorem dX0_copyFrom_14 : decode cX0_copyFrom 14 = .ok (.aload_n 1, 1) := by decide +kernel
theorem dX0_copyFrom_15 : decode cX0_copyFrom 15 = .ok (.getfield 15, 3) := by decide +kernel
theorem dX0_copyFrom_18 : decode cX0_copyFrom 18 = .ok (.iconst 0, 1) := by decide +kernel
theorem dX0_copyFrom_19 : decode cX0_copyFrom 19 = .ok (.aload_n 0, 1) := by decide +kernel
theorem dX0_copyFrom_20 : decode cX0_copyFrom 20 = .ok (.getfield 15, 3) := by decide +kernel
theorem dX0_copyFrom_23 : decode cX0_copyFrom 23 = .ok (.iconst 0, 1) := by decide +kernel
theorem dX0_copyFrom_24 : decode cX0_copyFrom 24 = .ok (.iconst 4, 1) := by decide +kernel
theorem dX0_copyFrom_25 : decode cX0_copyFrom 25 = .ok (.invokestatic 27, 3) := by decide +kernel
theorem dX0_copyFrom_28 : decode cX0_copyFrom 28 = .ok (.aload_n 1, 1) := by decide +kernel
theorem dX0_copyFrom_29 : decode cX0_copyFrom 29 = .ok (.getfield 18, 3) := by decide +kernel
theorem dX0_copyFrom_32 : decode cX0_copyFrom 32 = .ok (.iconst 0, 1) := by decide +kernel
theorem dX0_copyFrom_33 : decode cX0_copyFrom 33 = .ok (.aload_n 0, 1) := by decide +kernel
theorem dX0_copyFrom_34 : decode cX0_copyFrom 34 = .ok (.getfield 18, 3) := by decide +kernel
theorem dX0_copyFrom_37 : decode cX0_copyFrom 37 = .ok (.iconst 0, 1) := by decide +kernel
theorem dX0_copyFrom_38 : decode cX0_copyFrom 38 = .ok (.iconst 4, 1) := by decide +kernel
theorem dX0_copyFrom_39 : decode cX0_copyFrom 39 = .ok (.invokestatic 27, 3) := by decide +kernel
theorem dX0_copyFrom_42 : decode cX0_copyFrom 42 = .ok (.aload_n 1, 1) := by decide +kernel
theorem dX0_copyFrom_43 : decode cX0_copyFrom 43 = .ok (.getfield 21, 3) := by decide +kernel
theorem dX0_copyFrom_46 : decode cX0_copyFrom 46 = .ok (.iconst 0, 1) := by decide +kernel
theorem dX0_copyFrom_47 : decode cX0_copyFrom 47 = .ok (.aload_n 0, 1) := by decide +kernel
theorem dX0_copyFrom_48 : decode cX0_copyFrom 48 = .ok (.getfield 21, 3) := by decide +kernel
theorem dX0_copyFrom_51 : decode cX0_copyFrom 51 = .ok (.iconst 0, 1) := by decide +kernel
theorem dX0_copyFrom_52 : decode cX0_copyFrom 52 = .ok (.iconst 4, 1) := by decide +kernel
theorem dX0_copyFrom_53 : decode cX0_copyFrom 53 = .ok (.invokestatic 27, 3) := by decide +kernel
theorem dX0_copyFrom_56 : decode cX0_copyFrom 56 = .ok (.aload_n 1, 1) := by decide +kernel
theorem dX0_copyFrom_57 : decode cX0_copyFrom 57 = .ok (.getfield 24, 3) := by decide +kernel
theorem dX0_copyFrom_60 : decode cX0_copyFrom 60 = .ok (.iconst 0, 1) := by decide +kernel
theorem dX0_copyFrom_61 : decode cX0_copyFrom 61 = .ok (.aload_n 0, 1) := by decide +kernel
theorem dX0_copyFrom_62 : decode cX0_copyFrom 62 = .ok (.getfield 24, 3) := by decide +kernel
theorem dX0_copyFrom_65 : decode cX0_copyFrom 65 = .ok (.iconst 0, 1) := by decide +kernel
theorem dX0_copyFrom_66 : decode cX0_copyFrom 66 = .ok (.iconst 4, 1) := by decide +kernel
theorem dX0_copyFrom_67 : decode cX0_copyFrom 67 = .ok (.invokestatic 27, 3) := by decide +kernel
theorem dX0_copyFrom_70 : decode cX0_copyFrom 70 = .ok (.return_, 1) := by decide +kernel
theorem dX0_othersReach_0 : decode cX0_othersReach 0 = .ok (.iconst 0, 1) := by decide +kernel
theorem dX0_othersReach_1 : decode cX0_othersReach 1 = .ok (.istore 4, 2) := by decide +kernel
theorem dX0_othersReach_3 : decode cX0_othersReach 3 = .ok (.iload 4, 2) := by decide +kernel
theorem dX0_othersReach_5 : decode cX0_othersReach 5 = .ok (.iconst 4, 1) := by decide +kernel
theorem dX0_othersReach_6 : decode cX0_othersReach 6 = .ok (.if_icmp .ge 39, 3) := by decide +kernel
theorem dX0_othersReach_9 : decode cX0_othersReach 9 = .ok (.iload 4, 2) := by decide +kernel
theorem dX0_othersReach_11 : decode cX0_othersReach 11 = .ok (.iload_n 1, 1) := by decide +kernel
theorem dX0_othersReach_12 : decode cX0_othersReach 12 = .ok (.if_icmp .eq 27, 3) := by decide +kernel
theorem dX0_othersReach_15 : decode cX0_othersReach 15 = .ok (.aload_n 0, 1) := by decide +kernel
theorem dX0_othersReach_16 : decode cX0_othersReach 16 = .ok (.getfield 9, 3) := by decide +kernel
theorem dX0_othersReach_19 : decode cX0_othersReach 19 = .ok (.iload 4, 2) := by decide +kernel
theorem dX0_othersReach_21 : decode cX0_othersReach 21 = .ok (.iaload, 1) := by decide +kernel
theorem dX0_othersReach_22 : decode cX0_othersReach 22 = .ok (.iload_n 3, 1) := by decide +kernel
theorem dX0_othersReach_23 : decode cX0_othersReach 23 = .ok (.if_icmp .gt 16, 3) := by decide +kernel
theorem dX0_othersReach_26 : decode cX0_othersReach 26 = .ok (.iload_n 2, 1) := by decide +kernel
theorem dX0_othersReach_27 : decode cX0_othersReach 27 = .ok (.aload_n 0, 1) := by decide +kernel
theorem dX0_othersReach_28 : decode cX0_othersReach 28 = .ok (.getfield 15, 3) := by decide +kernel
theorem dX0_othersReach_31 : decode cX0_othersReach 31 = .ok (.iload 4, 2) := by decide +kernel
theorem dX0_othersReach_33 : decode cX0_othersReach 33 = .ok (.iaload, 1) := by decide +kernel
theorem dX0_othersReach_34 : decode cX0_othersReach 34 = .ok (.if_icmp .gt 5, 3) := by decide +kernel
theorem dX0_othersReach_37 : decode cX0_othersReach 37 = .ok (.iconst 1, 1) := by decide +kernel
theorem dX0_othersReach_38 : decode cX0_othersReach 38 = .ok (.ireturn, 1) := by decide +kernel
theorem dX0_othersReach_39 : decode cX0_othersReach 39 = .ok (.iinc 4 1, 3) := by decide +kernel
theorem dX0_othersReach_42 : decode cX0_othersReach 42 = .ok (.goto (-39), 3) := by decide +kernel
theorem dX0_othersReach_45 : decode cX0_othersReach 45 = .ok (.iconst 0, 1) := by decide +kernel
theorem dX0_othersReach_46 : decode cX0_othersReach 46 = .ok (.ireturn, 1) := by decide +kernel
theorem dX0_hasLane_0 : decode cX0_hasLane 0 = .ok (.aload_n 0, 1) := by decide +kernel
theorem dX0_hasLane_1 : decode cX0_hasLane 1 = .ok (.getfield 24, 3) := by decide +kernel
theorem dX0_hasLane_4 : decode cX0_hasLane 4 = .ok (.iload_n 1, 1) := by decide +kernel
theorem dX0_hasLane_5 : decode cX0_hasLane 5 = .ok (.iaload, 1) := by decide +kernel
theorem dX0_hasLane_6 : decode cX0_hasLane 6 = .ok (.iload_n 2, 1) := by decide +kernel
theorem dX0_hasLane_7 : decode cX0_hasLane 7 = .ok (.ishr, 1) := by decide +kernel
theorem dX0_hasLane_8 : decode cX0_hasLane 8 = .ok (.iconst 1, 1) := by decide +kernel
theorem dX0_hasLane_9 : decode cX0_hasLane 9 = .ok (.iand, 1) := by decide +kernel
theorem dX0_hasLane_10 : decode cX0_hasLane 10 = .ok (.ifCond .eq 7, 3) := by decide +kernel
theorem dX0_hasLane_13 : decode cX0_hasLane 13 = .ok (.iconst 1, 1) := by decide +kernel
theorem dX0_hasLane_14 : decode cX0_hasLane 14 = .ok (.goto 4, 3) := by decide +kernel
theorem dX0_hasLane_17 : decode cX0_hasLane 17 = .ok (.iconst 0, 1) := by decide +kernel
theorem dX0_hasLane_18 : decode cX0_hasLane 18 = .ok (.ireturn, 1) := by decide +kernel
theorem dX0_reaches_0 : decode cX0_reaches 0 = .ok (.iload_n 2, 1) := by decide +kernel
theorem dX0_reaches_1 : decode cX0_reaches 1 = .ok (.aload_n 0, 1) := by decide +kernel
theorem dX0_reaches_2 : decode cX0_reaches 2 = .ok (.getfield 9, 3) := by decide +kernel
theorem dX0_reaches_5 : decode cX0_reaches 5 = .ok (.iload_n 1, 1) := by decide +kernel
theorem dX0_reaches_6 : decode cX0_reaches 6 = .ok (.iaload, 1) := by decide +kernel
theorem dX0_reaches_7 : decode cX0_reaches 7 = .ok (.aload_n 0, 1) := by decide +kernel
theorem dX0_reaches_8 : decode cX0_reaches 8 = .ok (.getfield 15, 3) := by decide +kernel
theorem dX0_reaches_11 : decode cX0_reaches 11 = .ok (.iload_n 1, 1) := by decide +kernel
theorem dX0_reaches_12 : decode cX0_reaches 12 = .ok (.iaload, 1) := by decide +kernel
theorem dX0_reaches_13 : decode cX0_reaches 13 = .ok (.invokestatic 33, 3) := by decide +kernel
theorem dX0_reaches_16 : decode cX0_reaches 16 = .ok (.ireturn, 1) := by decide +kernel
theorem dX0_hasBeatAt_0 : decode cX0_hasBeatAt 0 = .ok (.aload_n 0, 1) := by decide +kernel
theorem dX0_hasBeatAt_1 : decode cX0_hasBeatAt 1 = .ok (.iload_n 1, 1) := by decide +kernel
theorem dX0_hasBeatAt_2 : decode cX0_hasBeatAt 2 = .ok (.iload_n 2, 1) := by decide +kernel
theorem dX0_hasBeatAt_3 : decode cX0_hasBeatAt 3 = .ok (.invokevirtual 37, 3) := by decide +kernel
theorem dX0_hasBeatAt_6 : decode cX0_hasBeatAt 6 = .ok (.iload_n 2, 1) := by decide +kernel
theorem dX0_hasBeatAt_7 : decode cX0_hasBeatAt 7 = .ok (.if_icmp .ne 7, 3) := by decide +kernel
theorem dX0_hasBeatAt_10 : decode cX0_hasBeatAt 10 = .ok (.iconst 1, 1) := by decide +kernel
theorem dX0_hasBeatAt_11 : decode cX0_hasBeatAt 11 = .ok (.goto 4, 3) := by decide +kernel
theorem dX0_hasBeatAt_14 : decode cX0_hasBeatAt 14 = .ok (.iconst 0, 1) := by decide +kernel
theorem dX0_hasBeatAt_15 : decode cX0_hasBeatAt 15 = .ok (.ireturn, 1) := by decide +kernel
theorem dX0_beatFrom_0 : decode cX0_beatFrom 0 = .ok (.iconst 1, 1) := by decide +kernel
theorem dX0_beatFrom_1 : decode cX0_beatFrom 1 = .ok (.aload_n 0, 1) := by decide +kernel
theorem dX0_beatFrom_2 : decode cX0_beatFrom 2 = .ok (.getfield 18, 3) := by decide +kernel
theorem dX0_beatFrom_5 : decode cX0_beatFrom 5 = .ok (.iload_n 1, 1) := by decide +kernel
theorem dX0_beatFrom_6 : decode cX0_beatFrom 6 = .ok (.iaload, 1) := by decide +kernel
theorem dX0_beatFrom_7 : decode cX0_beatFrom 7 = .ok (.invokestatic 41, 3) := by decide +kernel
theorem dX0_beatFrom_10 : decode cX0_beatFrom 10 = .ok (.istore_n 3, 1) := by decide +kernel
theorem dX0_beatFrom_11 : decode cX0_beatFrom 11 = .ok (.iload_n 2, 1) := by decide +kernel
theorem dX0_beatFrom_12 : decode cX0_beatFrom 12 = .ok (.aload_n 0, 1) := by decide +kernel
theorem dX0_beatFrom_13 : decode cX0_beatFrom 13 = .ok (.getfield 21, 3) := by decide +kernel
theorem dX0_beatFrom_16 : decode cX0_beatFrom 16 = .ok (.iload_n 1, 1) := by decide +kernel
theorem dX0_beatFrom_17 : decode cX0_beatFrom 17 = .ok (.iaload, 1) := by decide +kernel
theorem dX0_beatFrom_18 : decode cX0_beatFrom 18 = .ok (.iload_n 2, 1) := by decide +kernel
theorem dX0_beatFrom_19 : decode cX0_beatFrom 19 = .ok (.isub, 1) := by decide +kernel
theorem dX0_beatFrom_20 : decode cX0_beatFrom 20 = .ok (.iload_n 3, 1) := by decide +kernel
theorem dX0_beatFrom_21 : decode cX0_beatFrom 21 = .ok (.invokestatic 46, 3) := by decide +kernel
theorem dX0_beatFrom_24 : decode cX0_beatFrom 24 = .ok (.iadd, 1) := by decide +kernel
theorem dX0_beatFrom_25 : decode cX0_beatFrom 25 = .ok (.ireturn, 1) := by decide +kernel
theorem dX0_beatTill_0 : decode cX0_beatTill 0 = .ok (.iconst 1, 1) := by decide +kernel
theorem dX0_beatTill_1 : decode cX0_beatTill 1 = .ok (.aload_n 0, 1) := by decide +kernel
theorem dX0_beatTill_2 : decode cX0_beatTill 2 = .ok (.getfield 18, 3) := by decide +kernel
theorem dX0_beatTill_5 : decode cX0_beatTill 5 = .ok (.iload_n 1, 1) := by decide +kernel
theorem dX0_beatTill_6 : decode cX0_beatTill 6 = .ok (.iaload, 1) := by decide +kernel
theorem dX0_beatTill_7 : decode cX0_beatTill 7 = .ok (.invokestatic 41, 3) := by decide +kernel
theorem dX0_beatTill_10 : decode cX0_beatTill 10 = .ok (.istore_n 3, 1) := by decide +kernel
theorem dX0_beatTill_11 : decode cX0_beatTill 11 = .ok (.iload_n 2, 1) := by decide +kernel
theorem dX0_beatTill_12 : decode cX0_beatTill 12 = .ok (.iload_n 2, 1) := by decide +kernel
theorem dX0_beatTill_13 : decode cX0_beatTill 13 = .ok (.aload_n 0, 1) := by decide +kernel
theorem dX0_beatTill_14 : decode cX0_beatTill 14 = .ok (.getfield 21, 3) := by decide +kernel
theorem dX0_beatTill_17 : decode cX0_beatTill 17 = .ok (.iload_n 1, 1) := by decide +kernel
theorem dX0_beatTill_18 : decode cX0_beatTill 18 = .ok (.iaload, 1) := by decide +kernel
theorem dX0_beatTill_19 : decode cX0_beatTill 19 = .ok (.isub, 1) := by decide +kernel
theorem dX0_beatTill_20 : decode cX0_beatTill 20 = .ok (.iload_n 3, 1) := by decide +kernel
theorem dX0_beatTill_21 : decode cX0_beatTill 21 = .ok (.invokestatic 46, 3) := by decide +kernel
theorem dX0_beatTill_24 : decode cX0_beatTill 24 = .ok (.isub, 1) := by decide +kernel
theorem dX0_beatTill_25 : decode cX0_beatTill 25 = .ok (.ireturn, 1) := by decide +kernel
theorem dX0_nextAlong_0 : decode cX0_nextAlong 0 = .ok (.iconst (-1), 1) := by decide +kernel
theorem dX0_nextAlong_1 : decode cX0_nextAlong 1 = .ok (.istore_n 2, 1) := by decide +kernel
theorem dX0_nextAlong_2 : decode cX0_nextAlong 2 = .ok (.iconst 0, 1) := by decide +kernel
theorem dX0_nextAlong_3 : decode cX0_nextAlong 3 = .ok (.istore_n 3, 1) := by decide +kernel
theorem dX0_nextAlong_4 : decode cX0_nextAlong 4 = .ok (.iload_n 3, 1) := by decide +kernel
theorem dX0_nextAlong_5 : decode cX0_nextAlong 5 = .ok (.iconst 4, 1) := by decide +kernel
theorem dX0_nextAlong_6 : decode cX0_nextAlong 6 = .ok (.if_icmp .ge 41, 3) := by decide +kernel
theorem dX0_nextAlong_9 : decode cX0_nextAlong 9 = .ok (.aload_n 0, 1) := by decide +kernel
theorem dX0_nextAlong_10 : decode cX0_nextAlong 10 = .ok (.getfield 9, 3) := by decide +kernel
theorem dX0_nextAlong_13 : decode cX0_nextAlong 13 = .ok (.iload_n 3, 1) := by decide +kernel
theorem dX0_nextAlong_14 : decode cX0_nextAlong 14 = .ok (.iaload, 1) := by decide +kernel
theorem dX0_nextAlong_15 : decode cX0_nextAlong 15 = .ok (.iload_n 1, 1) := by decide +kernel
theorem dX0_nextAlong_16 : decode cX0_nextAlong 16 = .ok (.if_icmp .le 25, 3) := by decide +kernel
theorem dX0_nextAlong_19 : decode cX0_nextAlong 19 = .ok (.iload_n 2, 1) := by decide +kernel
theorem dX0_nextAlong_20 : decode cX0_nextAlong 20 = .ok (.iconst (-1), 1) := by decide +kernel
theorem dX0_nextAlong_21 : decode cX0_nextAlong 21 = .ok (.if_icmp .eq 18, 3) := by decide +kernel
theorem dX0_nextAlong_24 : decode cX0_nextAlong 24 = .ok (.aload_n 0, 1) := by decide +kernel
theorem dX0_nextAlong_25 : decode cX0_nextAlong 25 = .ok (.getfield 9, 3) := by decide +kernel
theorem dX0_nextAlong_28 : decode cX0_nextAlong 28 = .ok (.iload_n 3, 1) := by decide +kernel
theorem dX0_nextAlong_29 : decode cX0_nextAlong 29 = .ok (.iaload, 1) := by decide +kernel
theorem dX0_nextAlong_30 : decode cX0_nextAlong 30 = .ok (.aload_n 0, 1) := by decide +kernel
theorem dX0_nextAlong_31 : decode cX0_nextAlong 31 = .ok (.getfield 9, 3) := by decide +kernel
theorem dX0_nextAlong_34 : decode cX0_nextAlong 34 = .ok (.iload_n 2, 1) := by decide +kernel
theorem dX0_nextAlong_35 : decode cX0_nextAlong 35 = .ok (.iaload, 1) := by decide +kernel
theorem dX0_nextAlong_36 : decode cX0_nextAlong 36 = .ok (.if_icmp .ge 5, 3) := by decide +kernel
theorem dX0_nextAlong_39 : decode cX0_nextAlong 39 = .ok (.iload_n 3, 1) := by decide +kernel
theorem dX0_nextAlong_40 : decode cX0_nextAlong 40 = .ok (.istore_n 2, 1) := by decide +kernel
theorem dX0_nextAlong_41 : decode cX0_nextAlong 41 = .ok (.iinc 3 1, 3) := by decide +kernel
theorem dX0_nextAlong_44 : decode cX0_nextAlong 44 = .ok (.goto (-40), 3) := by decide +kernel
theorem dX0_nextAlong_47 : decode cX0_nextAlong 47 = .ok (.iload_n 2, 1) := by decide +kernel
theorem dX0_nextAlong_48 : decode cX0_nextAlong 48 = .ok (.ireturn, 1) := by decide +kernel
theorem dX1_init_0 : decode cX1_init 0 = .ok (.aload_n 0, 1) := by decide +kernel
theorem dX1_init_1 : decode cX1_init 1 = .ok (.invokespecial 3, 3) := by decide +kernel
theorem dX1_init_4 : decode cX1_init 4 = .ok (.aload_n 0, 1) := by decide +kernel
theorem dX1_init_5 : decode cX1_init 5 = .ok (.iconst 2, 1) := by decide +kernel
theorem dX1_init_6 : decode cX1_init 6 = .ok (.putfield 9, 3) := by decide +kernel
theorem dX1_init_9 : decode cX1_init 9 = .ok (.aload_n 0, 1) := by decide +kernel
theorem dX1_init_10 : decode cX1_init 10 = .ok (.iconst 0, 1) := by decide +kernel
theorem dX1_init_11 : decode cX1_init 11 = .ok (.putfield 15, 3) := by decide +kernel
theorem dX1_init_14 : decode cX1_init 14 = .ok (.aload_n 0, 1) := by decide +kernel
theorem dX1_init_15 : decode cX1_init 15 = .ok (.bipush 8, 2) := by decide +kernel
theorem dX1_init_17 : decode cX1_init 17 = .ok (.newarray .int, 2) := by decide +kernel
theorem dX1_init_19 : decode cX1_init 19 = .ok (.putfield 18, 3) := by decide +kernel
theorem dX1_init_22 : decode cX1_init 22 = .ok (.aload_n 0, 1) := by decide +kernel
theorem dX1_init_23 : decode cX1_init 23 = .ok (.bipush 8, 2) := by decide +kernel
theorem dX1_init_25 : decode cX1_init 25 = .ok (.newarray .int, 2) := by decide +kernel
theorem dX1_init_27 : decode cX1_init 27 = .ok (.putfield 22, 3) := by decide +kernel
theorem dX1_init_30 : decode cX1_init 30 = .ok (.aload_n 0, 1) := by decide +kernel
theorem dX1_init_31 : decode cX1_init 31 = .ok (.sipush 301, 3) := by decide +kernel
theorem dX1_init_34 : decode cX1_init 34 = .ok (.newarray .int, 2) := by decide +kernel
theorem dX1_init_36 : decode cX1_init 36 = .ok (.putfield 25, 3) := by decide +kernel
theorem dX1_init_39 : decode cX1_init 39 = .ok (.aload_n 0, 1) := by decide +kernel
theorem dX1_init_40 : decode cX1_init 40 = .ok (.invokevirtual 28, 3) := by decide +kernel
theorem dX1_init_43 : decode cX1_init 43 = .ok (.return_, 1) := by decide +kernel
theorem dX1_copyFrom_0 : decode cX1_copyFrom 0 = .ok (.aload_n 0, 1) := by decide +kernel
theorem dX1_copyFrom_1 : decode cX1_copyFrom 1 = .ok (.aload_n 1, 1) := by decide +kernel
theorem dX1_copyFrom_2 : decode cX1_copyFrom 2 = .ok (.getfield 9, 3) := by decide +kernel
theorem dX1_copyFrom_5 : decode cX1_copyFrom 5 = .ok (.putfield 9, 3) := by decide +kernel
theorem dX1_copyFrom_8 : decode cX1_copyFrom 8 = .ok (.aload_n 0, 1) := by decide +kernel
theorem dX1_copyFrom_9 : decode cX1_copyFrom 9 = .ok (.aload_n 1, 1) := by decide +kernel
theorem dX1_copyFrom_10 : decode cX1_copyFrom 10 = .ok (.getfield 15, 3) := by decide +kernel
theorem dX1_copyFrom_13 : decode cX1_copyFrom 13 = .ok (.putfield 15, 3) := by decide +kernel
theorem dX1_copyFrom_16 : decode cX1_copyFrom 16 = .ok (.aload_n 1, 1) := by decide +kernel
theorem dX1_copyFrom_17 : decode cX1_copyFrom 17 = .ok (.getfield 18, 3) := by decide +kernel
theorem dX1_copyFrom_20 : decode cX1_copyFrom 20 = .ok (.iconst 0, 1) := by decide +kernel
theorem dX1_copyFrom_21 : decode cX1_copyFrom 21 = .ok (.aload_n 0, 1) := by decide +kernel
theorem dX1_copyFrom_22 : decode cX1_copyFrom 22 = .ok (.getfield 18, 3) := by decide +kernel
theorem dX1_copyFrom_25 : decode cX1_copyFrom 25 = .ok (.iconst 0, 1) := by decide +kernel
theorem dX1_copyFrom_26 : decode cX1_copyFrom 26 = .ok (.bipush 8, 2) := by decide +kernel
theorem dX1_copyFrom_28 : decode cX1_copyFrom 28 = .ok (.invokestatic 31, 3) := by decide +kernel
theorem dX1_copyFrom_31 : decode cX1_copyFrom 31 = .ok (.aload_n 1, 1) := by decide +kernel
theorem dX1_copyFrom_32 : decode cX1_copyFrom 32 = .ok (.getfield 22, 3) := by decide +kernel
theorem dX1_copyFrom_35 : decode cX1_copyFrom 35 = .ok (.iconst 0, 1) := by decide +kernel
theorem dX1_copyFrom_36 : decode cX1_copyFrom 36 = .ok (.aload_n 0, 1) := by decide +kernel
theorem dX1_copyFrom_37 : decode cX1_copyFrom 37 = .ok (.getfield 22, 3) := by decide +kernel
theorem dX1_copyFrom_40 : decode cX1_copyFrom 40 = .ok (.iconst 0, 1) := by decide +kernel
theorem dX1_copyFrom_41 : decode cX1_copyFrom 41 = .ok (.bipush 8, 2) := by decide +kernel
theorem dX1_copyFrom_43 : decode cX1_copyFrom 43 = .ok (.invokestatic 31, 3) := by decide +kernel
theorem dX1_copyFrom_46 : decode cX1_copyFrom 46 = .ok (.aload_n 1, 1) := by decide +kernel
theorem dX1_copyFrom_47 : decode cX1_copyFrom 47 = .ok (.getfield 25, 3) := by decide +kernel
theorem dX1_copyFrom_50 : decode cX1_copyFrom 50 = .ok (.iconst 0, 1) := by decide +kernel
theorem dX1_copyFrom_51 : decode cX1_copyFrom 51 = .ok (.aload_n 0, 1) := by decide +kernel
theorem dX1_copyFrom_52 : decode cX1_copyFrom 52 = .ok (.getfield 25, 3) := by decide +kernel
theorem dX1_copyFrom_55 : decode cX1_copyFrom 55 = .ok (.iconst 0, 1) := by decide +kernel
theorem dX1_copyFrom_56 : decode cX1_copyFrom 56 = .ok (.sipush 301, 3) := by decide +kernel
theorem dX1_copyFrom_59 : decode cX1_copyFrom 59 = .ok (.invokestatic 31, 3) := by decide +kernel
theorem dX1_copyFrom_62 : decode cX1_copyFrom 62 = .ok (.return_, 1) := by decide +kernel
theorem dX1_begunBy_0 : decode cX1_begunBy 0 = .ok (.iconst 0, 1) := by decide +kernel
theorem dX1_begunBy_1 : decode cX1_begunBy 1 = .ok (.istore_n 2, 1) := by decide +kernel
theorem dX1_begunBy_2 : decode cX1_begunBy 2 = .ok (.iload_n 2, 1) := by decide +kernel
theorem dX1_begunBy_3 : decode cX1_begunBy 3 = .ok (.aload_n 0, 1) := by decide +kernel
theorem dX1_begunBy_4 : decode cX1_begunBy 4 = .ok (.getfield 15, 3) := by decide +kernel
theorem dX1_begunBy_7 : decode cX1_begunBy 7 = .ok (.if_icmp .ge 19, 3) := by decide +kernel
theorem dX1_begunBy_10 : decode cX1_begunBy 10 = .ok (.aload_n 0, 1) := by decide +kernel
theorem dX1_begunBy_11 : decode cX1_begunBy 11 = .ok (.getfield 18, 3) := by decide +kernel
theorem dX1_begunBy_14 : decode cX1_begunBy 14 = .ok (.iload_n 2, 1) := by decide +kernel
theorem dX1_begunBy_15 : decode cX1_begunBy 15 = .ok (.iaload, 1) := by decide +kernel
theorem dX1_begunBy_16 : decode cX1_begunBy 16 = .ok (.iload_n 1, 1) := by decide +kernel
theorem dX1_begunBy_17 : decode cX1_begunBy 17 = .ok (.if_icmp .gt 9, 3) := by decide +kernel
theorem dX1_begunBy_20 : decode cX1_begunBy 20 = .ok (.iinc 2 1, 3) := by decide +kernel
theorem dX1_begunBy_23 : decode cX1_begunBy 23 = .ok (.goto (-21), 3) := by decide +kernel
theorem dX1_begunBy_26 : decode cX1_begunBy 26 = .ok (.iload_n 2, 1) := by decide +kernel
theorem dX1_begunBy_27 : decode cX1_begunBy 27 = .ok (.ireturn, 1) := by decide +kernel
theorem dX1_speedAt_0 : decode cX1_speedAt 0 = .ok (.aload_n 0, 1) := by decide +kernel
theorem dX1_speedAt_1 : decode cX1_speedAt 1 = .ok (.iload_n 1, 1) := by decide +kernel
theorem dX1_speedAt_2 : decode cX1_speedAt 2 = .ok (.invokevirtual 37, 3) := by decide +kernel
theorem dX1_speedAt_5 : decode cX1_speedAt 5 = .ok (.istore_n 2, 1) := by decide +kernel
theorem dX1_speedAt_6 : decode cX1_speedAt 6 = .ok (.iload_n 2, 1) := by decide +kernel
theorem dX1_speedAt_7 : decode cX1_speedAt 7 = .ok (.ifCond .ne 10, 3) := by decide +kernel
theorem dX1_speedAt_10 : decode cX1_speedAt 10 = .ok (.aload_n 0, 1) := by decide +kernel
theorem dX1_speedAt_11 : decode cX1_speedAt 11 = .ok (.getfield 9, 3) := by decide +kernel
theorem dX1_speedAt_14 : decode cX1_speedAt 14 = .ok (.goto 11, 3) := by decide +kernel
theorem dX1_speedAt_17 : decode cX1_speedAt 17 = .ok (.aload_n 0, 1) := by decide +kernel
theorem dX1_speedAt_18 : decode cX1_speedAt 18 = .ok (.getfield 22, 3) := by decide +kernel
theorem dX1_speedAt_21 : decode cX1_speedAt 21 = .ok (.iload_n 2, 1) := by decide +kernel
theorem dX1_speedAt_22 : decode cX1_speedAt 22 = .ok (.iconst 1, 1) := by decide +kernel
theorem dX1_speedAt_23 : decode cX1_speedAt 23 = .ok (.isub, 1) := by decide +kernel
theorem dX1_speedAt_24 : decode cX1_speedAt 24 = .ok (.iaload, 1) := by decide +kernel
theorem dX1_speedAt_25 : decode cX1_speedAt 25 = .ok (.ireturn, 1) := by decide +kernel
theorem dX1_changeAt_0 : decode cX1_changeAt 0 = .ok (.aload_n 0, 1) := by decide +kernel
theorem dX1_changeAt_1 : decode cX1_changeAt 1 = .ok (.iload_n 1, 1) := by decide +kernel
theorem dX1_changeAt_2 : decode cX1_changeAt 2 = .ok (.invokevirtual 37, 3) := by decide +kernel
theorem dX1_changeAt_5 : decode cX1_changeAt 5 = .ok (.iconst 1, 1) := by decide +kernel
theorem dX1_changeAt_6 : decode cX1_changeAt 6 = .ok (.isub, 1) := by decide +kernel
theorem dX1_changeAt_7 : decode cX1_changeAt 7 = .ok (.istore_n 2, 1) := by decide +kernel
theorem dX1_changeAt_8 : decode cX1_changeAt 8 = .ok (.iload_n 2, 1) := by decide +kernel
theorem dX1_changeAt_9 : decode cX1_changeAt 9 = .ok (.ifCond .lt 17, 3) := by decide +kernel
theorem dX1_changeAt_12 : decode cX1_changeAt 12 = .ok (.aload_n 0, 1) := by decide +kernel
theorem dX1_changeAt_13 : decode cX1_changeAt 13 = .ok (.getfield 18, 3) := by decide +kernel
theorem dX1_changeAt_16 : decode cX1_changeAt 16 = .ok (.iload_n 2, 1) := by decide +kernel
theorem dX1_changeAt_17 : decode cX1_changeAt 17 = .ok (.iaload, 1) := by decide +kernel
theorem dX1_changeAt_18 : decode cX1_changeAt 18 = .ok (.iload_n 1, 1) := by decide +kernel
theorem dX1_changeAt_19 : decode cX1_changeAt 19 = .ok (.if_icmp .ne 7, 3) := by decide +kernel
theorem dX1_changeAt_22 : decode cX1_changeAt 22 = .ok (.iload_n 2, 1) := by decide +kernel
theorem dX1_changeAt_23 : decode cX1_changeAt 23 = .ok (.goto 4, 3) := by decide +kernel
theorem dX1_changeAt_26 : decode cX1_changeAt 26 = .ok (.iconst (-1), 1) := by decide +kernel
theorem dX1_changeAt_27 : decode cX1_changeAt 27 = .ok (.ireturn, 1) := by decide +kernel
theorem dX1_tell_0 : decode cX1_tell 0 = .ok (.aload_n 0, 1) := by decide +kernel
theorem dX1_tell_1 : decode cX1_tell 1 = .ok (.iload_n 1, 1) := by decide +kernel
theorem dX1_tell_2 : decode cX1_tell 2 = .ok (.invokevirtual 41, 3) := by decide +kernel
theorem dX1_tell_5 : decode cX1_tell 5 = .ok (.istore_n 3, 1) := by decide +kernel
theorem dX1_tell_6 : decode cX1_tell 6 = .ok (.iload_n 1, 1) := by decide +kernel
theorem dX1_tell_7 : decode cX1_tell 7 = .ok (.ifCond .ne 11, 3) := by decide +kernel
theorem dX1_tell_10 : decode cX1_tell 10 = .ok (.aload_n 0, 1) := by decide +kernel
theorem dX1_tell_11 : decode cX1_tell 11 = .ok (.iload_n 2, 1) := by decide +kernel
theorem dX1_tell_12 : decode cX1_tell 12 = .ok (.putfield 9, 3) := by decide +kernel
theorem dX1_tell_15 : decode cX1_tell 15 = .ok (.goto 37, 3) := by decide +kernel
theorem dX1_tell_18 : decode cX1_tell 18 = .ok (.iload_n 3, 1) := by decide +kernel
theorem dX1_tell_19 : decode cX1_tell 19 = .ok (.ifCond .lt 13, 3) := by decide +kernel
theorem dX1_tell_22 : decode cX1_tell 22 = .ok (.aload_n 0, 1) := by decide +kernel
theorem dX1_tell_23 : decode cX1_tell 23 = .ok (.getfield 22, 3) := by decide +kernel
theorem dX1_tell_26 : decode cX1_tell 26 = .ok (.iload_n 3, 1) := by decide +kernel
theorem dX1_tell_27 : decode cX1_tell 27 = .ok (.iload_n 2, 1) := by decide +kernel
theorem dX1_tell_28 : decode cX1_tell 28 = .ok (.iastore, 1) := by decide +kernel
theorem dX1_tell_29 : decode cX1_tell 29 = .ok (.goto 23, 3) := by decide +kernel
theorem dX1_tell_32 : decode cX1_tell 32 = .ok (.aload_n 0, 1) := by decide +kernel
theorem dX1_tell_33 : decode cX1_tell 33 = .ok (.getfield 15, 3) := by decide +kernel
theorem dX1_tell_36 : decode cX1_tell 36 = .ok (.bipush 8, 2) := by decide +kernel
theorem dX1_tell_38 : decode cX1_tell 38 = .ok (.if_icmp .ge 14, 3) := by decide +kernel
theorem dX1_tell_41 : decode cX1_tell 41 = .ok (.aload_n 0, 1) := by decide +kernel
theorem dX1_tell_42 : decode cX1_tell 42 = .ok (.aload_n 0, 1) := by decide +kernel
theorem dX1_tell_43 : decode cX1_tell 43 = .ok (.iload_n 1, 1) := by decide +kernel
theorem dX1_tell_44 : decode cX1_tell 44 = .ok (.invokevirtual 37, 3) := by decide +kernel
theorem dX1_tell_47 : decode cX1_tell 47 = .ok (.iload_n 1, 1) := by decide +kernel
theorem dX1_tell_48 : decode cX1_tell 48 = .ok (.iload_n 2, 1) := by decide +kernel
theorem dX1_tell_49 : decode cX1_tell 49 = .ok (.invokevirtual 44, 3) := by decide +kernel
theorem dX1_tell_52 : decode cX1_tell 52 = .ok (.aload_n 0, 1) := by decide +kernel
theorem dX1_tell_53 : decode cX1_tell 53 = .ok (.invokevirtual 28, 3) := by decide +kernel
theorem dX1_tell_56 : decode cX1_tell 56 = .ok (.return_, 1) := by decide +kernel
theorem dX1_insert_0 : decode cX1_insert 0 = .ok (.aload_n 0, 1) := by decide +kernel
theorem dX1_insert_1 : decode cX1_insert 1 = .ok (.getfield 15, 3) := by decide +kernel
theorem dX1_insert_4 : decode cX1_insert 4 = .ok (.istore 4, 2) := by decide +kernel
theorem dX1_insert_6 : decode cX1_insert 6 = .ok (.iload 4, 2) := by decide +kernel
theorem dX1_insert_8 : decode cX1_insert 8 = .ok (.iload_n 1, 1) := by decide +kernel
theorem dX1_insert_9 : decode cX1_insert 9 = .ok (.if_icmp .le 41, 3) := by decide +kernel
theorem dX1_insert_12 : decode cX1_insert 12 = .ok (.aload_n 0, 1) := by decide +kernel
theorem dX1_insert_13 : decode cX1_insert 13 = .ok (.getfield 18, 3) := by decide +kernel
theorem dX1_insert_16 : decode cX1_insert 16 = .ok (.iload 4, 2) := by decide +kernel
theorem dX1_insert_18 : decode cX1_insert 18 = .ok (.aload_n 0, 1) := by decide +kernel
theorem dX1_insert_19 : decode cX1_insert 19 = .ok (.getfield 18, 3) := by decide +kernel
theorem dX1_insert_22 : decode cX1_insert 22 = .ok (.iload 4, 2) := by decide +kernel
theorem dX1_insert_24 : decode cX1_insert 24 = .ok (.iconst 1, 1) := by decide +kernel
theorem dX1_insert_25 : decode cX1_insert 25 = .ok (.isub, 1) := by decide +kernel
theorem dX1_insert_26 : decode cX1_insert 26 = .ok (.iaload, 1) := by decide +kernel
theorem dX1_insert_27 : decode cX1_insert 27 = .ok (.iastore, 1) := by decide +kernel
theorem dX1_insert_28 : decode cX1_insert 28 = .ok (.aload_n 0, 1) := by decide +kernel
theorem dX1_insert_29 : decode cX1_insert 29 = .ok (.getfield 22, 3) := by decide +kernel
theorem dX1_insert_32 : decode cX1_insert 32 = .ok (.iload 4, 2) := by decide +kernel
theorem dX1_insert_34 : decode cX1_insert 34 = .ok (.aload_n 0, 1) := by decide +kernel
theorem dX1_insert_35 : decode cX1_insert 35 = .ok (.getfield 22, 3) := by decide +kernel
theorem dX1_insert_38 : decode cX1_insert 38 = .ok (.iload 4, 2) := by decide +kernel
theorem dX1_insert_40 : decode cX1_insert 40 = .ok (.iconst 1, 1) := by decide +kernel
theorem dX1_insert_41 : decode cX1_insert 41 = .ok (.isub, 1) := by decide +kernel
theorem dX1_insert_42 : decode cX1_insert 42 = .ok (.iaload, 1) := by decide +kernel
theorem dX1_insert_43 : decode cX1_insert 43 = .ok (.iastore, 1) := by decide +kernel
theorem dX1_insert_44 : decode cX1_insert 44 = .ok (.iinc 4 (-1), 3) := by decide +kernel
theorem dX1_insert_47 : decode cX1_insert 47 = .ok (.goto (-41), 3) := by decide +kernel
theorem dX1_insert_50 : decode cX1_insert 50 = .ok (.aload_n 0, 1) := by decide +kernel
theorem dX1_insert_51 : decode cX1_insert 51 = .ok (.getfield 18, 3) := by decide +kernel
theorem dX1_insert_54 : decode cX1_insert 54 = .ok (.iload_n 1, 1) := by decide +kernel
theorem dX1_insert_55 : decode cX1_insert 55 = .ok (.iload_n 2, 1) := by decide +kernel
theorem dX1_insert_56 : decode cX1_insert 56 = .ok (.iastore, 1) := by decide +kernel
theorem dX1_insert_57 : decode cX1_insert 57 = .ok (.aload_n 0, 1) := by decide +kernel
theorem dX1_insert_58 : decode cX1_insert 58 = .ok (.getfield 22, 3) := by decide +kernel
theorem dX1_insert_61 : decode cX1_insert 61 = .ok (.iload_n 1, 1) := by decide +kernel
theorem dX1_insert_62 : decode cX1_insert 62 = .ok (.iload_n 3, 1) := by decide +kernel
theorem dX1_insert_63 : decode cX1_insert 63 = .ok (.iastore, 1) := by decide +kernel
theorem dX1_insert_64 : decode cX1_insert 64 = .ok (.aload_n 0, 1) := by decide +kernel
theorem dX1_insert_65 : decode cX1_insert 65 = .ok (.dup, 1) := by decide +kernel
theorem dX1_insert_66 : decode cX1_insert 66 = .ok (.getfield 15, 3) := by decide +kernel
theorem dX1_insert_69 : decode cX1_insert 69 = .ok (.iconst 1, 1) := by decide +kernel
theorem dX1_insert_70 : decode cX1_insert 70 = .ok (.iadd, 1) := by decide +kernel
theorem dX1_insert_71 : decode cX1_insert 71 = .ok (.putfield 15, 3) := by decide +kernel
theorem dX1_insert_74 : decode cX1_insert 74 = .ok (.return_, 1) := by decide +kernel
theorem dX1_forget_0 : decode cX1_forget 0 = .ok (.aload_n 0, 1) := by decide +kernel
theorem dX1_forget_1 : decode cX1_forget 1 = .ok (.dup, 1) := by decide +kernel
theorem dX1_forget_2 : decode cX1_forget 2 = .ok (.getfield 15, 3) := by decide +kernel
theorem dX1_forget_5 : decode cX1_forget 5 = .ok (.iconst 1, 1) := by decide +kernel
theorem dX1_forget_6 : decode cX1_forget 6 = .ok (.isub, 1) := by decide +kernel
theorem dX1_forget_7 : decode cX1_forget 7 = .ok (.putfield 15, 3) := by decide +kernel
theorem dX1_forget_10 : decode cX1_forget 10 = .ok (.iload_n 1, 1) := by decide +kernel
theorem dX1_forget_11 : decode cX1_forget 11 = .ok (.istore_n 2, 1) := by decide +kernel
theorem dX1_forget_12 : decode cX1_forget 12 = .ok (.iload_n 2, 1) := by decide +kernel
theorem dX1_forget_13 : decode cX1_forget 13 = .ok (.aload_n 0, 1) := by decide +kernel
theorem dX1_forget_14 : decode cX1_forget 14 = .ok (.getfield 15, 3) := by decide +kernel
theorem dX1_forget_17 : decode cX1_forget 17 = .ok (.if_icmp .ge 37, 3) := by decide +kernel
theorem dX1_forget_20 : decode cX1_forget 20 = .ok (.aload_n 0, 1) := by decide +kernel
theorem dX1_forget_21 : decode cX1_forget 21 = .ok (.getfield 18, 3) := by decide +kernel
theorem dX1_forget_24 : decode cX1_forget 24 = .ok (.iload_n 2, 1) := by decide +kernel
theorem dX1_forget_25 : decode cX1_forget 25 = .ok (.aload_n 0, 1) := by decide +kernel
theorem dX1_forget_26 : decode cX1_forget 26 = .ok (.getfield 18, 3) := by decide +kernel
theorem dX1_forget_29 : decode cX1_forget 29 = .ok (.iload_n 2, 1) := by decide +kernel
theorem dX1_forget_30 : decode cX1_forget 30 = .ok (.iconst 1, 1) := by decide +kernel
theorem dX1_forget_31 : decode cX1_forget 31 = .ok (.iadd, 1) := by decide +kernel
theorem dX1_forget_32 : decode cX1_forget 32 = .ok (.iaload, 1) := by decide +kernel
theorem dX1_forget_33 : decode cX1_forget 33 = .ok (.iastore, 1) := by decide +kernel
theorem dX1_forget_34 : decode cX1_forget 34 = .ok (.aload_n 0, 1) := by decide +kernel
theorem dX1_forget_35 : decode cX1_forget 35 = .ok (.getfield 22, 3) := by decide +kernel
theorem dX1_forget_38 : decode cX1_forget 38 = .ok (.iload_n 2, 1) := by decide +kernel
theorem dX1_forget_39 : decode cX1_forget 39 = .ok (.aload_n 0, 1) := by decide +kernel
theorem dX1_forget_40 : decode cX1_forget 40 = .ok (.getfield 22, 3) := by decide +kernel
theorem dX1_forget_43 : decode cX1_forget 43 = .ok (.iload_n 2, 1) := by decide +kernel
theorem dX1_forget_44 : decode cX1_forget 44 = .ok (.iconst 1, 1) := by decide +kernel
theorem dX1_forget_45 : decode cX1_forget 45 = .ok (.iadd, 1) := by decide +kernel
theorem dX1_forget_46 : decode cX1_forget 46 = .ok (.iaload, 1) := by decide +kernel
theorem dX1_forget_47 : decode cX1_forget 47 = .ok (.iastore, 1) := by decide +kernel
theorem dX1_forget_48 : decode cX1_forget 48 = .ok (.iinc 2 1, 3) := by decide +kernel
theorem dX1_forget_51 : decode cX1_forget 51 = .ok (.goto (-39), 3) := by decide +kernel
theorem dX1_forget_54 : decode cX1_forget 54 = .ok (.aload_n 0, 1) := by decide +kernel
theorem dX1_forget_55 : decode cX1_forget 55 = .ok (.invokevirtual 28, 3) := by decide +kernel
theorem dX1_forget_58 : decode cX1_forget 58 = .ok (.return_, 1) := by decide +kernel
theorem dX1_addUp_0 : decode cX1_addUp 0 = .ok (.iconst 0, 1) := by decide +kernel
theorem dX1_addUp_1 : decode cX1_addUp 1 = .ok (.istore_n 1, 1) := by decide +kernel
theorem dX1_addUp_2 : decode cX1_addUp 2 = .ok (.aload_n 0, 1) := by decide +kernel
theorem dX1_addUp_3 : decode cX1_addUp 3 = .ok (.getfield 9, 3) := by decide +kernel
theorem dX1_addUp_6 : decode cX1_addUp 6 = .ok (.istore_n 2, 1) := by decide +kernel
theorem dX1_addUp_7 : decode cX1_addUp 7 = .ok (.iconst 0, 1) := by decide +kernel
theorem dX1_addUp_8 : decode cX1_addUp 8 = .ok (.istore_n 3, 1) := by decide +kernel
theorem dX1_addUp_9 : decode cX1_addUp 9 = .ok (.iconst 0, 1) := by decide +kernel
theorem dX1_addUp_10 : decode cX1_addUp 10 = .ok (.istore 4, 2) := by decide +kernel
theorem dX1_addUp_12 : decode cX1_addUp 12 = .ok (.iload 4, 2) := by decide +kernel
theorem dX1_addUp_14 : decode cX1_addUp 14 = .ok (.sipush 301, 3) := by decide +kernel
theorem dX1_addUp_17 : decode cX1_addUp 17 = .ok (.if_icmp .ge 50, 3) := by decide +kernel
theorem dX1_addUp_20 : decode cX1_addUp 20 = .ok (.iload_n 3, 1) := by decide +kernel
theorem dX1_addUp_21 : decode cX1_addUp 21 = .ok (.aload_n 0, 1) := by decide +kernel
theorem dX1_addUp_22 : decode cX1_addUp 22 = .ok (.getfield 15, 3) := by decide +kernel
theorem dX1_addUp_25 : decode cX1_addUp 25 = .ok (.if_icmp .ge 24, 3) := by decide +kernel
theorem dX1_addUp_28 : decode cX1_addUp 28 = .ok (.aload_n 0, 1) := by decide +kernel
theorem dX1_addUp_29 : decode cX1_addUp 29 = .ok (.getfield 18, 3) := by decide +kernel
theorem dX1_addUp_32 : decode cX1_addUp 32 = .ok (.iload_n 3, 1) := by decide +kernel
theorem dX1_addUp_33 : decode cX1_addUp 33 = .ok (.iaload, 1) := by decide +kernel
theorem dX1_addUp_34 : decode cX1_addUp 34 = .ok (.iload 4, 2) := by decide +kernel
theorem dX1_addUp_36 : decode cX1_addUp 36 = .ok (.if_icmp .ne 13, 3) := by decide +kernel
theorem dX1_addUp_39 : decode cX1_addUp 39 = .ok (.aload_n 0, 1) := by decide +kernel
theorem dX1_addUp_40 : decode cX1_addUp 40 = .ok (.getfield 22, 3) := by decide +kernel
theorem dX1_addUp_43 : decode cX1_addUp 43 = .ok (.iload_n 3, 1) := by decide +kernel
theorem dX1_addUp_44 : decode cX1_addUp 44 = .ok (.iaload, 1) := by decide +kernel
theorem dX1_addUp_45 : decode cX1_addUp 45 = .ok (.istore_n 2, 1) := by decide +kernel
theorem dX1_addUp_46 : decode cX1_addUp 46 = .ok (.iinc 3 1, 3) := by decide +kernel
theorem dX1_addUp_49 : decode cX1_addUp 49 = .ok (.aload_n 0, 1) := by decide +kernel
theorem dX1_addUp_50 : decode cX1_addUp 50 = .ok (.getfield 25, 3) := by decide +kernel
theorem dX1_addUp_53 : decode cX1_addUp 53 = .ok (.iload 4, 2) := by decide +kernel
theorem dX1_addUp_55 : decode cX1_addUp 55 = .ok (.iload_n 1, 1) := by decide +kernel
theorem dX1_addUp_56 : decode cX1_addUp 56 = .ok (.iastore, 1) := by decide +kernel
theorem dX1_addUp_57 : decode cX1_addUp 57 = .ok (.iload_n 1, 1) := by decide +kernel
theorem dX1_addUp_58 : decode cX1_addUp 58 = .ok (.iload_n 2, 1) := by decide +kernel
theorem dX1_addUp_59 : decode cX1_addUp 59 = .ok (.iadd, 1) := by decide +kernel
theorem dX1_addUp_60 : decode cX1_addUp 60 = .ok (.istore_n 1, 1) := by decide +kernel
theorem dX1_addUp_61 : decode cX1_addUp 61 = .ok (.iinc 4 1, 3) := by decide +kernel
theorem dX1_addUp_64 : decode cX1_addUp 64 = .ok (.goto (-52), 3) := by decide +kernel
theorem dX1_addUp_67 : decode cX1_addUp 67 = .ok (.return_, 1) := by decide +kernel
theorem dX1_firstTickGone_0 : decode cX1_firstTickGone 0 = .ok (.iconst 0, 1) := by decide +kernel
theorem dX1_firstTickGone_1 : decode cX1_firstTickGone 1 = .ok (.istore_n 2, 1) := by decide +kernel
theorem dX1_firstTickGone_2 : decode cX1_firstTickGone 2 = .ok (.sipush 256, 3) := by decide +kernel
theorem dX1_firstTickGone_5 : decode cX1_firstTickGone 5 = .ok (.istore_n 3, 1) := by decide +kernel
theorem dX1_firstTickGone_6 : decode cX1_firstTickGone 6 = .ok (.iload_n 3, 1) := by decide +kernel
theorem dX1_firstTickGone_7 : decode cX1_firstTickGone 7 = .ok (.ifCond .le 37, 3) := by decide +kernel
theorem dX1_firstTickGone_10 : decode cX1_firstTickGone 10 = .ok (.iload_n 2, 1) := by decide +kernel
theorem dX1_firstTickGone_11 : decode cX1_firstTickGone 11 = .ok (.iload_n 3, 1) := by decide +kernel
theorem dX1_firstTickGone_12 : decode cX1_firstTickGone 12 = .ok (.iadd, 1) := by decide +kernel
theorem dX1_firstTickGone_13 : decode cX1_firstTickGone 13 = .ok (.sipush 301, 3) := by decide +kernel
theorem dX1_firstTickGone_16 : decode cX1_firstTickGone 16 = .ok (.if_icmp .gt 21, 3) := by decide +kernel
theorem dX1_firstTickGone_19 : decode cX1_firstTickGone 19 = .ok (.aload_n 0, 1) := by decide +kernel
theorem dX1_firstTickGone_20 : decode cX1_firstTickGone 20 = .ok (.getfield 25, 3) := by decide +kernel
theorem dX1_firstTickGone_23 : decode cX1_firstTickGone 23 = .ok (.iload_n 2, 1) := by decide +kernel
theorem dX1_firstTickGone_24 : decode cX1_firstTickGone 24 = .ok (.iload_n 3, 1) := by decide +kernel
theorem dX1_firstTickGone_25 : decode cX1_firstTickGone 25 = .ok (.iadd, 1) := by decide +kernel
theorem dX1_firstTickGone_26 : decode cX1_firstTickGone 26 = .ok (.iconst 1, 1) := by decide +kernel
theorem dX1_firstTickGone_27 : decode cX1_firstTickGone 27 = .ok (.isub, 1) := by decide +kernel
theorem dX1_firstTickGone_28 : decode cX1_firstTickGone 28 = .ok (.iaload, 1) := by decide +kernel
theorem dX1_firstTickGone_29 : decode cX1_firstTickGone 29 = .ok (.iload_n 1, 1) := by decide +kernel
theorem dX1_firstTickGone_30 : decode cX1_firstTickGone 30 = .ok (.if_icmp .ge 7, 3) := by decide +kernel
theorem dX1_firstTickGone_33 : decode cX1_firstTickGone 33 = .ok (.iload_n 2, 1) := by decide +kernel
theorem dX1_firstTickGone_34 : decode cX1_firstTickGone 34 = .ok (.iload_n 3, 1) := by decide +kernel
theorem dX1_firstTickGone_35 : decode cX1_firstTickGone 35 = .ok (.iadd, 1) := by decide +kernel
theorem dX1_firstTickGone_36 : decode cX1_firstTickGone 36 = .ok (.istore_n 2, 1) := by decide +kernel
theorem dX1_firstTickGone_37 : decode cX1_firstTickGone 37 = .ok (.iload_n 3, 1) := by decide +kernel
theorem dX1_firstTickGone_38 : decode cX1_firstTickGone 38 = .ok (.iconst 2, 1) := by decide +kernel
theorem dX1_firstTickGone_39 : decode cX1_firstTickGone 39 = .ok (.idiv, 1) := by decide +kernel
theorem dX1_firstTickGone_40 : decode cX1_firstTickGone 40 = .ok (.istore_n 3, 1) := by decide +kernel
theorem dX1_firstTickGone_41 : decode cX1_firstTickGone 41 = .ok (.goto (-35), 3) := by decide +kernel
theorem dX1_firstTickGone_44 : decode cX1_firstTickGone 44 = .ok (.iload_n 2, 1) := by decide +kernel
theorem dX1_firstTickGone_45 : decode cX1_firstTickGone 45 = .ok (.ireturn, 1) := by decide +kernel
theorem dX2_init_0 : decode cX2_init 0 = .ok (.aload_n 0, 1) := by decide +kernel
theorem dX2_init_1 : decode cX2_init 1 = .ok (.invokespecial 3, 3) := by decide +kernel
theorem dX2_init_4 : decode cX2_init 4 = .ok (.aload_n 0, 1) := by decide +kernel
theorem dX2_init_5 : decode cX2_init 5 = .ok (.iconst 0, 1) := by decide +kernel
theorem dX2_init_6 : decode cX2_init 6 = .ok (.putfield 9, 3) := by decide +kernel
theorem dX2_init_9 : decode cX2_init 9 = .ok (.aload_n 0, 1) := by decide +kernel
theorem dX2_init_10 : decode cX2_init 10 = .ok (.iconst 0, 1) := by decide +kernel
theorem dX2_init_11 : decode cX2_init 11 = .ok (.putfield 15, 3) := by decide +kernel
theorem dX2_init_14 : decode cX2_init 14 = .ok (.aload_n 0, 1) := by decide +kernel
theorem dX2_init_15 : decode cX2_init 15 = .ok (.sipush 400, 3) := by decide +kernel
theorem dX2_init_18 : decode cX2_init 18 = .ok (.newarray .int, 2) := by decide +kernel
theorem dX2_init_20 : decode cX2_init 20 = .ok (.putfield 18, 3) := by decide +kernel
theorem dX2_init_23 : decode cX2_init 23 = .ok (.aload_n 0, 1) := by decide +kernel
theorem dX2_init_24 : decode cX2_init 24 = .ok (.bipush 20, 2) := by decide +kernel
theorem dX2_init_26 : decode cX2_init 26 = .ok (.newarray .int, 2) := by decide +kernel
theorem dX2_init_28 : decode cX2_init 28 = .ok (.putfield 22, 3) := by decide +kernel
theorem dX2_init_31 : decode cX2_init 31 = .ok (.aload_n 0, 1) := by decide +kernel
theorem dX2_init_32 : decode cX2_init 32 = .ok (.bipush 20, 2) := by decide +kernel
theorem dX2_init_34 : decode cX2_init 34 = .ok (.newarray .int, 2) := by decide +kernel
theorem dX2_init_36 : decode cX2_init 36 = .ok (.putfield 25, 3) := by decide +kernel
theorem dX2_init_39 : decode cX2_init 39 = .ok (.aload_n 0, 1) := by decide +kernel
theorem dX2_init_40 : decode cX2_init 40 = .ok (.sipush 1204, 3) := by decide +kernel
theorem dX2_init_43 : decode cX2_init 43 = .ok (.newarray .int, 2) := by decide +kernel
theorem dX2_init_45 : decode cX2_init 45 = .ok (.putfield 28, 3) := by decide +kernel
theorem dX2_init_48 : decode cX2_init 48 = .ok (.aload_n 0, 1) := by decide +kernel
theorem dX2_init_49 : decode cX2_init 49 = .ok (.bipush 20, 2) := by decide +kernel
theorem dX2_init_51 : decode cX2_init 51 = .ok (.newarray .int, 2) := by decide +kernel
theorem dX2_init_53 : decode cX2_init 53 = .ok (.putfield 31, 3) := by decide +kernel
theorem dX2_init_56 : decode cX2_init 56 = .ok (.aload_n 0, 1) := by decide +kernel
theorem dX2_init_57 : decode cX2_init 57 = .ok (.bipush 20, 2) := by decide +kernel
theorem dX2_init_59 : decode cX2_init 59 = .ok (.newarray .int, 2) := by decide +kernel
theorem dX2_init_61 : decode cX2_init 61 = .ok (.putfield 34, 3) := by decide +kernel
theorem dX2_init_64 : decode cX2_init 64 = .ok (.aload_n 0, 1) := by decide +kernel
theorem dX2_init_65 : decode cX2_init 65 = .ok (.iconst 0, 1) := by decide +kernel
theorem dX2_init_66 : decode cX2_init 66 = .ok (.putfield 37, 3) := by decide +kernel
theorem dX2_init_69 : decode cX2_init 69 = .ok (.aload_n 0, 1) := by decide +kernel
theorem dX2_init_70 : decode cX2_init 70 = .ok (.iconst 0, 1) := by decide +kernel
theorem dX2_init_71 : decode cX2_init 71 = .ok (.putfield 40, 3) := by decide +kernel
theorem dX2_init_74 : decode cX2_init 74 = .ok (.aload_n 0, 1) := by decide +kernel
theorem dX2_init_75 : decode cX2_init 75 = .ok (.iconst 0, 1) := by decide +kernel
theorem dX2_init_76 : decode cX2_init 76 = .ok (.putfield 43, 3) := by decide +kernel
theorem dX2_init_79 : decode cX2_init 79 = .ok (.return_, 1) := by decide +kernel
theorem dX2_takeMost_0 : decode cX2_takeMost 0 = .ok (.aload_n 0, 1) := by decide +kernel
theorem dX2_takeMost_1 : decode cX2_takeMost 1 = .ok (.aload_n 1, 1) := by decide +kernel
theorem dX2_takeMost_2 : decode cX2_takeMost 2 = .ok (.getfield 46, 3) := by decide +kernel
theorem dX2_takeMost_5 : decode cX2_takeMost 5 = .ok (.getfield 52, 3) := by decide +kernel
theorem dX2_takeMost_8 : decode cX2_takeMost 8 = .ok (.putfield 9, 3) := by decide +kernel
theorem dX2_takeMost_11 : decode cX2_takeMost 11 = .ok (.aload_n 0, 1) := by decide +kernel
theorem dX2_takeMost_12 : decode cX2_takeMost 12 = .ok (.iconst 0, 1) := by decide +kernel
theorem dX2_takeMost_13 : decode cX2_takeMost 13 = .ok (.putfield 15, 3) := by decide +kernel
theorem dX2_takeMost_16 : decode cX2_takeMost 16 = .ok (.aload_n 0, 1) := by decide +kernel
theorem dX2_takeMost_17 : decode cX2_takeMost 17 = .ok (.getfield 25, 3) := by decide +kernel
theorem dX2_takeMost_20 : decode cX2_takeMost 20 = .ok (.iconst (-1), 1) := by decide +kernel
theorem dX2_takeMost_21 : decode cX2_takeMost 21 = .ok (.invokestatic 55, 3) := by decide +kernel
theorem dX2_takeMost_24 : decode cX2_takeMost 24 = .ok (.aload_n 0, 1) := by decide +kernel
theorem dX2_takeMost_25 : decode cX2_takeMost 25 = .ok (.getfield 28, 3) := by decide +kernel
theorem dX2_takeMost_28 : decode cX2_takeMost 28 = .ok (.iconst (-1), 1) := by decide +kernel
theorem dX2_takeMost_29 : decode cX2_takeMost 29 = .ok (.invokestatic 55, 3) := by decide +kernel
theorem dX2_takeMost_32 : decode cX2_takeMost 32 = .ok (.iconst 0, 1) := by decide +kernel
theorem dX2_takeMost_33 : decode cX2_takeMost 33 = .ok (.istore_n 3, 1) := by decide +kernel
theorem dX2_takeMost_34 : decode cX2_takeMost 34 = .ok (.iload_n 3, 1) := by decide +kernel
theorem dX2_takeMost_35 : decode cX2_takeMost 35 = .ok (.aload_n 0, 1) := by decide +kernel
theorem dX2_takeMost_36 : decode cX2_takeMost 36 = .ok (.getfield 9, 3) := by decide +kernel
theorem dX2_takeMost_39 : decode cX2_takeMost 39 = .ok (.if_icmp .ge 16, 3) := by decide +kernel
theorem dX2_takeMost_42 : decode cX2_takeMost 42 = .ok (.aload_n 0, 1) := by decide +kernel
theorem dX2_takeMost_43 : decode cX2_takeMost 43 = .ok (.aload_n 1, 1) := by decide +kernel
theorem dX2_takeMost_44 : decode cX2_takeMost 44 = .ok (.iload_n 3, 1) := by decide +kernel
theorem dX2_takeMost_45 : decode cX2_takeMost 45 = .ok (.iload_n 2, 1) := by decide +kernel
theorem dX2_takeMost_46 : decode cX2_takeMost 46 = .ok (.invokevirtual 61, 3) := by decide +kernel
theorem dX2_takeMost_49 : decode cX2_takeMost 49 = .ok (.iinc 3 1, 3) := by decide +kernel
theorem dX2_takeMost_52 : decode cX2_takeMost 52 = .ok (.goto (-18), 3) := by decide +kernel
theorem dX2_takeMost_55 : decode cX2_takeMost 55 = .ok (.iconst 0, 1) := by decide +kernel
theorem dX2_takeMost_56 : decode cX2_takeMost 56 = .ok (.istore_n 3, 1) := by decide +kernel
theorem dX2_takeMost_57 : decode cX2_takeMost 57 = .ok (.iload_n 3, 1) := by decide +kernel
theorem dX2_takeMost_58 : decode cX2_takeMost 58 = .ok (.aload_n 0, 1) := by decide +kernel
theorem dX2_takeMost_59 : decode cX2_takeMost 59 = .ok (.getfield 9, 3) := by decide +kernel
theorem dX2_takeMost_62 : decode cX2_takeMost 62 = .ok (.if_icmp .gt 27, 3) := by decide +kernel
theorem dX2_takeMost_65 : decode cX2_takeMost 65 = .ok (.aload_n 0, 1) := by decide +kernel
theorem dX2_takeMost_66 : decode cX2_takeMost 66 = .ok (.iconst 0, 1) := by decide +kernel
theorem dX2_takeMost_67 : decode cX2_takeMost 67 = .ok (.invokevirtual 65, 3) := by decide +kernel
theorem dX2_takeMost_70 : decode cX2_takeMost 70 = .ok (.ifCond .eq 19, 3) := by decide +kernel
theorem dX2_takeMost_73 : decode cX2_takeMost 73 = .ok (.aload_n 0, 1) := by decide +kernel
theorem dX2_takeMost_74 : decode cX2_takeMost 74 = .ok (.dup, 1) := by decide +kernel
theorem dX2_takeMost_75 : decode cX2_takeMost 75 = .ok (.getfield 15, 3) := by decide +kernel
theorem dX2_takeMost_78 : decode cX2_takeMost 78 = .ok (.iconst 1, 1) := by decide +kernel
theorem dX2_takeMost_79 : decode cX2_takeMost 79 = .ok (.iadd, 1) := by decide +kernel
theorem dX2_takeMost_80 : decode cX2_takeMost 80 = .ok (.putfield 15, 3) := by decide +kernel
theorem dX2_takeMost_83 : decode cX2_takeMost 83 = .ok (.iinc 3 1, 3) := by decide +kernel
theorem dX2_takeMost_86 : decode cX2_takeMost 86 = .ok (.goto (-29), 3) := by decide +kernel
theorem dX2_takeMost_89 : decode cX2_takeMost 89 = .ok (.aload_n 0, 1) := by decide +kernel
theorem dX2_takeMost_90 : decode cX2_takeMost 90 = .ok (.aload_n 0, 1) := by decide +kernel
theorem dX2_takeMost_91 : decode cX2_takeMost 91 = .ok (.getfield 40, 3) := by decide +kernel
theorem dX2_takeMost_94 : decode cX2_takeMost 94 = .ok (.putfield 43, 3) := by decide +kernel
theorem dX2_takeMost_97 : decode cX2_takeMost 97 = .ok (.return_, 1) := by decide +kernel
theorem dX2_listSlots_0 : decode cX2_listSlots 0 = .ok (.aload_n 0, 1) := by decide +kernel
theorem dX2_listSlots_1 : decode cX2_listSlots 1 = .ok (.getfield 22, 3) := by decide +kernel
theorem dX2_listSlots_4 : decode cX2_listSlots 4 = .ok (.iload_n 2, 1) := by decide +kernel
theorem dX2_listSlots_5 : decode cX2_listSlots 5 = .ok (.iconst 0, 1) := by decide +kernel
theorem dX2_listSlots_6 : decode cX2_listSlots 6 = .ok (.iastore, 1) := by decide +kernel
theorem dX2_listSlots_7 : decode cX2_listSlots 7 = .ok (.aload_n 1, 1) := by decide +kernel
theorem dX2_listSlots_8 : decode cX2_listSlots 8 = .ok (.getfield 69, 3) := by decide +kernel
theorem dX2_listSlots_11 : decode cX2_listSlots 11 = .ok (.iconst (-1), 1) := by decide +kernel
theorem dX2_listSlots_12 : decode cX2_listSlots 12 = .ok (.invokevirtual 73, 3) := by decide +kernel
theorem dX2_listSlots_15 : decode cX2_listSlots 15 = .ok (.istore 4, 2) := by decide +kernel
theorem dX2_listSlots_17 : decode cX2_listSlots 17 = .ok (.iconst 0, 1) := by decide +kernel
theorem dX2_listSlots_18 : decode cX2_listSlots 18 = .ok (.istore 5, 2) := by decide +kernel
theorem dX2_listSlots_20 : decode cX2_listSlots 20 = .ok (.iload 5, 2) := by decide +kernel
theorem dX2_listSlots_22 : decode cX2_listSlots 22 = .ok (.iconst 4, 1) := by decide +kernel
theorem dX2_listSlots_23 : decode cX2_listSlots 23 = .ok (.if_icmp .ge 47, 3) := by decide +kernel
theorem dX2_listSlots_26 : decode cX2_listSlots 26 = .ok (.iload 4, 2) := by decide +kernel
theorem dX2_listSlots_28 : decode cX2_listSlots 28 = .ok (.ifCond .lt 42, 3) := by decide +kernel
theorem dX2_listSlots_31 : decode cX2_listSlots 31 = .ok (.iload 4, 2) := by decide +kernel
theorem dX2_listSlots_33 : decode cX2_listSlots 33 = .ok (.iload_n 3, 1) := by decide +kernel
theorem dX2_listSlots_34 : decode cX2_listSlots 34 = .ok (.if_icmp .eq 11, 3) := by decide +kernel
theorem dX2_listSlots_37 : decode cX2_listSlots 37 = .ok (.aload_n 0, 1) := by decide +kernel
theorem dX2_listSlots_38 : decode cX2_listSlots 38 = .ok (.aload_n 1, 1) := by decide +kernel
theorem dX2_listSlots_39 : decode cX2_listSlots 39 = .ok (.iload_n 2, 1) := by decide +kernel
theorem dX2_listSlots_40 : decode cX2_listSlots 40 = .ok (.iload 4, 2) := by decide +kernel
theorem dX2_listSlots_42 : decode cX2_listSlots 42 = .ok (.invokevirtual 79, 3) := by decide +kernel
theorem dX2_listSlots_45 : decode cX2_listSlots 45 = .ok (.aload_n 1, 1) := by decide +kernel
theorem dX2_listSlots_46 : decode cX2_listSlots 46 = .ok (.getfield 69, 3) := by decide +kernel
theorem dX2_listSlots_49 : decode cX2_listSlots 49 = .ok (.aload_n 1, 1) := by decide +kernel
theorem dX2_listSlots_50 : decode cX2_listSlots 50 = .ok (.getfield 69, 3) := by decide +kernel
theorem dX2_listSlots_53 : decode cX2_listSlots 53 = .ok (.getfield 82, 3) := by decide +kernel
theorem dX2_listSlots_56 : decode cX2_listSlots 56 = .ok (.iload 4, 2) := by decide +kernel
theorem dX2_listSlots_58 : decode cX2_listSlots 58 = .ok (.iaload, 1) := by decide +kernel
theorem dX2_listSlots_59 : decode cX2_listSlots 59 = .ok (.invokevirtual 73, 3) := by decide +kernel
theorem dX2_listSlots_62 : decode cX2_listSlots 62 = .ok (.istore 4, 2) := by decide +kernel
theorem dX2_listSlots_64 : decode cX2_listSlots 64 = .ok (.iinc 5 1, 3) := by decide +kernel
theorem dX2_listSlots_67 : decode cX2_listSlots 67 = .ok (.goto (-47), 3) := by decide +kernel
theorem dX2_listSlots_70 : decode cX2_listSlots 70 = .ok (.return_, 1) := by decide +kernel
theorem dX2_listSlotsOf_0 : decode cX2_listSlotsOf 0 = .ok (.aload_n 1, 1) := by decide +kernel
theorem dX2_listSlotsOf_1 : decode cX2_listSlotsOf 1 = .ok (.iload_n 3, 1) := by decide +kernel
theorem dX2_listSlotsOf_2 : decode cX2_listSlotsOf 2 = .ok (.iload_n 2, 1) := by decide +kernel
theorem dX2_listSlotsOf_3 : decode cX2_listSlotsOf 3 = .ok (.invokevirtual 85, 3) := by decide +kernel
theorem dX2_listSlotsOf_6 : decode cX2_listSlotsOf 6 = .ok (.istore 4, 2) := by decide +kernel
theorem dX2_listSlotsOf_8 : decode cX2_listSlotsOf 8 = .ok (.aload_n 1, 1) := by decide +kernel
theorem dX2_listSlotsOf_9 : decode cX2_listSlotsOf 9 = .ok (.iload_n 3, 1) := by decide +kernel
theorem dX2_listSlotsOf_10 : decode cX2_listSlotsOf 10 = .ok (.iload_n 2, 1) := by decide +kernel
theorem dX2_listSlotsOf_11 : decode cX2_listSlotsOf 11 = .ok (.invokevirtual 89, 3) := by decide +kernel
theorem dX2_listSlotsOf_14 : decode cX2_listSlotsOf 14 = .ok (.istore 5, 2) := by decide +kernel
theorem dX2_listSlotsOf_16 : decode cX2_listSlotsOf 16 = .ok (.aload_n 0, 1) := by decide +kernel
theorem dX2_listSlotsOf_17 : decode cX2_listSlotsOf 17 = .ok (.getfield 22, 3) := by decide +kernel
theorem dX2_listSlotsOf_20 : decode cX2_listSlotsOf 20 = .ok (.iload_n 2, 1) := by decide +kernel
theorem dX2_listSlotsOf_21 : decode cX2_listSlotsOf 21 = .ok (.iaload, 1) := by decide +kernel
theorem dX2_listSlotsOf_22 : decode cX2_listSlotsOf 22 = .ok (.istore 6, 2) := by decide +kernel
theorem dX2_listSlotsOf_24 : decode cX2_listSlotsOf 24 = .ok (.iload 5, 2) := by decide +kernel
theorem dX2_listSlotsOf_26 : decode cX2_listSlotsOf 26 = .ok (.iload 4, 2) := by decide +kernel
theorem dX2_listSlotsOf_28 : decode cX2_listSlotsOf 28 = .ok (.if_icmp .gt 48, 3) := by decide +kernel
theorem dX2_listSlotsOf_31 : decode cX2_listSlotsOf 31 = .ok (.iload 6, 2) := by decide +kernel
theorem dX2_listSlotsOf_33 : decode cX2_listSlotsOf 33 = .ok (.bipush 20, 2) := by decide +kernel
theorem dX2_listSlotsOf_35 : decode cX2_listSlotsOf 35 = .ok (.if_icmp .ge 41, 3) := by decide +kernel
theorem dX2_listSlotsOf_38 : decode cX2_listSlotsOf 38 = .ok (.aload_n 0, 1) := by decide +kernel
theorem dX2_listSlotsOf_39 : decode cX2_listSlotsOf 39 = .ok (.getfield 18, 3) := by decide +kernel
theorem dX2_listSlotsOf_42 : decode cX2_listSlotsOf 42 = .ok (.iload_n 2, 1) := by decide +kernel
theorem dX2_listSlotsOf_43 : decode cX2_listSlotsOf 43 = .ok (.bipush 20, 2) := by decide +kernel
theorem dX2_listSlotsOf_45 : decode cX2_listSlotsOf 45 = .ok (.imul, 1) := by decide +kernel
theorem dX2_listSlotsOf_46 : decode cX2_listSlotsOf 46 = .ok (.iload 6, 2) := by decide +kernel
theorem dX2_listSlotsOf_48 : decode cX2_listSlotsOf 48 = .ok (.iadd, 1) := by decide +kernel
theorem dX2_listSlotsOf_49 : decode cX2_listSlotsOf 49 = .ok (.iload 5, 2) := by decide +kernel
theorem dX2_listSlotsOf_51 : decode cX2_listSlotsOf 51 = .ok (.iconst 4, 1) := by decide +kernel
theorem dX2_listSlotsOf_52 : decode cX2_listSlotsOf 52 = .ok (.imul, 1) := by decide +kernel
theorem dX2_listSlotsOf_53 : decode cX2_listSlotsOf 53 = .ok (.iload_n 3, 1) := by decide +kernel
theorem dX2_listSlotsOf_54 : decode cX2_listSlotsOf 54 = .ok (.iadd, 1) := by decide +kernel
theorem dX2_listSlotsOf_55 : decode cX2_listSlotsOf 55 = .ok (.iastore, 1) := by decide +kernel
theorem dX2_listSlotsOf_56 : decode cX2_listSlotsOf 56 = .ok (.iinc 6 1, 3) := by decide +kernel
theorem dX2_listSlotsOf_59 : decode cX2_listSlotsOf 59 = .ok (.aload_n 1, 1) := by decide +kernel
theorem dX2_listSlotsOf_60 : decode cX2_listSlotsOf 60 = .ok (.getfield 69, 3) := by decide +kernel
theorem dX2_listSlotsOf_63 : decode cX2_listSlotsOf 63 = .ok (.iload_n 3, 1) := by decide +kernel
theorem dX2_listSlotsOf_64 : decode cX2_listSlotsOf 64 = .ok (.iload 5, 2) := by decide +kernel
theorem dX2_listSlotsOf_66 : decode cX2_listSlotsOf 66 = .ok (.iconst 1, 1) := by decide +kernel
theorem dX2_listSlotsOf_67 : decode cX2_listSlotsOf 67 = .ok (.iadd, 1) := by decide +kernel
theorem dX2_listSlotsOf_68 : decode cX2_listSlotsOf 68 = .ok (.invokevirtual 92, 3) := by decide +kernel
theorem dX2_listSlotsOf_71 : decode cX2_listSlotsOf 71 = .ok (.istore 5, 2) := by decide +kernel
theorem dX2_listSlotsOf_73 : decode cX2_listSlotsOf 73 = .ok (.goto (-49), 3) := by decide +kernel
theorem dX2_listSlotsOf_76 : decode cX2_listSlotsOf 76 = .ok (.aload_n 0, 1) := by decide +kernel
theorem dX2_listSlotsOf_77 : decode cX2_listSlotsOf 77 = .ok (.getfield 22, 3) := by decide +kernel
theorem dX2_listSlotsOf_80 : decode cX2_listSlotsOf 80 = .ok (.iload_n 2, 1) := by decide +kernel
theorem dX2_listSlotsOf_81 : decode cX2_listSlotsOf 81 = .ok (.iload 6, 2) := by decide +kernel
theorem dX2_listSlotsOf_83 : decode cX2_listSlotsOf 83 = .ok (.iastore, 1) := by decide +kernel
theorem dX2_listSlotsOf_84 : decode cX2_listSlotsOf 84 = .ok (.return_, 1) := by decide +kernel
theorem dX2_settle_0 : decode cX2_settle 0 = .ok (.iconst 0, 1) := by decide +kernel
theorem dX2_settle_1 : decode cX2_settle 1 = .ok (.istore_n 1, 1) := by decide +kernel
theorem dX2_settle_2 : decode cX2_settle 2 = .ok (.iload_n 1, 1) := by decide +kernel
theorem dX2_settle_3 : decode cX2_settle 3 = .ok (.aload_n 0, 1) := by decide +kernel
theorem dX2_settle_4 : decode cX2_settle 4 = .ok (.getfield 9, 3) := by decide +kernel
theorem dX2_settle_7 : decode cX2_settle 7 = .ok (.if_icmp .ge 50, 3) := by decide +kernel
theorem dX2_settle_10 : decode cX2_settle 10 = .ok (.iconst 0, 1) := by decide +kernel
theorem dX2_settle_11 : decode cX2_settle 11 = .ok (.istore_n 2, 1) := by decide +kernel
theorem dX2_settle_12 : decode cX2_settle 12 = .ok (.iconst 0, 1) := by decide +kernel
theorem dX2_settle_13 : decode cX2_settle 13 = .ok (.istore_n 3, 1) := by decide +kernel
theorem dX2_settle_14 : decode cX2_settle 14 = .ok (.iload_n 3, 1) := by decide +kernel
theorem dX2_settle_15 : decode cX2_settle 15 = .ok (.aload_n 0, 1) := by decide +kernel
theorem dX2_settle_16 : decode cX2_settle 16 = .ok (.getfield 22, 3) := by decide +kernel
theorem dX2_settle_19 : decode cX2_settle 19 = .ok (.iload_n 1, 1) := by decide +kernel
theorem dX2_settle_20 : decode cX2_settle 20 = .ok (.iaload, 1) := by decide +kernel
theorem dX2_settle_21 : decode cX2_settle 21 = .ok (.if_icmp .ge 30, 3) := by decide +kernel
theorem dX2_settle_24 : decode cX2_settle 24 = .ok (.iload_n 2, 1) := by decide +kernel
theorem dX2_settle_25 : decode cX2_settle 25 = .ok (.ifCond .ne 26, 3) := by decide +kernel
theorem dX2_settle_28 : decode cX2_settle 28 = .ok (.aload_n 0, 1) := by decide +kernel
theorem dX2_settle_29 : decode cX2_settle 29 = .ok (.iload_n 1, 1) := by decide +kernel
theorem dX2_settle_30 : decode cX2_settle 30 = .ok (.aload_n 0, 1) := by decide +kernel
theorem dX2_settle_31 : decode cX2_settle 31 = .ok (.getfield 18, 3) := by decide +kernel
theorem dX2_settle_34 : decode cX2_settle 34 = .ok (.iload_n 1, 1) := by decide +kernel
theorem dX2_settle_35 : decode cX2_settle 35 = .ok (.bipush 20, 2) := by decide +kernel
theorem dX2_settle_37 : decode cX2_settle 37 = .ok (.imul, 1) := by decide +kernel
theorem dX2_settle_38 : decode cX2_settle 38 = .ok (.iload_n 3, 1) := by decide +kernel
theorem dX2_settle_39 : decode cX2_settle 39 = .ok (.iadd, 1) := by decide +kernel
theorem dX2_settle_40 : decode cX2_settle 40 = .ok (.iaload, 1) := by decide +kernel
theorem dX2_settle_41 : decode cX2_settle 41 = .ok (.invokevirtual 95, 3) := by decide +kernel
theorem dX2_settle_44 : decode cX2_settle 44 = .ok (.istore_n 2, 1) := by decide +kernel
theorem dX2_settle_45 : decode cX2_settle 45 = .ok (.iinc 3 1, 3) := by decide +kernel
theorem dX2_settle_48 : decode cX2_settle 48 = .ok (.goto (-34), 3) := by decide +kernel
theorem dX2_settle_51 : decode cX2_settle 51 = .ok (.iinc 1 1, 3) := by decide +kernel
theorem dX2_settle_54 : decode cX2_settle 54 = .ok (.goto (-52), 3) := by decide +kernel
theorem dX2_settle_57 : decode cX2_settle 57 = .ok (.return_, 1) := by decide +kernel
theorem dX2_settleAt_0 : decode cX2_settleAt 0 = .ok (.aload_n 0, 1) := by decide +kernel
theorem dX2_settleAt_1 : decode cX2_settleAt 1 = .ok (.getfield 28, 3) := by decide +kernel
theorem dX2_settleAt_4 : decode cX2_settleAt 4 = .ok (.iload_n 2, 1) := by decide +kernel
theorem dX2_settleAt_5 : decode cX2_settleAt 5 = .ok (.iaload, 1) := by decide +kernel
theorem dX2_settleAt_6 : decode cX2_settleAt 6 = .ok (.istore_n 3, 1) := by decide +kernel
theorem dX2_settleAt_7 : decode cX2_settleAt 7 = .ok (.iload_n 3, 1) := by decide +kernel
theorem dX2_settleAt_8 : decode cX2_settleAt 8 = .ok (.ifCond .lt 19, 3) := by decide +kernel
theorem dX2_settleAt_11 : decode cX2_settleAt 11 = .ok (.iload_n 3, 1) := by decide +kernel
theorem dX2_settleAt_12 : decode cX2_settleAt 12 = .ok (.iload_n 1, 1) := by decide +kernel
theorem dX2_settleAt_13 : decode cX2_settleAt 13 = .ok (.if_icmp .gt 14, 3) := by decide +kernel
theorem dX2_settleAt_16 : decode cX2_settleAt 16 = .ok (.iload_n 3, 1) := by decide +kernel
theorem dX2_settleAt_17 : decode cX2_settleAt 17 = .ok (.iload_n 1, 1) := by decide +kernel
theorem dX2_settleAt_18 : decode cX2_settleAt 18 = .ok (.if_icmp .ne 7, 3) := by decide +kernel
theorem dX2_settleAt_21 : decode cX2_settleAt 21 = .ok (.iconst 1, 1) := by decide +kernel
theorem dX2_settleAt_22 : decode cX2_settleAt 22 = .ok (.goto 4, 3) := by decide +kernel
theorem dX2_settleAt_25 : decode cX2_settleAt 25 = .ok (.iconst 0, 1) := by decide +kernel
theorem dX2_settleAt_26 : decode cX2_settleAt 26 = .ok (.ireturn, 1) := by decide +kernel
theorem dX2_settleAt_27 : decode cX2_settleAt 27 = .ok (.aload_n 0, 1) := by decide +kernel
theorem dX2_settleAt_28 : decode cX2_settleAt 28 = .ok (.getfield 25, 3) := by decide +kernel
theorem dX2_settleAt_31 : decode cX2_settleAt 31 = .ok (.iload_n 1, 1) := by decide +kernel
theorem dX2_settleAt_32 : decode cX2_settleAt 32 = .ok (.iaload, 1) := by decide +kernel
theorem dX2_settleAt_33 : decode cX2_settleAt 33 = .ok (.istore 4, 2) := by decide +kernel
theorem dX2_settleAt_35 : decode cX2_settleAt 35 = .ok (.aload_n 0, 1) := by decide +kernel
theorem dX2_settleAt_36 : decode cX2_settleAt 36 = .ok (.iload_n 1, 1) := by decide +kernel
theorem dX2_settleAt_37 : decode cX2_settleAt 37 = .ok (.invokevirtual 99, 3) := by decide +kernel
theorem dX2_settleAt_40 : decode cX2_settleAt 40 = .ok (.iload_n 3, 1) := by decide +kernel
theorem dX2_settleAt_41 : decode cX2_settleAt 41 = .ok (.ifCond .lt 8, 3) := by decide +kernel
theorem dX2_settleAt_44 : decode cX2_settleAt 44 = .ok (.aload_n 0, 1) := by decide +kernel
theorem dX2_settleAt_45 : decode cX2_settleAt 45 = .ok (.iload_n 3, 1) := by decide +kernel
theorem dX2_settleAt_46 : decode cX2_settleAt 46 = .ok (.invokevirtual 99, 3) := by decide +kernel
theorem dX2_settleAt_49 : decode cX2_settleAt 49 = .ok (.aload_n 0, 1) := by decide +kernel
theorem dX2_settleAt_50 : decode cX2_settleAt 50 = .ok (.iload_n 1, 1) := by decide +kernel
theorem dX2_settleAt_51 : decode cX2_settleAt 51 = .ok (.iload_n 2, 1) := by decide +kernel
theorem dX2_settleAt_52 : decode cX2_settleAt 52 = .ok (.invokevirtual 103, 3) := by decide +kernel
theorem dX2_settleAt_55 : decode cX2_settleAt 55 = .ok (.iload_n 3, 1) := by decide +kernel
theorem dX2_settleAt_56 : decode cX2_settleAt 56 = .ok (.ifCond .lt 18, 3) := by decide +kernel
theorem dX2_settleAt_59 : decode cX2_settleAt 59 = .ok (.iload 4, 2) := by decide +kernel
theorem dX2_settleAt_61 : decode cX2_settleAt 61 = .ok (.ifCond .lt 13, 3) := by decide +kernel
theorem dX2_settleAt_64 : decode cX2_settleAt 64 = .ok (.aload_n 0, 1) := by decide +kernel
theorem dX2_settleAt_65 : decode cX2_settleAt 65 = .ok (.iload_n 1, 1) := by decide +kernel
theorem dX2_settleAt_66 : decode cX2_settleAt 66 = .ok (.iconst 1, 1) := by decide +kernel
theorem dX2_settleAt_67 : decode cX2_settleAt 67 = .ok (.iadd, 1) := by decide +kernel
theorem dX2_settleAt_68 : decode cX2_settleAt 68 = .ok (.invokevirtual 65, 3) := by decide +kernel
theorem dX2_settleAt_71 : decode cX2_settleAt 71 = .ok (.ifCond .eq 5, 3) := by decide +kernel
theorem dX2_settleAt_74 : decode cX2_settleAt 74 = .ok (.iconst 1, 1) := by decide +kernel
theorem dX2_settleAt_75 : decode cX2_settleAt 75 = .ok (.ireturn, 1) := by decide +kernel
theorem dX2_settleAt_76 : decode cX2_settleAt 76 = .ok (.aload_n 0, 1) := by decide +kernel
theorem dX2_settleAt_77 : decode cX2_settleAt 77 = .ok (.iload_n 1, 1) := by decide +kernel
theorem dX2_settleAt_78 : decode cX2_settleAt 78 = .ok (.iload 4, 2) := by decide +kernel
theorem dX2_settleAt_80 : decode cX2_settleAt 80 = .ok (.invokevirtual 103, 3) := by decide +kernel
theorem dX2_settleAt_83 : decode cX2_settleAt 83 = .ok (.aload_n 0, 1) := by decide +kernel
theorem dX2_settleAt_84 : decode cX2_settleAt 84 = .ok (.iload_n 3, 1) := by decide +kernel
theorem dX2_settleAt_85 : decode cX2_settleAt 85 = .ok (.iload_n 2, 1) := by decide +kernel
theorem dX2_settleAt_86 : decode cX2_settleAt 86 = .ok (.invokevirtual 103, 3) := by decide +kernel
theorem dX2_settleAt_89 : decode cX2_settleAt 89 = .ok (.iconst 0, 1) := by decide +kernel
theorem dX2_settleAt_90 : decode cX2_settleAt 90 = .ok (.ireturn, 1) := by decide +kernel
theorem dX2_hold_0 : decode cX2_hold 0 = .ok (.aload_n 0, 1) := by decide +kernel
theorem dX2_hold_1 : decode cX2_hold 1 = .ok (.getfield 25, 3) := by decide +kernel
theorem dX2_hold_4 : decode cX2_hold 4 = .ok (.iload_n 1, 1) := by decide +kernel
theorem dX2_hold_5 : decode cX2_hold 5 = .ok (.iload_n 2, 1) := by decide +kernel
theorem dX2_hold_6 : decode cX2_hold 6 = .ok (.iastore, 1) := by decide +kernel
theorem dX2_hold_7 : decode cX2_hold 7 = .ok (.aload_n 0, 1) := by decide +kernel
theorem dX2_hold_8 : decode cX2_hold 8 = .ok (.getfield 28, 3) := by decide +kernel
theorem dX2_hold_11 : decode cX2_hold 11 = .ok (.iload_n 2, 1) := by decide +kernel
theorem dX2_hold_12 : decode cX2_hold 12 = .ok (.iload_n 1, 1) := by decide +kernel
theorem dX2_hold_13 : decode cX2_hold 13 = .ok (.iastore, 1) := by decide +kernel
theorem dX2_hold_14 : decode cX2_hold 14 = .ok (.return_, 1) := by decide +kernel
theorem dX2_leave_0 : decode cX2_leave 0 = .ok (.aload_n 0, 1) := by decide +kernel
theorem dX2_leave_1 : decode cX2_leave 1 = .ok (.getfield 25, 3) := by decide +kernel
theorem dX2_leave_4 : decode cX2_leave 4 = .ok (.iload_n 1, 1) := by decide +kernel
theorem dX2_leave_5 : decode cX2_leave 5 = .ok (.iaload, 1) := by decide +kernel
theorem dX2_leave_6 : decode cX2_leave 6 = .ok (.istore_n 2, 1) := by decide +kernel
theorem dX2_leave_7 : decode cX2_leave 7 = .ok (.iload_n 2, 1) := by decide +kernel
theorem dX2_leave_8 : decode cX2_leave 8 = .ok (.ifCond .lt 17, 3) := by decide +kernel
theorem dX2_leave_11 : decode cX2_leave 11 = .ok (.aload_n 0, 1) := by decide +kernel
theorem dX2_leave_12 : decode cX2_leave 12 = .ok (.getfield 28, 3) := by decide +kernel
theorem dX2_leave_15 : decode cX2_leave 15 = .ok (.iload_n 2, 1) := by decide +kernel
theorem dX2_leave_16 : decode cX2_leave 16 = .ok (.iconst (-1), 1) := by decide +kernel
theorem dX2_leave_17 : decode cX2_leave 17 = .ok (.iastore, 1) := by decide +kernel
theorem dX2_leave_18 : decode cX2_leave 18 = .ok (.aload_n 0, 1) := by decide +kernel
theorem dX2_leave_19 : decode cX2_leave 19 = .ok (.getfield 25, 3) := by decide +kernel
theorem dX2_leave_22 : decode cX2_leave 22 = .ok (.iload_n 1, 1) := by decide +kernel
theorem dX2_leave_23 : decode cX2_leave 23 = .ok (.iconst (-1), 1) := by decide +kernel
theorem dX2_leave_24 : decode cX2_leave 24 = .ok (.iastore, 1) := by decide +kernel
theorem dX2_leave_25 : decode cX2_leave 25 = .ok (.return_, 1) := by decide +kernel
theorem dX2_takeOneMore_0 : decode cX2_takeOneMore 0 = .ok (.aload_n 0, 1) := by decide +kernel
theorem dX2_takeOneMore_1 : decode cX2_takeOneMore 1 = .ok (.iconst 0, 1) := by decide +kernel
theorem dX2_takeOneMore_2 : decode cX2_takeOneMore 2 = .ok (.putfield 37, 3) := by decide +kernel
theorem dX2_takeOneMore_5 : decode cX2_takeOneMore 5 = .ok (.aload_n 0, 1) := by decide +kernel
theorem dX2_takeOneMore_6 : decode cX2_takeOneMore 6 = .ok (.iconst 0, 1) := by decide +kernel
theorem dX2_takeOneMore_7 : decode cX2_takeOneMore 7 = .ok (.putfield 40, 3) := by decide +kernel
theorem dX2_takeOneMore_10 : decode cX2_takeOneMore 10 = .ok (.iload_n 1, 1) := by decide +kernel
theorem dX2_takeOneMore_11 : decode cX2_takeOneMore 11 = .ok (.istore_n 2, 1) := by decide +kernel
theorem dX2_takeOneMore_12 : decode cX2_takeOneMore 12 = .ok (.iload_n 2, 1) := by decide +kernel
theorem dX2_takeOneMore_13 : decode cX2_takeOneMore 13 = .ok (.aload_n 0, 1) := by decide +kernel
theorem dX2_takeOneMore_14 : decode cX2_takeOneMore 14 = .ok (.getfield 9, 3) := by decide +kernel
theorem dX2_takeOneMore_17 : decode cX2_takeOneMore 17 = .ok (.if_icmp .ge 24, 3) := by decide +kernel
theorem dX2_takeOneMore_20 : decode cX2_takeOneMore 20 = .ok (.aload_n 0, 1) := by decide +kernel
theorem dX2_takeOneMore_21 : decode cX2_takeOneMore 21 = .ok (.getfield 25, 3) := by decide +kernel
theorem dX2_takeOneMore_24 : decode cX2_takeOneMore 24 = .ok (.iload_n 2, 1) := by decide +kernel
theorem dX2_takeOneMore_25 : decode cX2_takeOneMore 25 = .ok (.iaload, 1) := by decide +kernel
theorem dX2_takeOneMore_26 : decode cX2_takeOneMore 26 = .ok (.ifCond .ge 9, 3) := by decide +kernel
theorem dX2_takeOneMore_29 : decode cX2_takeOneMore 29 = .ok (.aload_n 0, 1) := by decide +kernel
theorem dX2_takeOneMore_30 : decode cX2_takeOneMore 30 = .ok (.iload_n 2, 1) := by decide +kernel
theorem dX2_takeOneMore_31 : decode cX2_takeOneMore 31 = .ok (.iconst (-1), 1) := by decide +kernel
theorem dX2_takeOneMore_32 : decode cX2_takeOneMore 32 = .ok (.invokevirtual 107, 3) := by decide +kernel
theorem dX2_takeOneMore_35 : decode cX2_takeOneMore 35 = .ok (.iinc 2 1, 3) := by decide +kernel
theorem dX2_takeOneMore_38 : decode cX2_takeOneMore 38 = .ok (.goto (-26), 3) := by decide +kernel
theorem dX2_takeOneMore_41 : decode cX2_takeOneMore 41 = .ok (.iconst 0, 1) := by decide +kernel
theorem dX2_takeOneMore_42 : decode cX2_takeOneMore 42 = .ok (.istore_n 2, 1) := by decide +kernel
theorem dX2_takeOneMore_43 : decode cX2_takeOneMore 43 = .ok (.iload_n 2, 1) := by decide +kernel
theorem dX2_takeOneMore_44 : decode cX2_takeOneMore 44 = .ok (.aload_n 0, 1) := by decide +kernel
theorem dX2_takeOneMore_45 : decode cX2_takeOneMore 45 = .ok (.getfield 37, 3) := by decide +kernel
theorem dX2_takeOneMore_48 : decode cX2_takeOneMore 48 = .ok (.if_icmp .ge 38, 3) := by decide +kernel
theorem dX2_takeOneMore_51 : decode cX2_takeOneMore 51 = .ok (.aload_n 0, 1) := by decide +kernel
theorem dX2_takeOneMore_52 : decode cX2_takeOneMore 52 = .ok (.getfield 31, 3) := by decide +kernel
theorem dX2_takeOneMore_55 : decode cX2_takeOneMore 55 = .ok (.iload_n 2, 1) := by decide +kernel
theorem dX2_takeOneMore_56 : decode cX2_takeOneMore 56 = .ok (.iaload, 1) := by decide +kernel
theorem dX2_takeOneMore_57 : decode cX2_takeOneMore 57 = .ok (.istore_n 3, 1) := by decide +kernel
theorem dX2_takeOneMore_58 : decode cX2_takeOneMore 58 = .ok (.aload_n 0, 1) := by decide +kernel
theorem dX2_takeOneMore_59 : decode cX2_takeOneMore 59 = .ok (.iload_n 3, 1) := by decide +kernel
theorem dX2_takeOneMore_60 : decode cX2_takeOneMore 60 = .ok (.iload_n 1, 1) := by decide +kernel
theorem dX2_takeOneMore_61 : decode cX2_takeOneMore 61 = .ok (.invokevirtual 110, 3) := by decide +kernel
theorem dX2_takeOneMore_64 : decode cX2_takeOneMore 64 = .ok (.istore 4, 2) := by decide +kernel
theorem dX2_takeOneMore_66 : decode cX2_takeOneMore 66 = .ok (.iload 4, 2) := by decide +kernel
theorem dX2_takeOneMore_68 : decode cX2_takeOneMore 68 = .ok (.ifCond .lt 12, 3) := by decide +kernel
theorem dX2_takeOneMore_71 : decode cX2_takeOneMore 71 = .ok (.aload_n 0, 1) := by decide +kernel
theorem dX2_takeOneMore_72 : decode cX2_takeOneMore 72 = .ok (.iload_n 3, 1) := by decide +kernel
theorem dX2_takeOneMore_73 : decode cX2_takeOneMore 73 = .ok (.iload 4, 2) := by decide +kernel
theorem dX2_takeOneMore_75 : decode cX2_takeOneMore 75 = .ok (.invokevirtual 113, 3) := by decide +kernel
theorem dX2_takeOneMore_78 : decode cX2_takeOneMore 78 = .ok (.iconst 1, 1) := by decide +kernel
theorem dX2_takeOneMore_79 : decode cX2_takeOneMore 79 = .ok (.ireturn, 1) := by decide +kernel
theorem dX2_takeOneMore_80 : decode cX2_takeOneMore 80 = .ok (.iinc 2 1, 3) := by decide +kernel
theorem dX2_takeOneMore_83 : decode cX2_takeOneMore 83 = .ok (.goto (-40), 3) := by decide +kernel
theorem dX2_takeOneMore_86 : decode cX2_takeOneMore 86 = .ok (.iconst 0, 1) := by decide +kernel
theorem dX2_takeOneMore_87 : decode cX2_takeOneMore 87 = .ok (.ireturn, 1) := by decide +kernel
theorem dX2_freeSlot_0 : decode cX2_freeSlot 0 = .ok (.iconst 0, 1) := by decide +kernel
theorem dX2_freeSlot_1 : decode cX2_freeSlot 1 = .ok (.istore_n 3, 1) := by decide +kernel
theorem dX2_freeSlot_2 : decode cX2_freeSlot 2 = .ok (.iload_n 3, 1) := by decide +kernel
theorem dX2_freeSlot_3 : decode cX2_freeSlot 3 = .ok (.aload_n 0, 1) := by decide +kernel
theorem dX2_freeSlot_4 : decode cX2_freeSlot 4 = .ok (.getfield 22, 3) := by decide +kernel
theorem dX2_freeSlot_7 : decode cX2_freeSlot 7 = .ok (.iload_n 1, 1) := by decide +kernel
theorem dX2_freeSlot_8 : decode cX2_freeSlot 8 = .ok (.iaload, 1) := by decide +kernel
theorem dX2_freeSlot_9 : decode cX2_freeSlot 9 = .ok (.if_icmp .ge 52, 3) := by decide +kernel
theorem dX2_freeSlot_12 : decode cX2_freeSlot 12 = .ok (.aload_n 0, 1) := by decide +kernel
theorem dX2_freeSlot_13 : decode cX2_freeSlot 13 = .ok (.getfield 18, 3) := by decide +kernel
theorem dX2_freeSlot_16 : decode cX2_freeSlot 16 = .ok (.iload_n 1, 1) := by decide +kernel
theorem dX2_freeSlot_17 : decode cX2_freeSlot 17 = .ok (.bipush 20, 2) := by decide +kernel
theorem dX2_freeSlot_19 : decode cX2_freeSlot 19 = .ok (.imul, 1) := by decide +kernel
theorem dX2_freeSlot_20 : decode cX2_freeSlot 20 = .ok (.iload_n 3, 1) := by decide +kernel
theorem dX2_freeSlot_21 : decode cX2_freeSlot 21 = .ok (.iadd, 1) := by decide +kernel
theorem dX2_freeSlot_22 : decode cX2_freeSlot 22 = .ok (.iaload, 1) := by decide +kernel
theorem dX2_freeSlot_23 : decode cX2_freeSlot 23 = .ok (.istore 4, 2) := by decide +kernel
theorem dX2_freeSlot_25 : decode cX2_freeSlot 25 = .ok (.aload_n 0, 1) := by decide +kernel
theorem dX2_freeSlot_26 : decode cX2_freeSlot 26 = .ok (.getfield 28, 3) := by decide +kernel
theorem dX2_freeSlot_29 : decode cX2_freeSlot 29 = .ok (.iload 4, 2) := by decide +kernel
theorem dX2_freeSlot_31 : decode cX2_freeSlot 31 = .ok (.iaload, 1) := by decide +kernel
theorem dX2_freeSlot_32 : decode cX2_freeSlot 32 = .ok (.istore 5, 2) := by decide +kernel
theorem dX2_freeSlot_34 : decode cX2_freeSlot 34 = .ok (.iload 5, 2) := by decide +kernel
theorem dX2_freeSlot_36 : decode cX2_freeSlot 36 = .ok (.ifCond .ge 6, 3) := by decide +kernel
theorem dX2_freeSlot_39 : decode cX2_freeSlot 39 = .ok (.iload 4, 2) := by decide +kernel
theorem dX2_freeSlot_41 : decode cX2_freeSlot 41 = .ok (.ireturn, 1) := by decide +kernel
theorem dX2_freeSlot_42 : decode cX2_freeSlot 42 = .ok (.iload 5, 2) := by decide +kernel
theorem dX2_freeSlot_44 : decode cX2_freeSlot 44 = .ok (.iload_n 2, 1) := by decide +kernel
theorem dX2_freeSlot_45 : decode cX2_freeSlot 45 = .ok (.if_icmp .lt 10, 3) := by decide +kernel
theorem dX2_freeSlot_48 : decode cX2_freeSlot 48 = .ok (.aload_n 0, 1) := by decide +kernel
theorem dX2_freeSlot_49 : decode cX2_freeSlot 49 = .ok (.iload 5, 2) := by decide +kernel
theorem dX2_freeSlot_51 : decode cX2_freeSlot 51 = .ok (.iload_n 1, 1) := by decide +kernel
theorem dX2_freeSlot_52 : decode cX2_freeSlot 52 = .ok (.invokevirtual 107, 3) := by decide +kernel
theorem dX2_freeSlot_55 : decode cX2_freeSlot 55 = .ok (.iinc 3 1, 3) := by decide +kernel
theorem dX2_freeSlot_58 : decode cX2_freeSlot 58 = .ok (.goto (-56), 3) := by decide +kernel
theorem dX2_freeSlot_61 : decode cX2_freeSlot 61 = .ok (.iconst (-1), 1) := by decide +kernel
theorem dX2_freeSlot_62 : decode cX2_freeSlot 62 = .ok (.ireturn, 1) := by decide +kernel
theorem dX2_enqueue_0 : decode cX2_enqueue 0 = .ok (.aload_n 0, 1) := by decide +kernel
theorem dX2_enqueue_1 : decode cX2_enqueue 1 = .ok (.getfield 40, 3) := by decide +kernel
theorem dX2_enqueue_4 : decode cX2_enqueue 4 = .ok (.iload_n 1, 1) := by decide +kernel
theorem dX2_enqueue_5 : decode cX2_enqueue 5 = .ok (.ishr, 1) := by decide +kernel
theorem dX2_enqueue_6 : decode cX2_enqueue 6 = .ok (.iconst 1, 1) := by decide +kernel
theorem dX2_enqueue_7 : decode cX2_enqueue 7 = .ok (.iand, 1) := by decide +kernel
theorem dX2_enqueue_8 : decode cX2_enqueue 8 = .ok (.ifCond .ne 51, 3) := by decide +kernel
theorem dX2_enqueue_11 : decode cX2_enqueue 11 = .ok (.aload_n 0, 1) := by decide +kernel
theorem dX2_enqueue_12 : decode cX2_enqueue 12 = .ok (.getfield 37, 3) := by decide +kernel
theorem dX2_enqueue_15 : decode cX2_enqueue 15 = .ok (.bipush 20, 2) := by decide +kernel
theorem dX2_enqueue_17 : decode cX2_enqueue 17 = .ok (.if_icmp .ge 42, 3) := by decide +kernel
theorem dX2_enqueue_20 : decode cX2_enqueue 20 = .ok (.aload_n 0, 1) := by decide +kernel
theorem dX2_enqueue_21 : decode cX2_enqueue 21 = .ok (.dup, 1) := by decide +kernel
theorem dX2_enqueue_22 : decode cX2_enqueue 22 = .ok (.getfield 40, 3) := by decide +kernel
theorem dX2_enqueue_25 : decode cX2_enqueue 25 = .ok (.iconst 1, 1) := by decide +kernel
theorem dX2_enqueue_26 : decode cX2_enqueue 26 = .ok (.iload_n 1, 1) := by decide +kernel
theorem dX2_enqueue_27 : decode cX2_enqueue 27 = .ok (.ishl, 1) := by decide +kernel
theorem dX2_enqueue_28 : decode cX2_enqueue 28 = .ok (.ior, 1) := by decide +kernel
theorem dX2_enqueue_29 : decode cX2_enqueue 29 = .ok (.putfield 40, 3) := by decide +kernel
theorem dX2_enqueue_32 : decode cX2_enqueue 32 = .ok (.aload_n 0, 1) := by decide +kernel
theorem dX2_enqueue_33 : decode cX2_enqueue 33 = .ok (.getfield 34, 3) := by decide +kernel
theorem dX2_enqueue_36 : decode cX2_enqueue 36 = .ok (.iload_n 1, 1) := by decide +kernel
theorem dX2_enqueue_37 : decode cX2_enqueue 37 = .ok (.iload_n 2, 1) := by decide +kernel
theorem dX2_enqueue_38 : decode cX2_enqueue 38 = .ok (.iastore, 1) := by decide +kernel
theorem dX2_enqueue_39 : decode cX2_enqueue 39 = .ok (.aload_n 0, 1) := by decide +kernel
theorem dX2_enqueue_40 : decode cX2_enqueue 40 = .ok (.getfield 31, 3) := by decide +kernel
theorem dX2_enqueue_43 : decode cX2_enqueue 43 = .ok (.aload_n 0, 1) := by decide +kernel
theorem dX2_enqueue_44 : decode cX2_enqueue 44 = .ok (.getfield 37, 3) := by decide +kernel
theorem dX2_enqueue_47 : decode cX2_enqueue 47 = .ok (.iload_n 1, 1) := by decide +kernel
theorem dX2_enqueue_48 : decode cX2_enqueue 48 = .ok (.iastore, 1) := by decide +kernel
theorem dX2_enqueue_49 : decode cX2_enqueue 49 = .ok (.aload_n 0, 1) := by decide +kernel
theorem dX2_enqueue_50 : decode cX2_enqueue 50 = .ok (.dup, 1) := by decide +kernel
theorem dX2_enqueue_51 : decode cX2_enqueue 51 = .ok (.getfield 37, 3) := by decide +kernel
theorem dX2_enqueue_54 : decode cX2_enqueue 54 = .ok (.iconst 1, 1) := by decide +kernel
theorem dX2_enqueue_55 : decode cX2_enqueue 55 = .ok (.iadd, 1) := by decide +kernel
theorem dX2_enqueue_56 : decode cX2_enqueue 56 = .ok (.putfield 37, 3) := by decide +kernel
theorem dX2_enqueue_59 : decode cX2_enqueue 59 = .ok (.return_, 1) := by decide +kernel
theorem dX2_moveUp_0 : decode cX2_moveUp 0 = .ok (.iload_n 1, 1) := by decide +kernel
theorem dX2_moveUp_1 : decode cX2_moveUp 1 = .ok (.istore_n 3, 1) := by decide +kernel
theorem dX2_moveUp_2 : decode cX2_moveUp 2 = .ok (.iload_n 2, 1) := by decide +kernel
theorem dX2_moveUp_3 : decode cX2_moveUp 3 = .ok (.istore 4, 2) := by decide +kernel
theorem dX2_moveUp_5 : decode cX2_moveUp 5 = .ok (.iconst 0, 1) := by decide +kernel
theorem dX2_moveUp_6 : decode cX2_moveUp 6 = .ok (.istore 5, 2) := by decide +kernel
theorem dX2_moveUp_8 : decode cX2_moveUp 8 = .ok (.iload 5, 2) := by decide +kernel
theorem dX2_moveUp_10 : decode cX2_moveUp 10 = .ok (.bipush 20, 2) := by decide +kernel
theorem dX2_moveUp_12 : decode cX2_moveUp 12 = .ok (.if_icmp .ge 39, 3) := by decide +kernel
theorem dX2_moveUp_15 : decode cX2_moveUp 15 = .ok (.iload_n 3, 1) := by decide +kernel
theorem dX2_moveUp_16 : decode cX2_moveUp 16 = .ok (.ifCond .lt 35, 3) := by decide +kernel
theorem dX2_moveUp_19 : decode cX2_moveUp 19 = .ok (.aload_n 0, 1) := by decide +kernel
theorem dX2_moveUp_20 : decode cX2_moveUp 20 = .ok (.getfield 25, 3) := by decide +kernel
theorem dX2_moveUp_23 : decode cX2_moveUp 23 = .ok (.iload_n 3, 1) := by decide +kernel
theorem dX2_moveUp_24 : decode cX2_moveUp 24 = .ok (.iaload, 1) := by decide +kernel
theorem dX2_moveUp_25 : decode cX2_moveUp 25 = .ok (.istore 6, 2) := by decide +kernel
theorem dX2_moveUp_27 : decode cX2_moveUp 27 = .ok (.aload_n 0, 1) := by decide +kernel
theorem dX2_moveUp_28 : decode cX2_moveUp 28 = .ok (.iload_n 3, 1) := by decide +kernel
theorem dX2_moveUp_29 : decode cX2_moveUp 29 = .ok (.iload 4, 2) := by decide +kernel
theorem dX2_moveUp_31 : decode cX2_moveUp 31 = .ok (.invokevirtual 103, 3) := by decide +kernel
theorem dX2_moveUp_34 : decode cX2_moveUp 34 = .ok (.iload 6, 2) := by decide +kernel
theorem dX2_moveUp_36 : decode cX2_moveUp 36 = .ok (.istore 4, 2) := by decide +kernel
theorem dX2_moveUp_38 : decode cX2_moveUp 38 = .ok (.aload_n 0, 1) := by decide +kernel
theorem dX2_moveUp_39 : decode cX2_moveUp 39 = .ok (.getfield 34, 3) := by decide +kernel
theorem dX2_moveUp_42 : decode cX2_moveUp 42 = .ok (.iload_n 3, 1) := by decide +kernel
theorem dX2_moveUp_43 : decode cX2_moveUp 43 = .ok (.iaload, 1) := by decide +kernel
theorem dX2_moveUp_44 : decode cX2_moveUp 44 = .ok (.istore_n 3, 1) := by decide +kernel
theorem dX2_moveUp_45 : decode cX2_moveUp 45 = .ok (.iinc 5 1, 3) := by decide +kernel
theorem dX2_moveUp_48 : decode cX2_moveUp 48 = .ok (.goto (-40), 3) := by decide +kernel
theorem dX2_moveUp_51 : decode cX2_moveUp 51 = .ok (.return_, 1) := by decide +kernel
theorem dX2_tickOf_0 : decode cX2_tickOf 0 = .ok (.aload_n 0, 1) := by decide +kernel
theorem dX2_tickOf_1 : decode cX2_tickOf 1 = .ok (.getfield 25, 3) := by decide +kernel
theorem dX2_tickOf_4 : decode cX2_tickOf 4 = .ok (.iload_n 1, 1) := by decide +kernel
theorem dX2_tickOf_5 : decode cX2_tickOf 5 = .ok (.iaload, 1) := by decide +kernel
theorem dX2_tickOf_6 : decode cX2_tickOf 6 = .ok (.ifCond .ge 8, 3) := by decide +kernel
theorem dX2_tickOf_9 : decode cX2_tickOf 9 = .ok (.bipush (-6), 2) := by decide +kernel
theorem dX2_tickOf_11 : decode cX2_tickOf 11 = .ok (.goto 11, 3) := by decide +kernel
theorem dX2_tickOf_14 : decode cX2_tickOf 14 = .ok (.aload_n 0, 1) := by decide +kernel
theorem dX2_tickOf_15 : decode cX2_tickOf 15 = .ok (.getfield 25, 3) := by decide +kernel
theorem dX2_tickOf_18 : decode cX2_tickOf 18 = .ok (.iload_n 1, 1) := by decide +kernel
theorem dX2_tickOf_19 : decode cX2_tickOf 19 = .ok (.iaload, 1) := by decide +kernel
theorem dX2_tickOf_20 : decode cX2_tickOf 20 = .ok (.iconst 4, 1) := by decide +kernel
theorem dX2_tickOf_21 : decode cX2_tickOf 21 = .ok (.idiv, 1) := by decide +kernel
theorem dX2_tickOf_22 : decode cX2_tickOf 22 = .ok (.ireturn, 1) := by decide +kernel
theorem dX2_armOf_0 : decode cX2_armOf 0 = .ok (.aload_n 0, 1) := by decide +kernel
theorem dX2_armOf_1 : decode cX2_armOf 1 = .ok (.getfield 25, 3) := by decide +kernel
theorem dX2_armOf_4 : decode cX2_armOf 4 = .ok (.iload_n 1, 1) := by decide +kernel
theorem dX2_armOf_5 : decode cX2_armOf 5 = .ok (.iaload, 1) := by decide +kernel
theorem dX2_armOf_6 : decode cX2_armOf 6 = .ok (.ifCond .ge 8, 3) := by decide +kernel
theorem dX2_armOf_9 : decode cX2_armOf 9 = .ok (.bipush (-6), 2) := by decide +kernel
theorem dX2_armOf_11 : decode cX2_armOf 11 = .ok (.goto 11, 3) := by decide +kernel
theorem dX2_armOf_14 : decode cX2_armOf 14 = .ok (.aload_n 0, 1) := by decide +kernel
theorem dX2_armOf_15 : decode cX2_armOf 15 = .ok (.getfield 25, 3) := by decide +kernel
theorem dX2_armOf_18 : decode cX2_armOf 18 = .ok (.iload_n 1, 1) := by decide +kernel
theorem dX2_armOf_19 : decode cX2_armOf 19 = .ok (.iaload, 1) := by decide +kernel
theorem dX2_armOf_20 : decode cX2_armOf 20 = .ok (.iconst 4, 1) := by decide +kernel
theorem dX2_armOf_21 : decode cX2_armOf 21 = .ok (.irem, 1) := by decide +kernel
theorem dX2_armOf_22 : decode cX2_armOf 22 = .ok (.ireturn, 1) := by decide +kernel
theorem dX2_takenAt_0 : decode cX2_takenAt 0 = .ok (.aload_n 0, 1) := by decide +kernel
theorem dX2_takenAt_1 : decode cX2_takenAt 1 = .ok (.getfield 28, 3) := by decide +kernel
theorem dX2_takenAt_4 : decode cX2_takenAt 4 = .ok (.iload_n 2, 1) := by decide +kernel
theorem dX2_takenAt_5 : decode cX2_takenAt 5 = .ok (.iconst 4, 1) := by decide +kernel
theorem dX2_takenAt_6 : decode cX2_takenAt 6 = .ok (.imul, 1) := by decide +kernel
theorem dX2_takenAt_7 : decode cX2_takenAt 7 = .ok (.iload_n 1, 1) := by decide +kernel
theorem dX2_takenAt_8 : decode cX2_takenAt 8 = .ok (.iadd, 1) := by decide +kernel
theorem dX2_takenAt_9 : decode cX2_takenAt 9 = .ok (.iaload, 1) := by decide +kernel
theorem dX2_takenAt_10 : decode cX2_takenAt 10 = .ok (.ireturn, 1) := by decide +kernel
theorem dX2_takenBy_0 : decode cX2_takenBy 0 = .ok (.iconst 0, 1) := by decide +kernel
theorem dX2_takenBy_1 : decode cX2_takenBy 1 = .ok (.istore_n 2, 1) := by decide +kernel
theorem dX2_takenBy_2 : decode cX2_takenBy 2 = .ok (.iconst 0, 1) := by decide +kernel
theorem dX2_takenBy_3 : decode cX2_takenBy 3 = .ok (.istore_n 3, 1) := by decide +kernel
theorem dX2_takenBy_4 : decode cX2_takenBy 4 = .ok (.iload_n 3, 1) := by decide +kernel
theorem dX2_takenBy_5 : decode cX2_takenBy 5 = .ok (.aload_n 0, 1) := by decide +kernel
theorem dX2_takenBy_6 : decode cX2_takenBy 6 = .ok (.getfield 9, 3) := by decide +kernel
theorem dX2_takenBy_9 : decode cX2_takenBy 9 = .ok (.if_icmp .ge 21, 3) := by decide +kernel
theorem dX2_takenBy_12 : decode cX2_takenBy 12 = .ok (.aload_n 0, 1) := by decide +kernel
theorem dX2_takenBy_13 : decode cX2_takenBy 13 = .ok (.iload_n 3, 1) := by decide +kernel
theorem dX2_takenBy_14 : decode cX2_takenBy 14 = .ok (.invokevirtual 116, 3) := by decide +kernel
theorem dX2_takenBy_17 : decode cX2_takenBy 17 = .ok (.iload_n 1, 1) := by decide +kernel
theorem dX2_takenBy_18 : decode cX2_takenBy 18 = .ok (.if_icmp .ne 6, 3) := by decide +kernel
theorem dX2_takenBy_21 : decode cX2_takenBy 21 = .ok (.iinc 2 1, 3) := by decide +kernel
theorem dX2_takenBy_24 : decode cX2_takenBy 24 = .ok (.iinc 3 1, 3) := by decide +kernel
theorem dX2_takenBy_27 : decode cX2_takenBy 27 = .ok (.goto (-23), 3) := by decide +kernel
theorem dX2_takenBy_30 : decode cX2_takenBy 30 = .ok (.iload_n 2, 1) := by decide +kernel
theorem dX2_takenBy_31 : decode cX2_takenBy 31 = .ok (.ireturn, 1) := by decide +kernel
theorem dX2_lastTick_0 : decode cX2_lastTick 0 = .ok (.bipush (-6), 2) := by decide +kernel
theorem dX2_lastTick_2 : decode cX2_lastTick 2 = .ok (.istore_n 1, 1) := by decide +kernel
theorem dX2_lastTick_3 : decode cX2_lastTick 3 = .ok (.iconst 0, 1) := by decide +kernel
theorem dX2_lastTick_4 : decode cX2_lastTick 4 = .ok (.istore_n 2, 1) := by decide +kernel
theorem dX2_lastTick_5 : decode cX2_lastTick 5 = .ok (.iload_n 2, 1) := by decide +kernel
theorem dX2_lastTick_6 : decode cX2_lastTick 6 = .ok (.aload_n 0, 1) := by decide +kernel
theorem dX2_lastTick_7 : decode cX2_lastTick 7 = .ok (.getfield 9, 3) := by decide +kernel
theorem dX2_lastTick_10 : decode cX2_lastTick 10 = .ok (.if_icmp .ge 19, 3) := by decide +kernel
theorem dX2_lastTick_13 : decode cX2_lastTick 13 = .ok (.iload_n 1, 1) := by decide +kernel
theorem dX2_lastTick_14 : decode cX2_lastTick 14 = .ok (.aload_n 0, 1) := by decide +kernel
theorem dX2_lastTick_15 : decode cX2_lastTick 15 = .ok (.iload_n 2, 1) := by decide +kernel
theorem dX2_lastTick_16 : decode cX2_lastTick 16 = .ok (.invokevirtual 119, 3) := by decide +kernel
theorem dX2_lastTick_19 : decode cX2_lastTick 19 = .ok (.invokestatic 122, 3) := by decide +kernel
theorem dX2_lastTick_22 : decode cX2_lastTick 22 = .ok (.istore_n 1, 1) := by decide +kernel
theorem dX2_lastTick_23 : decode cX2_lastTick 23 = .ok (.iinc 2 1, 3) := by decide +kernel
theorem dX2_lastTick_26 : decode cX2_lastTick 26 = .ok (.goto (-21), 3) := by decide +kernel
theorem dX2_lastTick_29 : decode cX2_lastTick 29 = .ok (.iload_n 1, 1) := by decide +kernel
theorem dX2_lastTick_30 : decode cX2_lastTick 30 = .ok (.ireturn, 1) := by decide +kernel
theorem dX2_missedSet_0 : decode cX2_missedSet 0 = .ok (.iconst 0, 1) := by decide +kernel
theorem dX2_missedSet_1 : decode cX2_missedSet 1 = .ok (.istore_n 1, 1) := by decide +kernel
theorem dX2_missedSet_2 : decode cX2_missedSet 2 = .ok (.iconst 0, 1) := by decide +kernel
theorem dX2_missedSet_3 : decode cX2_missedSet 3 = .ok (.istore_n 2, 1) := by decide +kernel
theorem dX2_missedSet_4 : decode cX2_missedSet 4 = .ok (.iload_n 2, 1) := by decide +kernel
theorem dX2_missedSet_5 : decode cX2_missedSet 5 = .ok (.aload_n 0, 1) := by decide +kernel
theorem dX2_missedSet_6 : decode cX2_missedSet 6 = .ok (.getfield 9, 3) := by decide +kernel
theorem dX2_missedSet_9 : decode cX2_missedSet 9 = .ok (.if_icmp .ge 24, 3) := by decide +kernel
theorem dX2_missedSet_12 : decode cX2_missedSet 12 = .ok (.aload_n 0, 1) := by decide +kernel
theorem dX2_missedSet_13 : decode cX2_missedSet 13 = .ok (.getfield 25, 3) := by decide +kernel
theorem dX2_missedSet_16 : decode cX2_missedSet 16 = .ok (.iload_n 2, 1) := by decide +kernel
theorem dX2_missedSet_17 : decode cX2_missedSet 17 = .ok (.iaload, 1) := by decide +kernel
theorem dX2_missedSet_18 : decode cX2_missedSet 18 = .ok (.ifCond .ge 9, 3) := by decide +kernel
theorem dX2_missedSet_21 : decode cX2_missedSet 21 = .ok (.iload_n 1, 1) := by decide +kernel
theorem dX2_missedSet_22 : decode cX2_missedSet 22 = .ok (.iconst 1, 1) := by decide +kernel
theorem dX2_missedSet_23 : decode cX2_missedSet 23 = .ok (.iload_n 2, 1) := by decide +kernel
theorem dX2_missedSet_24 : decode cX2_missedSet 24 = .ok (.ishl, 1) := by decide +kernel
theorem dX2_missedSet_25 : decode cX2_missedSet 25 = .ok (.ior, 1) := by decide +kernel
theorem dX2_missedSet_26 : decode cX2_missedSet 26 = .ok (.istore_n 1, 1) := by decide +kernel
theorem dX2_missedSet_27 : decode cX2_missedSet 27 = .ok (.iinc 2 1, 3) := by decide +kernel
theorem dX2_missedSet_30 : decode cX2_missedSet 30 = .ok (.goto (-26), 3) := by decide +kernel
theorem dX2_missedSet_33 : decode cX2_missedSet 33 = .ok (.iload_n 1, 1) := by decide +kernel
theorem dX2_missedSet_34 : decode cX2_missedSet 34 = .ok (.ireturn, 1) := by decide +kernel
theorem dX2_neededSet_0 : decode cX2_neededSet 0 = .ok (.iconst 1, 1) := by decide +kernel
theorem dX2_neededSet_1 : decode cX2_neededSet 1 = .ok (.aload_n 0, 1) := by decide +kernel
theorem dX2_neededSet_2 : decode cX2_neededSet 2 = .ok (.getfield 9, 3) := by decide +kernel
theorem dX2_neededSet_5 : decode cX2_neededSet 5 = .ok (.ishl, 1) := by decide +kernel
theorem dX2_neededSet_6 : decode cX2_neededSet 6 = .ok (.iconst 1, 1) := by decide +kernel
theorem dX2_neededSet_7 : decode cX2_neededSet 7 = .ok (.isub, 1) := by decide +kernel
theorem dX2_neededSet_8 : decode cX2_neededSet 8 = .ok (.aload_n 0, 1) := by decide +kernel
theorem dX2_neededSet_9 : decode cX2_neededSet 9 = .ok (.getfield 43, 3) := by decide +kernel
theorem dX2_neededSet_12 : decode cX2_neededSet 12 = .ok (.iconst (-1), 1) := by decide +kernel
theorem dX2_neededSet_13 : decode cX2_neededSet 13 = .ok (.ixor, 1) := by decide +kernel
theorem dX2_neededSet_14 : decode cX2_neededSet 14 = .ok (.iand, 1) := by decide +kernel
theorem dX2_neededSet_15 : decode cX2_neededSet 15 = .ok (.ireturn, 1) := by decide +kernel
theorem dX2_nextTaken_0 : decode cX2_nextTaken 0 = .ok (.iconst (-1), 1) := by decide +kernel
theorem dX2_nextTaken_1 : decode cX2_nextTaken 1 = .ok (.istore_n 2, 1) := by decide +kernel
theorem dX2_nextTaken_2 : decode cX2_nextTaken 2 = .ok (.iconst 0, 1) := by decide +kernel
theorem dX2_nextTaken_3 : decode cX2_nextTaken 3 = .ok (.istore_n 3, 1) := by decide +kernel
theorem dX2_nextTaken_4 : decode cX2_nextTaken 4 = .ok (.iload_n 3, 1) := by decide +kernel
theorem dX2_nextTaken_5 : decode cX2_nextTaken 5 = .ok (.aload_n 0, 1) := by decide +kernel
theorem dX2_nextTaken_6 : decode cX2_nextTaken 6 = .ok (.getfield 9, 3) := by decide +kernel
theorem dX2_nextTaken_9 : decode cX2_nextTaken 9 = .ok (.if_icmp .ge 41, 3) := by decide +kernel
theorem dX2_nextTaken_12 : decode cX2_nextTaken 12 = .ok (.aload_n 0, 1) := by decide +kernel
theorem dX2_nextTaken_13 : decode cX2_nextTaken 13 = .ok (.getfield 25, 3) := by decide +kernel
theorem dX2_nextTaken_16 : decode cX2_nextTaken 16 = .ok (.iload_n 3, 1) := by decide +kernel
theorem dX2_nextTaken_17 : decode cX2_nextTaken 17 = .ok (.iaload, 1) := by decide +kernel
theorem dX2_nextTaken_18 : decode cX2_nextTaken 18 = .ok (.iload_n 1, 1) := by decide +kernel
theorem dX2_nextTaken_19 : decode cX2_nextTaken 19 = .ok (.if_icmp .le 25, 3) := by decide +kernel
theorem dX2_nextTaken_22 : decode cX2_nextTaken 22 = .ok (.iload_n 2, 1) := by decide +kernel
theorem dX2_nextTaken_23 : decode cX2_nextTaken 23 = .ok (.iconst (-1), 1) := by decide +kernel
theorem dX2_nextTaken_24 : decode cX2_nextTaken 24 = .ok (.if_icmp .eq 18, 3) := by decide +kernel
theorem dX2_nextTaken_27 : decode cX2_nextTaken 27 = .ok (.aload_n 0, 1) := by decide +kernel
theorem dX2_nextTaken_28 : decode cX2_nextTaken 28 = .ok (.getfield 25, 3) := by decide +kernel
theorem dX2_nextTaken_31 : decode cX2_nextTaken 31 = .ok (.iload_n 3, 1) := by decide +kernel
theorem dX2_nextTaken_32 : decode cX2_nextTaken 32 = .ok (.iaload, 1) := by decide +kernel
theorem dX2_nextTaken_33 : decode cX2_nextTaken 33 = .ok (.aload_n 0, 1) := by decide +kernel
theorem dX2_nextTaken_34 : decode cX2_nextTaken 34 = .ok (.getfield 25, 3) := by decide +kernel
theorem dX2_nextTaken_37 : decode cX2_nextTaken 37 = .ok (.iload_n 2, 1) := by decide +kernel
theorem dX2_nextTaken_38 : decode cX2_nextTaken 38 = .ok (.iaload, 1) := by decide +kernel
theorem dX2_nextTaken_39 : decode cX2_nextTaken 39 = .ok (.if_icmp .ge 5, 3) := by decide +kernel
theorem dX2_nextTaken_42 : decode cX2_nextTaken 42 = .ok (.iload_n 3, 1) := by decide +kernel
theorem dX2_nextTaken_43 : decode cX2_nextTaken 43 = .ok (.istore_n 2, 1) := by decide +kernel
theorem dX2_nextTaken_44 : decode cX2_nextTaken 44 = .ok (.iinc 3 1, 3) := by decide +kernel
theorem dX2_nextTaken_47 : decode cX2_nextTaken 47 = .ok (.goto (-43), 3) := by decide +kernel
theorem dX2_nextTaken_50 : decode cX2_nextTaken 50 = .ok (.iload_n 2, 1) := by decide +kernel
theorem dX2_nextTaken_51 : decode cX2_nextTaken 51 = .ok (.ireturn, 1) := by decide +kernel
theorem dX3_init_0 : decode cX3_init 0 = .ok (.aload_n 0, 1) := by decide +kernel
theorem dX3_init_1 : decode cX3_init 1 = .ok (.invokespecial 3, 3) := by decide +kernel
theorem dX3_init_4 : decode cX3_init 4 = .ok (.aload_n 0, 1) := by decide +kernel
theorem dX3_init_5 : decode cX3_init 5 = .ok (.new 9, 3) := by decide +kernel
theorem dX3_init_8 : decode cX3_init 8 = .ok (.dup, 1) := by decide +kernel
theorem dX3_init_9 : decode cX3_init 9 = .ok (.invokespecial 11, 3) := by decide +kernel
theorem dX3_init_12 : decode cX3_init 12 = .ok (.putfield 12, 3) := by decide +kernel
theorem dX3_init_15 : decode cX3_init 15 = .ok (.aload_n 0, 1) := by decide +kernel
theorem dX3_init_16 : decode cX3_init 16 = .ok (.new 18, 3) := by decide +kernel
theorem dX3_init_19 : decode cX3_init 19 = .ok (.dup, 1) := by decide +kernel
theorem dX3_init_20 : decode cX3_init 20 = .ok (.invokespecial 20, 3) := by decide +kernel
theorem dX3_init_23 : decode cX3_init 23 = .ok (.putfield 21, 3) := by decide +kernel
theorem dX3_init_26 : decode cX3_init 26 = .ok (.aload_n 0, 1) := by decide +kernel
theorem dX3_init_27 : decode cX3_init 27 = .ok (.new 25, 3) := by decide +kernel
theorem dX3_init_30 : decode cX3_init 30 = .ok (.dup, 1) := by decide +kernel
theorem dX3_init_31 : decode cX3_init 31 = .ok (.invokespecial 27, 3) := by decide +kernel
theorem dX3_init_34 : decode cX3_init 34 = .ok (.putfield 28, 3) := by decide +kernel
theorem dX3_init_37 : decode cX3_init 37 = .ok (.aload_n 0, 1) := by decide +kernel
theorem dX3_init_38 : decode cX3_init 38 = .ok (.iconst 3, 1) := by decide +kernel
theorem dX3_init_39 : decode cX3_init 39 = .ok (.putfield 32, 3) := by decide +kernel
theorem dX3_init_42 : decode cX3_init 42 = .ok (.aload_n 0, 1) := by decide +kernel
theorem dX3_init_43 : decode cX3_init 43 = .ok (.iconst 2, 1) := by decide +kernel
theorem dX3_init_44 : decode cX3_init 44 = .ok (.putfield 36, 3) := by decide +kernel
theorem dX3_init_47 : decode cX3_init 47 = .ok (.return_, 1) := by decide +kernel
theorem dX3_copyFrom_0 : decode cX3_copyFrom 0 = .ok (.aload_n 0, 1) := by decide +kernel
theorem dX3_copyFrom_1 : decode cX3_copyFrom 1 = .ok (.getfield 12, 3) := by decide +kernel
theorem dX3_copyFrom_4 : decode cX3_copyFrom 4 = .ok (.aload_n 1, 1) := by decide +kernel
theorem dX3_copyFrom_5 : decode cX3_copyFrom 5 = .ok (.getfield 12, 3) := by decide +kernel
theorem dX3_copyFrom_8 : decode cX3_copyFrom 8 = .ok (.invokevirtual 39, 3) := by decide +kernel
theorem dX3_copyFrom_11 : decode cX3_copyFrom 11 = .ok (.aload_n 0, 1) := by decide +kernel
theorem dX3_copyFrom_12 : decode cX3_copyFrom 12 = .ok (.getfield 21, 3) := by decide +kernel
theorem dX3_copyFrom_15 : decode cX3_copyFrom 15 = .ok (.aload_n 1, 1) := by decide +kernel
theorem dX3_copyFrom_16 : decode cX3_copyFrom 16 = .ok (.getfield 21, 3) := by decide +kernel
theorem dX3_copyFrom_19 : decode cX3_copyFrom 19 = .ok (.invokevirtual 43, 3) := by decide +kernel
theorem dX3_copyFrom_22 : decode cX3_copyFrom 22 = .ok (.aload_n 0, 1) := by decide +kernel
theorem dX3_copyFrom_23 : decode cX3_copyFrom 23 = .ok (.getfield 28, 3) := by decide +kernel
theorem dX3_copyFrom_26 : decode cX3_copyFrom 26 = .ok (.aload_n 1, 1) := by decide +kernel
theorem dX3_copyFrom_27 : decode cX3_copyFrom 27 = .ok (.getfield 28, 3) := by decide +kernel
theorem dX3_copyFrom_30 : decode cX3_copyFrom 30 = .ok (.invokevirtual 46, 3) := by decide +kernel
theorem dX3_copyFrom_33 : decode cX3_copyFrom 33 = .ok (.aload_n 0, 1) := by decide +kernel
theorem dX3_copyFrom_34 : decode cX3_copyFrom 34 = .ok (.aload_n 1, 1) := by decide +kernel
theorem dX3_copyFrom_35 : decode cX3_copyFrom 35 = .ok (.getfield 32, 3) := by decide +kernel
theorem dX3_copyFrom_38 : decode cX3_copyFrom 38 = .ok (.putfield 32, 3) := by decide +kernel
theorem dX3_copyFrom_41 : decode cX3_copyFrom 41 = .ok (.aload_n 0, 1) := by decide +kernel
theorem dX3_copyFrom_42 : decode cX3_copyFrom 42 = .ok (.aload_n 1, 1) := by decide +kernel
theorem dX3_copyFrom_43 : decode cX3_copyFrom 43 = .ok (.getfield 36, 3) := by decide +kernel
theorem dX3_copyFrom_46 : decode cX3_copyFrom 46 = .ok (.putfield 36, 3) := by decide +kernel
theorem dX3_copyFrom_49 : decode cX3_copyFrom 49 = .ok (.return_, 1) := by decide +kernel
theorem dX3_placeAt_0 : decode cX3_placeAt 0 = .ok (.aload_n 0, 1) := by decide +kernel
theorem dX3_placeAt_1 : decode cX3_placeAt 1 = .ok (.getfield 21, 3) := by decide +kernel
theorem dX3_placeAt_4 : decode cX3_placeAt 4 = .ok (.getfield 49, 3) := by decide +kernel
theorem dX3_placeAt_7 : decode cX3_placeAt 7 = .ok (.iload_n 1, 1) := by decide +kernel
theorem dX3_placeAt_8 : decode cX3_placeAt 8 = .ok (.iaload, 1) := by decide +kernel
theorem dX3_placeAt_9 : decode cX3_placeAt 9 = .ok (.aload_n 0, 1) := by decide +kernel
theorem dX3_placeAt_10 : decode cX3_placeAt 10 = .ok (.getfield 12, 3) := by decide +kernel
theorem dX3_placeAt_13 : decode cX3_placeAt 13 = .ok (.getfield 53, 3) := by decide +kernel
theorem dX3_placeAt_16 : decode cX3_placeAt 16 = .ok (.iload_n 2, 1) := by decide +kernel
theorem dX3_placeAt_17 : decode cX3_placeAt 17 = .ok (.iaload, 1) := by decide +kernel
theorem dX3_placeAt_18 : decode cX3_placeAt 18 = .ok (.iadd, 1) := by decide +kernel
theorem dX3_placeAt_19 : decode cX3_placeAt 19 = .ok (.aload_n 0, 1) := by decide +kernel
theorem dX3_placeAt_20 : decode cX3_placeAt 20 = .ok (.getfield 12, 3) := by decide +kernel
theorem dX3_placeAt_23 : decode cX3_placeAt 23 = .ok (.getfield 53, 3) := by decide +kernel
theorem dX3_placeAt_26 : decode cX3_placeAt 26 = .ok (.aload_n 0, 1) := by decide +kernel
theorem dX3_placeAt_27 : decode cX3_placeAt 27 = .ok (.getfield 21, 3) := by decide +kernel
theorem dX3_placeAt_30 : decode cX3_placeAt 30 = .ok (.getfield 56, 3) := by decide +kernel
theorem dX3_placeAt_33 : decode cX3_placeAt 33 = .ok (.iload_n 1, 1) := by decide +kernel
theorem dX3_placeAt_34 : decode cX3_placeAt 34 = .ok (.iaload, 1) := by decide +kernel
theorem dX3_placeAt_35 : decode cX3_placeAt 35 = .ok (.iaload, 1) := by decide +kernel
theorem dX3_placeAt_36 : decode cX3_placeAt 36 = .ok (.isub, 1) := by decide +kernel
theorem dX3_placeAt_37 : decode cX3_placeAt 37 = .ok (.ireturn, 1) := by decide +kernel
theorem dX3_nearest_0 : decode cX3_nearest 0 = .ok (.iconst (-1), 1) := by decide +kernel
theorem dX3_nearest_1 : decode cX3_nearest 1 = .ok (.istore 5, 2) := by decide +kernel
theorem dX3_nearest_3 : decode cX3_nearest 3 = .ok (.aload_n 0, 1) := by decide +kernel
theorem dX3_nearest_4 : decode cX3_nearest 4 = .ok (.getfield 32, 3) := by decide +kernel
theorem dX3_nearest_7 : decode cX3_nearest 7 = .ok (.iconst 1, 1) := by decide +kernel
theorem dX3_nearest_8 : decode cX3_nearest 8 = .ok (.iadd, 1) := by decide +kernel
theorem dX3_nearest_9 : decode cX3_nearest 9 = .ok (.istore 6, 2) := by decide +kernel
theorem dX3_nearest_11 : decode cX3_nearest 11 = .ok (.iconst 0, 1) := by decide +kernel
theorem dX3_nearest_12 : decode cX3_nearest 12 = .ok (.istore 7, 2) := by decide +kernel
theorem dX3_nearest_14 : decode cX3_nearest 14 = .ok (.iload 7, 2) := by decide +kernel
theorem dX3_nearest_16 : decode cX3_nearest 16 = .ok (.aload_n 0, 1) := by decide +kernel
theorem dX3_nearest_17 : decode cX3_nearest 17 = .ok (.getfield 21, 3) := by decide +kernel
theorem dX3_nearest_20 : decode cX3_nearest 20 = .ok (.getfield 59, 3) := by decide +kernel
theorem dX3_nearest_23 : decode cX3_nearest 23 = .ok (.if_icmp .ge 83, 3) := by decide +kernel
theorem dX3_nearest_26 : decode cX3_nearest 26 = .ok (.aload_n 0, 1) := by decide +kernel
theorem dX3_nearest_27 : decode cX3_nearest 27 = .ok (.getfield 21, 3) := by decide +kernel
theorem dX3_nearest_30 : decode cX3_nearest 30 = .ok (.getfield 62, 3) := by decide +kernel
theorem dX3_nearest_33 : decode cX3_nearest 33 = .ok (.iload 7, 2) := by decide +kernel
theorem dX3_nearest_35 : decode cX3_nearest 35 = .ok (.iaload, 1) := by decide +kernel
theorem dX3_nearest_36 : decode cX3_nearest 36 = .ok (.iload_n 2, 1) := by decide +kernel
theorem dX3_nearest_37 : decode cX3_nearest 37 = .ok (.if_icmp .ne 63, 3) := by decide +kernel
theorem dX3_nearest_40 : decode cX3_nearest 40 = .ok (.aload_n 0, 1) := by decide +kernel
theorem dX3_nearest_41 : decode cX3_nearest 41 = .ok (.getfield 21, 3) := by decide +kernel
theorem dX3_nearest_44 : decode cX3_nearest 44 = .ok (.getfield 65, 3) := by decide +kernel
theorem dX3_nearest_47 : decode cX3_nearest 47 = .ok (.iload 7, 2) := by decide +kernel
theorem dX3_nearest_49 : decode cX3_nearest 49 = .ok (.iaload, 1) := by decide +kernel
theorem dX3_nearest_50 : decode cX3_nearest 50 = .ok (.iload 4, 2) := by decide +kernel
theorem dX3_nearest_52 : decode cX3_nearest 52 = .ok (.if_icmp .ne 48, 3) := by decide +kernel
theorem dX3_nearest_55 : decode cX3_nearest 55 = .ok (.aload_n 0, 1) := by decide +kernel
theorem dX3_nearest_56 : decode cX3_nearest 56 = .ok (.getfield 21, 3) := by decide +kernel
theorem dX3_nearest_59 : decode cX3_nearest 59 = .ok (.iload 7, 2) := by decide +kernel
theorem dX3_nearest_61 : decode cX3_nearest 61 = .ok (.iload_n 1, 1) := by decide +kernel
theorem dX3_nearest_62 : decode cX3_nearest 62 = .ok (.invokevirtual 68, 3) := by decide +kernel
theorem dX3_nearest_65 : decode cX3_nearest 65 = .ok (.ifCond .eq 6, 3) := by decide +kernel
theorem dX3_nearest_68 : decode cX3_nearest 68 = .ok (.goto 32, 3) := by decide +kernel
theorem dX3_nearest_71 : decode cX3_nearest 71 = .ok (.aload_n 0, 1) := by decide +kernel
theorem dX3_nearest_72 : decode cX3_nearest 72 = .ok (.iload 7, 2) := by decide +kernel
theorem dX3_nearest_74 : decode cX3_nearest 74 = .ok (.iload_n 1, 1) := by decide +kernel
theorem dX3_nearest_75 : decode cX3_nearest 75 = .ok (.invokevirtual 72, 3) := by decide +kernel
theorem dX3_nearest_78 : decode cX3_nearest 78 = .ok (.iload_n 3, 1) := by decide +kernel
theorem dX3_nearest_79 : decode cX3_nearest 79 = .ok (.isub, 1) := by decide +kernel
theorem dX3_nearest_80 : decode cX3_nearest 80 = .ok (.invokestatic 76, 3) := by decide +kernel
theorem dX3_nearest_83 : decode cX3_nearest 83 = .ok (.istore 8, 2) := by decide +kernel
theorem dX3_nearest_85 : decode cX3_nearest 85 = .ok (.iload 8, 2) := by decide +kernel
theorem dX3_nearest_87 : decode cX3_nearest 87 = .ok (.iload 6, 2) := by decide +kernel
theorem dX3_nearest_89 : decode cX3_nearest 89 = .ok (.if_icmp .ge 11, 3) := by decide +kernel
theorem dX3_nearest_92 : decode cX3_nearest 92 = .ok (.iload 7, 2) := by decide +kernel
theorem dX3_nearest_94 : decode cX3_nearest 94 = .ok (.istore 5, 2) := by decide +kernel
theorem dX3_nearest_96 : decode cX3_nearest 96 = .ok (.iload 8, 2) := by decide +kernel
theorem dX3_nearest_98 : decode cX3_nearest 98 = .ok (.istore 6, 2) := by decide +kernel
theorem dX3_nearest_100 : decode cX3_nearest 100 = .ok (.iinc 7 1, 3) := by decide +kernel
theorem dX3_nearest_103 : decode cX3_nearest 103 = .ok (.goto (-89), 3) := by decide +kernel
theorem dX3_nearest_106 : decode cX3_nearest 106 = .ok (.iload 5, 2) := by decide +kernel
theorem dX3_nearest_108 : decode cX3_nearest 108 = .ok (.ireturn, 1) := by decide +kernel
theorem dX3_canTake_0 : decode cX3_canTake 0 = .ok (.aload_n 0, 1) := by decide +kernel
theorem dX3_canTake_1 : decode cX3_canTake 1 = .ok (.getfield 28, 3) := by decide +kernel
theorem dX3_canTake_4 : decode cX3_canTake 4 = .ok (.iload_n 1, 1) := by decide +kernel
theorem dX3_canTake_5 : decode cX3_canTake 5 = .ok (.iload_n 3, 1) := by decide +kernel
theorem dX3_canTake_6 : decode cX3_canTake 6 = .ok (.invokevirtual 82, 3) := by decide +kernel
theorem dX3_canTake_9 : decode cX3_canTake 9 = .ok (.ifCond .eq 57, 3) := by decide +kernel
theorem dX3_canTake_12 : decode cX3_canTake 12 = .ok (.iload_n 3, 1) := by decide +kernel
theorem dX3_canTake_13 : decode cX3_canTake 13 = .ok (.aload_n 0, 1) := by decide +kernel
theorem dX3_canTake_14 : decode cX3_canTake 14 = .ok (.getfield 21, 3) := by decide +kernel
theorem dX3_canTake_17 : decode cX3_canTake 17 = .ok (.getfield 56, 3) := by decide +kernel
theorem dX3_canTake_20 : decode cX3_canTake 20 = .ok (.iload_n 2, 1) := by decide +kernel
theorem dX3_canTake_21 : decode cX3_canTake 21 = .ok (.iaload, 1) := by decide +kernel
theorem dX3_canTake_22 : decode cX3_canTake 22 = .ok (.if_icmp .le 44, 3) := by decide +kernel
theorem dX3_canTake_25 : decode cX3_canTake 25 = .ok (.aload_n 0, 1) := by decide +kernel
theorem dX3_canTake_26 : decode cX3_canTake 26 = .ok (.getfield 28, 3) := by decide +kernel
theorem dX3_canTake_29 : decode cX3_canTake 29 = .ok (.iload_n 1, 1) := by decide +kernel
theorem dX3_canTake_30 : decode cX3_canTake 30 = .ok (.aload_n 0, 1) := by decide +kernel
theorem dX3_canTake_31 : decode cX3_canTake 31 = .ok (.getfield 21, 3) := by decide +kernel
theorem dX3_canTake_34 : decode cX3_canTake 34 = .ok (.getfield 62, 3) := by decide +kernel
theorem dX3_canTake_37 : decode cX3_canTake 37 = .ok (.iload_n 2, 1) := by decide +kernel
theorem dX3_canTake_38 : decode cX3_canTake 38 = .ok (.iaload, 1) := by decide +kernel
theorem dX3_canTake_39 : decode cX3_canTake 39 = .ok (.invokevirtual 85, 3) := by decide +kernel
theorem dX3_canTake_42 : decode cX3_canTake 42 = .ok (.ifCond .eq 24, 3) := by decide +kernel
theorem dX3_canTake_45 : decode cX3_canTake 45 = .ok (.aload_n 0, 1) := by decide +kernel
theorem dX3_canTake_46 : decode cX3_canTake 46 = .ok (.getfield 28, 3) := by decide +kernel
theorem dX3_canTake_49 : decode cX3_canTake 49 = .ok (.iload_n 1, 1) := by decide +kernel
theorem dX3_canTake_50 : decode cX3_canTake 50 = .ok (.aload_n 0, 1) := by decide +kernel
theorem dX3_canTake_51 : decode cX3_canTake 51 = .ok (.iload_n 2, 1) := by decide +kernel
theorem dX3_canTake_52 : decode cX3_canTake 52 = .ok (.iload_n 3, 1) := by decide +kernel
theorem dX3_canTake_53 : decode cX3_canTake 53 = .ok (.invokevirtual 72, 3) := by decide +kernel
theorem dX3_canTake_56 : decode cX3_canTake 56 = .ok (.invokevirtual 88, 3) := by decide +kernel
theorem dX3_canTake_59 : decode cX3_canTake 59 = .ok (.ifCond .eq 7, 3) := by decide +kernel
theorem dX3_canTake_62 : decode cX3_canTake 62 = .ok (.iconst 1, 1) := by decide +kernel
theorem dX3_canTake_63 : decode cX3_canTake 63 = .ok (.goto 4, 3) := by decide +kernel
theorem dX3_canTake_66 : decode cX3_canTake 66 = .ok (.iconst 0, 1) := by decide +kernel
theorem dX3_canTake_67 : decode cX3_canTake 67 = .ok (.ireturn, 1) := by decide +kernel
theorem dX3_firstChanceOf_0 : decode cX3_firstChanceOf 0 = .ok (.aload_n 0, 1) := by decide +kernel
theorem dX3_firstChanceOf_1 : decode cX3_firstChanceOf 1 = .ok (.getfield 12, 3) := by decide +kernel
theorem dX3_firstChanceOf_4 : decode cX3_firstChanceOf 4 = .ok (.aload_n 0, 1) := by decide +kernel
theorem dX3_firstChanceOf_5 : decode cX3_firstChanceOf 5 = .ok (.getfield 28, 3) := by decide +kernel
theorem dX3_firstChanceOf_8 : decode cX3_firstChanceOf 8 = .ok (.getfield 91, 3) := by decide +kernel
theorem dX3_firstChanceOf_11 : decode cX3_firstChanceOf 11 = .ok (.iload_n 1, 1) := by decide +kernel
theorem dX3_firstChanceOf_12 : decode cX3_firstChanceOf 12 = .ok (.iaload, 1) := by decide +kernel
theorem dX3_firstChanceOf_13 : decode cX3_firstChanceOf 13 = .ok (.aload_n 0, 1) := by decide +kernel
theorem dX3_firstChanceOf_14 : decode cX3_firstChanceOf 14 = .ok (.iload_n 2, 1) := by decide +kernel
theorem dX3_firstChanceOf_15 : decode cX3_firstChanceOf 15 = .ok (.iconst 0, 1) := by decide +kernel
theorem dX3_firstChanceOf_16 : decode cX3_firstChanceOf 16 = .ok (.invokevirtual 72, 3) := by decide +kernel
theorem dX3_firstChanceOf_19 : decode cX3_firstChanceOf 19 = .ok (.isub, 1) := by decide +kernel
theorem dX3_firstChanceOf_20 : decode cX3_firstChanceOf 20 = .ok (.invokevirtual 94, 3) := by decide +kernel
theorem dX3_firstChanceOf_23 : decode cX3_firstChanceOf 23 = .ok (.istore_n 3, 1) := by decide +kernel
theorem dX3_firstChanceOf_24 : decode cX3_firstChanceOf 24 = .ok (.aload_n 0, 1) := by decide +kernel
theorem dX3_firstChanceOf_25 : decode cX3_firstChanceOf 25 = .ok (.getfield 28, 3) := by decide +kernel
theorem dX3_firstChanceOf_28 : decode cX3_firstChanceOf 28 = .ok (.iload_n 1, 1) := by decide +kernel
theorem dX3_firstChanceOf_29 : decode cX3_firstChanceOf 29 = .ok (.iload_n 3, 1) := by decide +kernel
theorem dX3_firstChanceOf_30 : decode cX3_firstChanceOf 30 = .ok (.aload_n 0, 1) := by decide +kernel
theorem dX3_firstChanceOf_31 : decode cX3_firstChanceOf 31 = .ok (.getfield 21, 3) := by decide +kernel
theorem dX3_firstChanceOf_34 : decode cX3_firstChanceOf 34 = .ok (.getfield 56, 3) := by decide +kernel
theorem dX3_firstChanceOf_37 : decode cX3_firstChanceOf 37 = .ok (.iload_n 2, 1) := by decide +kernel
theorem dX3_firstChanceOf_38 : decode cX3_firstChanceOf 38 = .ok (.iaload, 1) := by decide +kernel
theorem dX3_firstChanceOf_39 : decode cX3_firstChanceOf 39 = .ok (.iconst 1, 1) := by decide +kernel
theorem dX3_firstChanceOf_40 : decode cX3_firstChanceOf 40 = .ok (.iadd, 1) := by decide +kernel
theorem dX3_firstChanceOf_41 : decode cX3_firstChanceOf 41 = .ok (.invokestatic 97, 3) := by decide +kernel
theorem dX3_firstChanceOf_44 : decode cX3_firstChanceOf 44 = .ok (.invokevirtual 100, 3) := by decide +kernel
theorem dX3_firstChanceOf_47 : decode cX3_firstChanceOf 47 = .ok (.ireturn, 1) := by decide +kernel
theorem dX3_lastChanceOf_0 : decode cX3_lastChanceOf 0 = .ok (.aload_n 0, 1) := by decide +kernel
theorem dX3_lastChanceOf_1 : decode cX3_lastChanceOf 1 = .ok (.getfield 28, 3) := by decide +kernel
theorem dX3_lastChanceOf_4 : decode cX3_lastChanceOf 4 = .ok (.iload_n 1, 1) := by decide +kernel
theorem dX3_lastChanceOf_5 : decode cX3_lastChanceOf 5 = .ok (.aload_n 0, 1) := by decide +kernel
theorem dX3_lastChanceOf_6 : decode cX3_lastChanceOf 6 = .ok (.getfield 21, 3) := by decide +kernel
theorem dX3_lastChanceOf_9 : decode cX3_lastChanceOf 9 = .ok (.getfield 62, 3) := by decide +kernel
theorem dX3_lastChanceOf_12 : decode cX3_lastChanceOf 12 = .ok (.iload_n 2, 1) := by decide +kernel
theorem dX3_lastChanceOf_13 : decode cX3_lastChanceOf 13 = .ok (.iaload, 1) := by decide +kernel
theorem dX3_lastChanceOf_14 : decode cX3_lastChanceOf 14 = .ok (.invokevirtual 85, 3) := by decide +kernel
theorem dX3_lastChanceOf_17 : decode cX3_lastChanceOf 17 = .ok (.ifCond .ne 5, 3) := by decide +kernel
theorem dX3_lastChanceOf_20 : decode cX3_lastChanceOf 20 = .ok (.iconst (-1), 1) := by decide +kernel
theorem dX3_lastChanceOf_21 : decode cX3_lastChanceOf 21 = .ok (.ireturn, 1) := by decide +kernel
theorem dX3_lastChanceOf_22 : decode cX3_lastChanceOf 22 = .ok (.aload_n 0, 1) := by decide +kernel
theorem dX3_lastChanceOf_23 : decode cX3_lastChanceOf 23 = .ok (.getfield 12, 3) := by decide +kernel
theorem dX3_lastChanceOf_26 : decode cX3_lastChanceOf 26 = .ok (.aload_n 0, 1) := by decide +kernel
theorem dX3_lastChanceOf_27 : decode cX3_lastChanceOf 27 = .ok (.getfield 28, 3) := by decide +kernel
theorem dX3_lastChanceOf_30 : decode cX3_lastChanceOf 30 = .ok (.getfield 103, 3) := by decide +kernel
theorem dX3_lastChanceOf_33 : decode cX3_lastChanceOf 33 = .ok (.iload_n 1, 1) := by decide +kernel
theorem dX3_lastChanceOf_34 : decode cX3_lastChanceOf 34 = .ok (.iaload, 1) := by decide +kernel
theorem dX3_lastChanceOf_35 : decode cX3_lastChanceOf 35 = .ok (.iconst 1, 1) := by decide +kernel
theorem dX3_lastChanceOf_36 : decode cX3_lastChanceOf 36 = .ok (.iadd, 1) := by decide +kernel
theorem dX3_lastChanceOf_37 : decode cX3_lastChanceOf 37 = .ok (.aload_n 0, 1) := by decide +kernel
theorem dX3_lastChanceOf_38 : decode cX3_lastChanceOf 38 = .ok (.iload_n 2, 1) := by decide +kernel
theorem dX3_lastChanceOf_39 : decode cX3_lastChanceOf 39 = .ok (.iconst 0, 1) := by decide +kernel
theorem dX3_lastChanceOf_40 : decode cX3_lastChanceOf 40 = .ok (.invokevirtual 72, 3) := by decide +kernel
theorem dX3_lastChanceOf_43 : decode cX3_lastChanceOf 43 = .ok (.isub, 1) := by decide +kernel
theorem dX3_lastChanceOf_44 : decode cX3_lastChanceOf 44 = .ok (.invokevirtual 94, 3) := by decide +kernel
theorem dX3_lastChanceOf_47 : decode cX3_lastChanceOf 47 = .ok (.istore_n 3, 1) := by decide +kernel
theorem dX3_lastChanceOf_48 : decode cX3_lastChanceOf 48 = .ok (.aload_n 0, 1) := by decide +kernel
theorem dX3_lastChanceOf_49 : decode cX3_lastChanceOf 49 = .ok (.getfield 28, 3) := by decide +kernel
theorem dX3_lastChanceOf_52 : decode cX3_lastChanceOf 52 = .ok (.iload_n 1, 1) := by decide +kernel
theorem dX3_lastChanceOf_53 : decode cX3_lastChanceOf 53 = .ok (.iload_n 3, 1) := by decide +kernel
theorem dX3_lastChanceOf_54 : decode cX3_lastChanceOf 54 = .ok (.iconst 1, 1) := by decide +kernel
theorem dX3_lastChanceOf_55 : decode cX3_lastChanceOf 55 = .ok (.isub, 1) := by decide +kernel
theorem dX3_lastChanceOf_56 : decode cX3_lastChanceOf 56 = .ok (.invokevirtual 106, 3) := by decide +kernel
theorem dX3_lastChanceOf_59 : decode cX3_lastChanceOf 59 = .ok (.ireturn, 1) := by decide +kernel
theorem dX3_firstChance_0 : decode cX3_firstChance 0 = .ok (.sipush 301, 3) := by decide +kernel
theorem dX3_firstChance_3 : decode cX3_firstChance 3 = .ok (.istore_n 2, 1) := by decide +kernel
theorem dX3_firstChance_4 : decode cX3_firstChance 4 = .ok (.iconst 0, 1) := by decide +kernel
theorem dX3_firstChance_5 : decode cX3_firstChance 5 = .ok (.istore_n 3, 1) := by decide +kernel
theorem dX3_firstChance_6 : decode cX3_firstChance 6 = .ok (.iload_n 3, 1) := by decide +kernel
theorem dX3_firstChance_7 : decode cX3_firstChance 7 = .ok (.iconst 4, 1) := by decide +kernel
theorem dX3_firstChance_8 : decode cX3_firstChance 8 = .ok (.if_icmp .ge 35, 3) := by decide +kernel
theorem dX3_firstChance_11 : decode cX3_firstChance 11 = .ok (.aload_n 0, 1) := by decide +kernel
theorem dX3_firstChance_12 : decode cX3_firstChance 12 = .ok (.iload_n 3, 1) := by decide +kernel
theorem dX3_firstChance_13 : decode cX3_firstChance 13 = .ok (.iload_n 1, 1) := by decide +kernel
theorem dX3_firstChance_14 : decode cX3_firstChance 14 = .ok (.invokevirtual 109, 3) := by decide +kernel
theorem dX3_firstChance_17 : decode cX3_firstChance 17 = .ok (.istore 4, 2) := by decide +kernel
theorem dX3_firstChance_19 : decode cX3_firstChance 19 = .ok (.iload 4, 2) := by decide +kernel
theorem dX3_firstChance_21 : decode cX3_firstChance 21 = .ok (.aload_n 0, 1) := by decide +kernel
theorem dX3_firstChance_22 : decode cX3_firstChance 22 = .ok (.iload_n 3, 1) := by decide +kernel
theorem dX3_firstChance_23 : decode cX3_firstChance 23 = .ok (.iload_n 1, 1) := by decide +kernel
theorem dX3_firstChance_24 : decode cX3_firstChance 24 = .ok (.invokevirtual 112, 3) := by decide +kernel
end
section
theorem dX3_firstChance_27 : decode cX3_firstChance 27 = .ok (.if_icmp .gt 10, 3) := by decide +kernel
theorem dX3_firstChance_30 : decode cX3_firstChance 30 = .ok (.iload_n 2, 1) := by decide +kernel
theorem dX3_firstChance_31 : decode cX3_firstChance 31 = .ok (.iload 4, 2) := by decide +kernel
theorem dX3_firstChance_33 : decode cX3_firstChance 33 = .ok (.invokestatic 115, 3) := by decide +kernel
theorem dX3_firstChance_36 : decode cX3_firstChance 36 = .ok (.istore_n 2, 1) := by decide +kernel
theorem dX3_firstChance_37 : decode cX3_firstChance 37 = .ok (.iinc 3 1, 3) := by decide +kernel
theorem dX3_firstChance_40 : decode cX3_firstChance 40 = .ok (.goto (-34), 3) := by decide +kernel
theorem dX3_firstChance_43 : decode cX3_firstChance 43 = .ok (.iload_n 2, 1) := by decide +kernel
theorem dX3_firstChance_44 : decode cX3_firstChance 44 = .ok (.sipush 301, 3) := by decide +kernel
theorem dX3_firstChance_47 : decode cX3_firstChance 47 = .ok (.if_icmp .ne 8, 3) := by decide +kernel
theorem dX3_firstChance_50 : decode cX3_firstChance 50 = .ok (.bipush (-6), 2) := by decide +kernel
theorem dX3_firstChance_52 : decode cX3_firstChance 52 = .ok (.goto 4, 3) := by decide +kernel
theorem dX3_firstChance_55 : decode cX3_firstChance 55 = .ok (.iload_n 2, 1) := by decide +kernel
theorem dX3_firstChance_56 : decode cX3_firstChance 56 = .ok (.ireturn, 1) := by decide +kernel
theorem dX3_lastChance_0 : decode cX3_lastChance 0 = .ok (.iconst (-1), 1) := by decide +kernel
theorem dX3_lastChance_1 : decode cX3_lastChance 1 = .ok (.istore_n 2, 1) := by decide +kernel
theorem dX3_lastChance_2 : decode cX3_lastChance 2 = .ok (.iconst 0, 1) := by decide +kernel
theorem dX3_lastChance_3 : decode cX3_lastChance 3 = .ok (.istore_n 3, 1) := by decide +kernel
theorem dX3_lastChance_4 : decode cX3_lastChance 4 = .ok (.iload_n 3, 1) := by decide +kernel
theorem dX3_lastChance_5 : decode cX3_lastChance 5 = .ok (.iconst 4, 1) := by decide +kernel
theorem dX3_lastChance_6 : decode cX3_lastChance 6 = .ok (.if_icmp .ge 35, 3) := by decide +kernel
theorem dX3_lastChance_9 : decode cX3_lastChance 9 = .ok (.aload_n 0, 1) := by decide +kernel
theorem dX3_lastChance_10 : decode cX3_lastChance 10 = .ok (.iload_n 3, 1) := by decide +kernel
theorem dX3_lastChance_11 : decode cX3_lastChance 11 = .ok (.iload_n 1, 1) := by decide +kernel
theorem dX3_lastChance_12 : decode cX3_lastChance 12 = .ok (.invokevirtual 112, 3) := by decide +kernel
theorem dX3_lastChance_15 : decode cX3_lastChance 15 = .ok (.istore 4, 2) := by decide +kernel
theorem dX3_lastChance_17 : decode cX3_lastChance 17 = .ok (.iload 4, 2) := by decide +kernel
theorem dX3_lastChance_19 : decode cX3_lastChance 19 = .ok (.aload_n 0, 1) := by decide +kernel
theorem dX3_lastChance_20 : decode cX3_lastChance 20 = .ok (.iload_n 3, 1) := by decide +kernel
theorem dX3_lastChance_21 : decode cX3_lastChance 21 = .ok (.iload_n 1, 1) := by decide +kernel
theorem dX3_lastChance_22 : decode cX3_lastChance 22 = .ok (.invokevirtual 109, 3) := by decide +kernel
theorem dX3_lastChance_25 : decode cX3_lastChance 25 = .ok (.if_icmp .lt 10, 3) := by decide +kernel
theorem dX3_lastChance_28 : decode cX3_lastChance 28 = .ok (.iload_n 2, 1) := by decide +kernel
theorem dX3_lastChance_29 : decode cX3_lastChance 29 = .ok (.iload 4, 2) := by decide +kernel
theorem dX3_lastChance_31 : decode cX3_lastChance 31 = .ok (.invokestatic 97, 3) := by decide +kernel
theorem dX3_lastChance_34 : decode cX3_lastChance 34 = .ok (.istore_n 2, 1) := by decide +kernel
theorem dX3_lastChance_35 : decode cX3_lastChance 35 = .ok (.iinc 3 1, 3) := by decide +kernel
theorem dX3_lastChance_38 : decode cX3_lastChance 38 = .ok (.goto (-34), 3) := by decide +kernel
theorem dX3_lastChance_41 : decode cX3_lastChance 41 = .ok (.iload_n 2, 1) := by decide +kernel
theorem dX3_lastChance_42 : decode cX3_lastChance 42 = .ok (.iconst (-1), 1) := by decide +kernel
theorem dX3_lastChance_43 : decode cX3_lastChance 43 = .ok (.if_icmp .ne 8, 3) := by decide +kernel
theorem dX3_lastChance_46 : decode cX3_lastChance 46 = .ok (.bipush (-6), 2) := by decide +kernel
theorem dX3_lastChance_48 : decode cX3_lastChance 48 = .ok (.goto 4, 3) := by decide +kernel
theorem dX3_lastChance_51 : decode cX3_lastChance 51 = .ok (.iload_n 2, 1) := by decide +kernel
theorem dX3_lastChance_52 : decode cX3_lastChance 52 = .ok (.ireturn, 1) := by decide +kernel
theorem dX3_chances_0 : decode cX3_chances 0 = .ok (.iconst 0, 1) := by decide +kernel
theorem dX3_chances_1 : decode cX3_chances 1 = .ok (.istore_n 2, 1) := by decide +kernel
theorem dX3_chances_2 : decode cX3_chances 2 = .ok (.iconst 0, 1) := by decide +kernel
theorem dX3_chances_3 : decode cX3_chances 3 = .ok (.istore_n 3, 1) := by decide +kernel
theorem dX3_chances_4 : decode cX3_chances 4 = .ok (.iload_n 3, 1) := by decide +kernel
theorem dX3_chances_5 : decode cX3_chances 5 = .ok (.iconst 4, 1) := by decide +kernel
theorem dX3_chances_6 : decode cX3_chances 6 = .ok (.if_icmp .ge 50, 3) := by decide +kernel
theorem dX3_chances_9 : decode cX3_chances 9 = .ok (.aload_n 0, 1) := by decide +kernel
theorem dX3_chances_10 : decode cX3_chances 10 = .ok (.iload_n 3, 1) := by decide +kernel
theorem dX3_chances_11 : decode cX3_chances 11 = .ok (.iload_n 1, 1) := by decide +kernel
theorem dX3_chances_12 : decode cX3_chances 12 = .ok (.invokevirtual 112, 3) := by decide +kernel
theorem dX3_chances_15 : decode cX3_chances 15 = .ok (.aload_n 0, 1) := by decide +kernel
theorem dX3_chances_16 : decode cX3_chances 16 = .ok (.iload_n 3, 1) := by decide +kernel
theorem dX3_chances_17 : decode cX3_chances 17 = .ok (.iload_n 1, 1) := by decide +kernel
theorem dX3_chances_18 : decode cX3_chances 18 = .ok (.invokevirtual 109, 3) := by decide +kernel
theorem dX3_chances_21 : decode cX3_chances 21 = .ok (.isub, 1) := by decide +kernel
theorem dX3_chances_22 : decode cX3_chances 22 = .ok (.istore 4, 2) := by decide +kernel
theorem dX3_chances_24 : decode cX3_chances 24 = .ok (.iload 4, 2) := by decide +kernel
theorem dX3_chances_26 : decode cX3_chances 26 = .ok (.ifCond .lt 24, 3) := by decide +kernel
theorem dX3_chances_29 : decode cX3_chances 29 = .ok (.iload_n 2, 1) := by decide +kernel
theorem dX3_chances_30 : decode cX3_chances 30 = .ok (.iload 4, 2) := by decide +kernel
theorem dX3_chances_32 : decode cX3_chances 32 = .ok (.iconst 1, 1) := by decide +kernel
theorem dX3_chances_33 : decode cX3_chances 33 = .ok (.aload_n 0, 1) := by decide +kernel
theorem dX3_chances_34 : decode cX3_chances 34 = .ok (.getfield 28, 3) := by decide +kernel
theorem dX3_chances_37 : decode cX3_chances 37 = .ok (.getfield 118, 3) := by decide +kernel
theorem dX3_chances_40 : decode cX3_chances 40 = .ok (.iload_n 3, 1) := by decide +kernel
theorem dX3_chances_41 : decode cX3_chances 41 = .ok (.iaload, 1) := by decide +kernel
theorem dX3_chances_42 : decode cX3_chances 42 = .ok (.invokestatic 97, 3) := by decide +kernel
theorem dX3_chances_45 : decode cX3_chances 45 = .ok (.idiv, 1) := by decide +kernel
theorem dX3_chances_46 : decode cX3_chances 46 = .ok (.iconst 1, 1) := by decide +kernel
theorem dX3_chances_47 : decode cX3_chances 47 = .ok (.iadd, 1) := by decide +kernel
theorem dX3_chances_48 : decode cX3_chances 48 = .ok (.iadd, 1) := by decide +kernel
theorem dX3_chances_49 : decode cX3_chances 49 = .ok (.istore_n 2, 1) := by decide +kernel
theorem dX3_chances_50 : decode cX3_chances 50 = .ok (.iinc 3 1, 3) := by decide +kernel
theorem dX3_chances_53 : decode cX3_chances 53 = .ok (.goto (-49), 3) := by decide +kernel
theorem dX3_chances_56 : decode cX3_chances 56 = .ok (.iload_n 2, 1) := by decide +kernel
theorem dX3_chances_57 : decode cX3_chances 57 = .ok (.ireturn, 1) := by decide +kernel
theorem dX4_init_0 : decode cX4_init 0 = .ok (.aload_n 0, 1) := by decide +kernel
theorem dX4_init_1 : decode cX4_init 1 = .ok (.invokespecial 5, 3) := by decide +kernel
theorem dX4_init_4 : decode cX4_init 4 = .ok (.aload_n 0, 1) := by decide +kernel
theorem dX4_init_5 : decode cX4_init 5 = .ok (.iconst 0, 1) := by decide +kernel
theorem dX4_init_6 : decode cX4_init 6 = .ok (.putfield 11, 3) := by decide +kernel
theorem dX4_init_9 : decode cX4_init 9 = .ok (.aload_n 0, 1) := by decide +kernel
theorem dX4_init_10 : decode cX4_init 10 = .ok (.bipush 20, 2) := by decide +kernel
theorem dX4_init_12 : decode cX4_init 12 = .ok (.newarray .int, 2) := by decide +kernel
theorem dX4_init_14 : decode cX4_init 14 = .ok (.putfield 15, 3) := by decide +kernel
theorem dX4_init_17 : decode cX4_init 17 = .ok (.aload_n 0, 1) := by decide +kernel
theorem dX4_init_18 : decode cX4_init 18 = .ok (.bipush 20, 2) := by decide +kernel
theorem dX4_init_20 : decode cX4_init 20 = .ok (.newarray .int, 2) := by decide +kernel
theorem dX4_init_22 : decode cX4_init 22 = .ok (.putfield 19, 3) := by decide +kernel
theorem dX4_init_25 : decode cX4_init 25 = .ok (.aload_n 0, 1) := by decide +kernel
theorem dX4_init_26 : decode cX4_init 26 = .ok (.bipush 20, 2) := by decide +kernel
theorem dX4_init_28 : decode cX4_init 28 = .ok (.newarray .int, 2) := by decide +kernel
theorem dX4_init_30 : decode cX4_init 30 = .ok (.putfield 22, 3) := by decide +kernel
theorem dX4_init_33 : decode cX4_init 33 = .ok (.aload_n 0, 1) := by decide +kernel
theorem dX4_init_34 : decode cX4_init 34 = .ok (.bipush 20, 2) := by decide +kernel
theorem dX4_init_36 : decode cX4_init 36 = .ok (.newarray .int, 2) := by decide +kernel
theorem dX4_init_38 : decode cX4_init 38 = .ok (.putfield 25, 3) := by decide +kernel
theorem dX4_init_41 : decode cX4_init 41 = .ok (.aload_n 0, 1) := by decide +kernel
theorem dX4_init_42 : decode cX4_init 42 = .ok (.bipush 100, 2) := by decide +kernel
theorem dX4_init_44 : decode cX4_init 44 = .ok (.newarray .long, 2) := by decide +kernel
theorem dX4_init_46 : decode cX4_init 46 = .ok (.putfield 28, 3) := by decide +kernel
theorem dX4_init_49 : decode cX4_init 49 = .ok (.return_, 1) := by decide +kernel
theorem dX4_copyFrom_0 : decode cX4_copyFrom 0 = .ok (.aload_n 0, 1) := by decide +kernel
theorem dX4_copyFrom_1 : decode cX4_copyFrom 1 = .ok (.aload_n 1, 1) := by decide +kernel
theorem dX4_copyFrom_2 : decode cX4_copyFrom 2 = .ok (.getfield 11, 3) := by decide +kernel
theorem dX4_copyFrom_5 : decode cX4_copyFrom 5 = .ok (.putfield 11, 3) := by decide +kernel
theorem dX4_copyFrom_8 : decode cX4_copyFrom 8 = .ok (.aload_n 1, 1) := by decide +kernel
theorem dX4_copyFrom_9 : decode cX4_copyFrom 9 = .ok (.getfield 15, 3) := by decide +kernel
theorem dX4_copyFrom_12 : decode cX4_copyFrom 12 = .ok (.iconst 0, 1) := by decide +kernel
theorem dX4_copyFrom_13 : decode cX4_copyFrom 13 = .ok (.aload_n 0, 1) := by decide +kernel
theorem dX4_copyFrom_14 : decode cX4_copyFrom 14 = .ok (.getfield 15, 3) := by decide +kernel
theorem dX4_copyFrom_17 : decode cX4_copyFrom 17 = .ok (.iconst 0, 1) := by decide +kernel
theorem dX4_copyFrom_18 : decode cX4_copyFrom 18 = .ok (.bipush 20, 2) := by decide +kernel
theorem dX4_copyFrom_20 : decode cX4_copyFrom 20 = .ok (.invokestatic 32, 3) := by decide +kernel
theorem dX4_copyFrom_23 : decode cX4_copyFrom 23 = .ok (.aload_n 1, 1) := by decide +kernel
theorem dX4_copyFrom_24 : decode cX4_copyFrom 24 = .ok (.getfield 19, 3) := by decide +kernel
theorem dX4_copyFrom_27 : decode cX4_copyFrom 27 = .ok (.iconst 0, 1) := by decide +kernel
theorem dX4_copyFrom_28 : decode cX4_copyFrom 28 = .ok (.aload_n 0, 1) := by decide +kernel
theorem dX4_copyFrom_29 : decode cX4_copyFrom 29 = .ok (.getfield 19, 3) := by decide +kernel
theorem dX4_copyFrom_32 : decode cX4_copyFrom 32 = .ok (.iconst 0, 1) := by decide +kernel
theorem dX4_copyFrom_33 : decode cX4_copyFrom 33 = .ok (.bipush 20, 2) := by decide +kernel
theorem dX4_copyFrom_35 : decode cX4_copyFrom 35 = .ok (.invokestatic 32, 3) := by decide +kernel
theorem dX4_copyFrom_38 : decode cX4_copyFrom 38 = .ok (.aload_n 1, 1) := by decide +kernel
theorem dX4_copyFrom_39 : decode cX4_copyFrom 39 = .ok (.getfield 22, 3) := by decide +kernel
theorem dX4_copyFrom_42 : decode cX4_copyFrom 42 = .ok (.iconst 0, 1) := by decide +kernel
theorem dX4_copyFrom_43 : decode cX4_copyFrom 43 = .ok (.aload_n 0, 1) := by decide +kernel
theorem dX4_copyFrom_44 : decode cX4_copyFrom 44 = .ok (.getfield 22, 3) := by decide +kernel
theorem dX4_copyFrom_47 : decode cX4_copyFrom 47 = .ok (.iconst 0, 1) := by decide +kernel
theorem dX4_copyFrom_48 : decode cX4_copyFrom 48 = .ok (.bipush 20, 2) := by decide +kernel
theorem dX4_copyFrom_50 : decode cX4_copyFrom 50 = .ok (.invokestatic 32, 3) := by decide +kernel
theorem dX4_copyFrom_53 : decode cX4_copyFrom 53 = .ok (.aload_n 1, 1) := by decide +kernel
theorem dX4_copyFrom_54 : decode cX4_copyFrom 54 = .ok (.getfield 25, 3) := by decide +kernel
theorem dX4_copyFrom_57 : decode cX4_copyFrom 57 = .ok (.iconst 0, 1) := by decide +kernel
theorem dX4_copyFrom_58 : decode cX4_copyFrom 58 = .ok (.aload_n 0, 1) := by decide +kernel
theorem dX4_copyFrom_59 : decode cX4_copyFrom 59 = .ok (.getfield 25, 3) := by decide +kernel
theorem dX4_copyFrom_62 : decode cX4_copyFrom 62 = .ok (.iconst 0, 1) := by decide +kernel
theorem dX4_copyFrom_63 : decode cX4_copyFrom 63 = .ok (.bipush 20, 2) := by decide +kernel
theorem dX4_copyFrom_65 : decode cX4_copyFrom 65 = .ok (.invokestatic 32, 3) := by decide +kernel
theorem dX4_copyFrom_68 : decode cX4_copyFrom 68 = .ok (.aload_n 1, 1) := by decide +kernel
theorem dX4_copyFrom_69 : decode cX4_copyFrom 69 = .ok (.getfield 28, 3) := by decide +kernel
theorem dX4_copyFrom_72 : decode cX4_copyFrom 72 = .ok (.iconst 0, 1) := by decide +kernel
theorem dX4_copyFrom_73 : decode cX4_copyFrom 73 = .ok (.aload_n 0, 1) := by decide +kernel
theorem dX4_copyFrom_74 : decode cX4_copyFrom 74 = .ok (.getfield 28, 3) := by decide +kernel
theorem dX4_copyFrom_77 : decode cX4_copyFrom 77 = .ok (.iconst 0, 1) := by decide +kernel
theorem dX4_copyFrom_78 : decode cX4_copyFrom 78 = .ok (.bipush 100, 2) := by decide +kernel
theorem dX4_copyFrom_80 : decode cX4_copyFrom 80 = .ok (.invokestatic 32, 3) := by decide +kernel
theorem dX4_copyFrom_83 : decode cX4_copyFrom 83 = .ok (.return_, 1) := by decide +kernel
theorem dX4_append_0 : decode cX4_append 0 = .ok (.aload_n 0, 1) := by decide +kernel
theorem dX4_append_1 : decode cX4_append 1 = .ok (.getfield 11, 3) := by decide +kernel
theorem dX4_append_4 : decode cX4_append 4 = .ok (.bipush 20, 2) := by decide +kernel
theorem dX4_append_6 : decode cX4_append 6 = .ok (.if_icmp .lt 4, 3) := by decide +kernel
theorem dX4_append_9 : decode cX4_append 9 = .ok (.return_, 1) := by decide +kernel
theorem dX4_append_10 : decode cX4_append 10 = .ok (.aload_n 0, 1) := by decide +kernel
theorem dX4_append_11 : decode cX4_append 11 = .ok (.getfield 15, 3) := by decide +kernel
theorem dX4_append_14 : decode cX4_append 14 = .ok (.aload_n 0, 1) := by decide +kernel
theorem dX4_append_15 : decode cX4_append 15 = .ok (.getfield 11, 3) := by decide +kernel
theorem dX4_append_18 : decode cX4_append 18 = .ok (.iload_n 1, 1) := by decide +kernel
theorem dX4_append_19 : decode cX4_append 19 = .ok (.iastore, 1) := by decide +kernel
theorem dX4_append_20 : decode cX4_append 20 = .ok (.aload_n 0, 1) := by decide +kernel
theorem dX4_append_21 : decode cX4_append 21 = .ok (.getfield 19, 3) := by decide +kernel
theorem dX4_append_24 : decode cX4_append 24 = .ok (.aload_n 0, 1) := by decide +kernel
theorem dX4_append_25 : decode cX4_append 25 = .ok (.getfield 11, 3) := by decide +kernel
theorem dX4_append_28 : decode cX4_append 28 = .ok (.iload_n 2, 1) := by decide +kernel
theorem dX4_append_29 : decode cX4_append 29 = .ok (.iastore, 1) := by decide +kernel
theorem dX4_append_30 : decode cX4_append 30 = .ok (.aload_n 0, 1) := by decide +kernel
theorem dX4_append_31 : decode cX4_append 31 = .ok (.getfield 22, 3) := by decide +kernel
theorem dX4_append_34 : decode cX4_append 34 = .ok (.aload_n 0, 1) := by decide +kernel
theorem dX4_append_35 : decode cX4_append 35 = .ok (.getfield 11, 3) := by decide +kernel
theorem dX4_append_38 : decode cX4_append 38 = .ok (.iload_n 3, 1) := by decide +kernel
theorem dX4_append_39 : decode cX4_append 39 = .ok (.iastore, 1) := by decide +kernel
theorem dX4_append_40 : decode cX4_append 40 = .ok (.aload_n 0, 1) := by decide +kernel
theorem dX4_append_41 : decode cX4_append 41 = .ok (.getfield 25, 3) := by decide +kernel
theorem dX4_append_44 : decode cX4_append 44 = .ok (.aload_n 0, 1) := by decide +kernel
theorem dX4_append_45 : decode cX4_append 45 = .ok (.getfield 11, 3) := by decide +kernel
theorem dX4_append_48 : decode cX4_append 48 = .ok (.iload 4, 2) := by decide +kernel
theorem dX4_append_50 : decode cX4_append 50 = .ok (.iastore, 1) := by decide +kernel
theorem dX4_append_51 : decode cX4_append 51 = .ok (.aload_n 0, 1) := by decide +kernel
theorem dX4_append_52 : decode cX4_append 52 = .ok (.getfield 11, 3) := by decide +kernel
theorem dX4_append_55 : decode cX4_append 55 = .ok (.iconst 5, 1) := by decide +kernel
theorem dX4_append_56 : decode cX4_append 56 = .ok (.imul, 1) := by decide +kernel
theorem dX4_append_57 : decode cX4_append 57 = .ok (.istore 5, 2) := by decide +kernel
theorem dX4_append_59 : decode cX4_append 59 = .ok (.iload 5, 2) := by decide +kernel
theorem dX4_append_61 : decode cX4_append 61 = .ok (.aload_n 0, 1) := by decide +kernel
theorem dX4_append_62 : decode cX4_append 62 = .ok (.getfield 11, 3) := by decide +kernel
theorem dX4_append_65 : decode cX4_append 65 = .ok (.iconst 1, 1) := by decide +kernel
theorem dX4_append_66 : decode cX4_append 66 = .ok (.iadd, 1) := by decide +kernel
theorem dX4_append_67 : decode cX4_append 67 = .ok (.iconst 5, 1) := by decide +kernel
theorem dX4_append_68 : decode cX4_append 68 = .ok (.imul, 1) := by decide +kernel
theorem dX4_append_69 : decode cX4_append 69 = .ok (.if_icmp .ge 17, 3) := by decide +kernel
theorem dX4_append_72 : decode cX4_append 72 = .ok (.aload_n 0, 1) := by decide +kernel
theorem dX4_append_73 : decode cX4_append 73 = .ok (.getfield 28, 3) := by decide +kernel
theorem dX4_append_76 : decode cX4_append 76 = .ok (.iload 5, 2) := by decide +kernel
theorem dX4_append_78 : decode cX4_append 78 = .ok (.lconst 0, 1) := by decide +kernel
theorem dX4_append_79 : decode cX4_append 79 = .ok (.lastore, 1) := by decide +kernel
theorem dX4_append_80 : decode cX4_append 80 = .ok (.iinc 5 1, 3) := by decide +kernel
theorem dX4_append_83 : decode cX4_append 83 = .ok (.goto (-24), 3) := by decide +kernel
theorem dX4_append_86 : decode cX4_append 86 = .ok (.aload_n 0, 1) := by decide +kernel
theorem dX4_append_87 : decode cX4_append 87 = .ok (.aload_n 0, 1) := by decide +kernel
theorem dX4_append_88 : decode cX4_append 88 = .ok (.getfield 11, 3) := by decide +kernel
theorem dX4_append_91 : decode cX4_append 91 = .ok (.iload_n 1, 1) := by decide +kernel
theorem dX4_append_92 : decode cX4_append 92 = .ok (.invokevirtual 38, 3) := by decide +kernel
theorem dX4_append_95 : decode cX4_append 95 = .ok (.aload_n 0, 1) := by decide +kernel
theorem dX4_append_96 : decode cX4_append 96 = .ok (.dup, 1) := by decide +kernel
theorem dX4_append_97 : decode cX4_append 97 = .ok (.getfield 11, 3) := by decide +kernel
theorem dX4_append_100 : decode cX4_append 100 = .ok (.iconst 1, 1) := by decide +kernel
theorem dX4_append_101 : decode cX4_append 101 = .ok (.iadd, 1) := by decide +kernel
theorem dX4_append_102 : decode cX4_append 102 = .ok (.putfield 11, 3) := by decide +kernel
theorem dX4_append_105 : decode cX4_append 105 = .ok (.return_, 1) := by decide +kernel
theorem dX4_remove_0 : decode cX4_remove 0 = .ok (.aload_n 0, 1) := by decide +kernel
theorem dX4_remove_1 : decode cX4_remove 1 = .ok (.getfield 11, 3) := by decide +kernel
theorem dX4_remove_4 : decode cX4_remove 4 = .ok (.iload_n 1, 1) := by decide +kernel
theorem dX4_remove_5 : decode cX4_remove 5 = .ok (.isub, 1) := by decide +kernel
theorem dX4_remove_6 : decode cX4_remove 6 = .ok (.iconst 1, 1) := by decide +kernel
theorem dX4_remove_7 : decode cX4_remove 7 = .ok (.isub, 1) := by decide +kernel
theorem dX4_remove_8 : decode cX4_remove 8 = .ok (.istore_n 2, 1) := by decide +kernel
theorem dX4_remove_9 : decode cX4_remove 9 = .ok (.aload_n 0, 1) := by decide +kernel
theorem dX4_remove_10 : decode cX4_remove 10 = .ok (.getfield 15, 3) := by decide +kernel
theorem dX4_remove_13 : decode cX4_remove 13 = .ok (.iload_n 1, 1) := by decide +kernel
theorem dX4_remove_14 : decode cX4_remove 14 = .ok (.iconst 1, 1) := by decide +kernel
theorem dX4_remove_15 : decode cX4_remove 15 = .ok (.iadd, 1) := by decide +kernel
theorem dX4_remove_16 : decode cX4_remove 16 = .ok (.aload_n 0, 1) := by decide +kernel
theorem dX4_remove_17 : decode cX4_remove 17 = .ok (.getfield 15, 3) := by decide +kernel
theorem dX4_remove_20 : decode cX4_remove 20 = .ok (.iload_n 1, 1) := by decide +kernel
theorem dX4_remove_21 : decode cX4_remove 21 = .ok (.iload_n 2, 1) := by decide +kernel
theorem dX4_remove_22 : decode cX4_remove 22 = .ok (.invokestatic 32, 3) := by decide +kernel
theorem dX4_remove_25 : decode cX4_remove 25 = .ok (.aload_n 0, 1) := by decide +kernel
theorem dX4_remove_26 : decode cX4_remove 26 = .ok (.getfield 19, 3) := by decide +kernel
theorem dX4_remove_29 : decode cX4_remove 29 = .ok (.iload_n 1, 1) := by decide +kernel
theorem dX4_remove_30 : decode cX4_remove 30 = .ok (.iconst 1, 1) := by decide +kernel
theorem dX4_remove_31 : decode cX4_remove 31 = .ok (.iadd, 1) := by decide +kernel
theorem dX4_remove_32 : decode cX4_remove 32 = .ok (.aload_n 0, 1) := by decide +kernel
theorem dX4_remove_33 : decode cX4_remove 33 = .ok (.getfield 19, 3) := by decide +kernel
theorem dX4_remove_36 : decode cX4_remove 36 = .ok (.iload_n 1, 1) := by decide +kernel
theorem dX4_remove_37 : decode cX4_remove 37 = .ok (.iload_n 2, 1) := by decide +kernel
theorem dX4_remove_38 : decode cX4_remove 38 = .ok (.invokestatic 32, 3) := by decide +kernel
theorem dX4_remove_41 : decode cX4_remove 41 = .ok (.aload_n 0, 1) := by decide +kernel
theorem dX4_remove_42 : decode cX4_remove 42 = .ok (.getfield 22, 3) := by decide +kernel
theorem dX4_remove_45 : decode cX4_remove 45 = .ok (.iload_n 1, 1) := by decide +kernel
theorem dX4_remove_46 : decode cX4_remove 46 = .ok (.iconst 1, 1) := by decide +kernel
theorem dX4_remove_47 : decode cX4_remove 47 = .ok (.iadd, 1) := by decide +kernel
theorem dX4_remove_48 : decode cX4_remove 48 = .ok (.aload_n 0, 1) := by decide +kernel
theorem dX4_remove_49 : decode cX4_remove 49 = .ok (.getfield 22, 3) := by decide +kernel
theorem dX4_remove_52 : decode cX4_remove 52 = .ok (.iload_n 1, 1) := by decide +kernel
theorem dX4_remove_53 : decode cX4_remove 53 = .ok (.iload_n 2, 1) := by decide +kernel
theorem dX4_remove_54 : decode cX4_remove 54 = .ok (.invokestatic 32, 3) := by decide +kernel
theorem dX4_remove_57 : decode cX4_remove 57 = .ok (.aload_n 0, 1) := by decide +kernel
theorem dX4_remove_58 : decode cX4_remove 58 = .ok (.getfield 25, 3) := by decide +kernel
theorem dX4_remove_61 : decode cX4_remove 61 = .ok (.iload_n 1, 1) := by decide +kernel
theorem dX4_remove_62 : decode cX4_remove 62 = .ok (.iconst 1, 1) := by decide +kernel
theorem dX4_remove_63 : decode cX4_remove 63 = .ok (.iadd, 1) := by decide +kernel
theorem dX4_remove_64 : decode cX4_remove 64 = .ok (.aload_n 0, 1) := by decide +kernel
theorem dX4_remove_65 : decode cX4_remove 65 = .ok (.getfield 25, 3) := by decide +kernel
theorem dX4_remove_68 : decode cX4_remove 68 = .ok (.iload_n 1, 1) := by decide +kernel
theorem dX4_remove_69 : decode cX4_remove 69 = .ok (.iload_n 2, 1) := by decide +kernel
theorem dX4_remove_70 : decode cX4_remove 70 = .ok (.invokestatic 32, 3) := by decide +kernel
theorem dX4_remove_73 : decode cX4_remove 73 = .ok (.aload_n 0, 1) := by decide +kernel
theorem dX4_remove_74 : decode cX4_remove 74 = .ok (.getfield 28, 3) := by decide +kernel
theorem dX4_remove_77 : decode cX4_remove 77 = .ok (.iload_n 1, 1) := by decide +kernel
theorem dX4_remove_78 : decode cX4_remove 78 = .ok (.iconst 1, 1) := by decide +kernel
theorem dX4_remove_79 : decode cX4_remove 79 = .ok (.iadd, 1) := by decide +kernel
theorem dX4_remove_80 : decode cX4_remove 80 = .ok (.iconst 5, 1) := by decide +kernel
theorem dX4_remove_81 : decode cX4_remove 81 = .ok (.imul, 1) := by decide +kernel
theorem dX4_remove_82 : decode cX4_remove 82 = .ok (.aload_n 0, 1) := by decide +kernel
theorem dX4_remove_83 : decode cX4_remove 83 = .ok (.getfield 28, 3) := by decide +kernel
theorem dX4_remove_86 : decode cX4_remove 86 = .ok (.iload_n 1, 1) := by decide +kernel
theorem dX4_remove_87 : decode cX4_remove 87 = .ok (.iconst 5, 1) := by decide +kernel
theorem dX4_remove_88 : decode cX4_remove 88 = .ok (.imul, 1) := by decide +kernel
theorem dX4_remove_89 : decode cX4_remove 89 = .ok (.iload_n 2, 1) := by decide +kernel
theorem dX4_remove_90 : decode cX4_remove 90 = .ok (.iconst 5, 1) := by decide +kernel
theorem dX4_remove_91 : decode cX4_remove 91 = .ok (.imul, 1) := by decide +kernel
theorem dX4_remove_92 : decode cX4_remove 92 = .ok (.invokestatic 32, 3) := by decide +kernel
theorem dX4_remove_95 : decode cX4_remove 95 = .ok (.aload_n 0, 1) := by decide +kernel
theorem dX4_remove_96 : decode cX4_remove 96 = .ok (.dup, 1) := by decide +kernel
theorem dX4_remove_97 : decode cX4_remove 97 = .ok (.getfield 11, 3) := by decide +kernel
theorem dX4_remove_100 : decode cX4_remove 100 = .ok (.iconst 1, 1) := by decide +kernel
theorem dX4_remove_101 : decode cX4_remove 101 = .ok (.isub, 1) := by decide +kernel
theorem dX4_remove_102 : decode cX4_remove 102 = .ok (.putfield 11, 3) := by decide +kernel
theorem dX4_remove_105 : decode cX4_remove 105 = .ok (.return_, 1) := by decide +kernel
theorem dX4_markSeen_0 : decode cX4_markSeen 0 = .ok (.aload_n 0, 1) := by decide +kernel
theorem dX4_markSeen_1 : decode cX4_markSeen 1 = .ok (.getfield 28, 3) := by decide +kernel
theorem dX4_markSeen_4 : decode cX4_markSeen 4 = .ok (.iload_n 1, 1) := by decide +kernel
theorem dX4_markSeen_5 : decode cX4_markSeen 5 = .ok (.iconst 5, 1) := by decide +kernel
theorem dX4_markSeen_6 : decode cX4_markSeen 6 = .ok (.imul, 1) := by decide +kernel
theorem dX4_markSeen_7 : decode cX4_markSeen 7 = .ok (.iload_n 2, 1) := by decide +kernel
theorem dX4_markSeen_8 : decode cX4_markSeen 8 = .ok (.bipush 64, 2) := by decide +kernel
theorem dX4_markSeen_10 : decode cX4_markSeen 10 = .ok (.idiv, 1) := by decide +kernel
theorem dX4_markSeen_11 : decode cX4_markSeen 11 = .ok (.iadd, 1) := by decide +kernel
theorem dX4_markSeen_12 : decode cX4_markSeen 12 = .ok (.dup2, 1) := by decide +kernel
theorem dX4_markSeen_13 : decode cX4_markSeen 13 = .ok (.laload, 1) := by decide +kernel
theorem dX4_markSeen_14 : decode cX4_markSeen 14 = .ok (.lconst 1, 1) := by decide +kernel
theorem dX4_markSeen_15 : decode cX4_markSeen 15 = .ok (.iload_n 2, 1) := by decide +kernel
theorem dX4_markSeen_16 : decode cX4_markSeen 16 = .ok (.bipush 64, 2) := by decide +kernel
theorem dX4_markSeen_18 : decode cX4_markSeen 18 = .ok (.irem, 1) := by decide +kernel
theorem dX4_markSeen_19 : decode cX4_markSeen 19 = .ok (.lshl, 1) := by decide +kernel
theorem dX4_markSeen_20 : decode cX4_markSeen 20 = .ok (.lor, 1) := by decide +kernel
theorem dX4_markSeen_21 : decode cX4_markSeen 21 = .ok (.lastore, 1) := by decide +kernel
theorem dX4_markSeen_22 : decode cX4_markSeen 22 = .ok (.return_, 1) := by decide +kernel
theorem dX4_wasSeen_0 : decode cX4_wasSeen 0 = .ok (.aload_n 0, 1) := by decide +kernel
theorem dX4_wasSeen_1 : decode cX4_wasSeen 1 = .ok (.getfield 28, 3) := by decide +kernel
theorem dX4_wasSeen_4 : decode cX4_wasSeen 4 = .ok (.iload_n 1, 1) := by decide +kernel
theorem dX4_wasSeen_5 : decode cX4_wasSeen 5 = .ok (.iconst 5, 1) := by decide +kernel
theorem dX4_wasSeen_6 : decode cX4_wasSeen 6 = .ok (.imul, 1) := by decide +kernel
theorem dX4_wasSeen_7 : decode cX4_wasSeen 7 = .ok (.iload_n 2, 1) := by decide +kernel
theorem dX4_wasSeen_8 : decode cX4_wasSeen 8 = .ok (.bipush 64, 2) := by decide +kernel
theorem dX4_wasSeen_10 : decode cX4_wasSeen 10 = .ok (.idiv, 1) := by decide +kernel
theorem dX4_wasSeen_11 : decode cX4_wasSeen 11 = .ok (.iadd, 1) := by decide +kernel
theorem dX4_wasSeen_12 : decode cX4_wasSeen 12 = .ok (.laload, 1) := by decide +kernel
theorem dX4_wasSeen_13 : decode cX4_wasSeen 13 = .ok (.iload_n 2, 1) := by decide +kernel
theorem dX4_wasSeen_14 : decode cX4_wasSeen 14 = .ok (.bipush 64, 2) := by decide +kernel
theorem dX4_wasSeen_16 : decode cX4_wasSeen 16 = .ok (.irem, 1) := by decide +kernel
theorem dX4_wasSeen_17 : decode cX4_wasSeen 17 = .ok (.lushr, 1) := by decide +kernel
theorem dX4_wasSeen_18 : decode cX4_wasSeen 18 = .ok (.lconst 1, 1) := by decide +kernel
theorem dX4_wasSeen_19 : decode cX4_wasSeen 19 = .ok (.land, 1) := by decide +kernel
theorem dX4_wasSeen_20 : decode cX4_wasSeen 20 = .ok (.lconst 0, 1) := by decide +kernel
theorem dX4_wasSeen_21 : decode cX4_wasSeen 21 = .ok (.lcmp, 1) := by decide +kernel
theorem dX4_wasSeen_22 : decode cX4_wasSeen 22 = .ok (.ifCond .eq 7, 3) := by decide +kernel
theorem dX4_wasSeen_25 : decode cX4_wasSeen 25 = .ok (.iconst 1, 1) := by decide +kernel
theorem dX4_wasSeen_26 : decode cX4_wasSeen 26 = .ok (.goto 4, 3) := by decide +kernel
theorem dX4_wasSeen_29 : decode cX4_wasSeen 29 = .ok (.iconst 0, 1) := by decide +kernel
theorem dX4_wasSeen_30 : decode cX4_wasSeen 30 = .ok (.ireturn, 1) := by decide +kernel
theorem dX4_timesSeen_0 : decode cX4_timesSeen 0 = .ok (.iconst 0, 1) := by decide +kernel
theorem dX4_timesSeen_1 : decode cX4_timesSeen 1 = .ok (.istore_n 2, 1) := by decide +kernel
theorem dX4_timesSeen_2 : decode cX4_timesSeen 2 = .ok (.iload_n 1, 1) := by decide +kernel
theorem dX4_timesSeen_3 : decode cX4_timesSeen 3 = .ok (.iconst 5, 1) := by decide +kernel
theorem dX4_timesSeen_4 : decode cX4_timesSeen 4 = .ok (.imul, 1) := by decide +kernel
theorem dX4_timesSeen_5 : decode cX4_timesSeen 5 = .ok (.istore_n 3, 1) := by decide +kernel
theorem dX4_timesSeen_6 : decode cX4_timesSeen 6 = .ok (.iload_n 3, 1) := by decide +kernel
theorem dX4_timesSeen_7 : decode cX4_timesSeen 7 = .ok (.iload_n 1, 1) := by decide +kernel
theorem dX4_timesSeen_8 : decode cX4_timesSeen 8 = .ok (.iconst 1, 1) := by decide +kernel
theorem dX4_timesSeen_9 : decode cX4_timesSeen 9 = .ok (.iadd, 1) := by decide +kernel
theorem dX4_timesSeen_10 : decode cX4_timesSeen 10 = .ok (.iconst 5, 1) := by decide +kernel
theorem dX4_timesSeen_11 : decode cX4_timesSeen 11 = .ok (.imul, 1) := by decide +kernel
theorem dX4_timesSeen_12 : decode cX4_timesSeen 12 = .ok (.if_icmp .ge 21, 3) := by decide +kernel
theorem dX4_timesSeen_15 : decode cX4_timesSeen 15 = .ok (.iload_n 2, 1) := by decide +kernel
theorem dX4_timesSeen_16 : decode cX4_timesSeen 16 = .ok (.aload_n 0, 1) := by decide +kernel
theorem dX4_timesSeen_17 : decode cX4_timesSeen 17 = .ok (.getfield 28, 3) := by decide +kernel
theorem dX4_timesSeen_20 : decode cX4_timesSeen 20 = .ok (.iload_n 3, 1) := by decide +kernel
theorem dX4_timesSeen_21 : decode cX4_timesSeen 21 = .ok (.laload, 1) := by decide +kernel
theorem dX4_timesSeen_22 : decode cX4_timesSeen 22 = .ok (.invokestatic 42, 3) := by decide +kernel
theorem dX4_timesSeen_25 : decode cX4_timesSeen 25 = .ok (.iadd, 1) := by decide +kernel
theorem dX4_timesSeen_26 : decode cX4_timesSeen 26 = .ok (.istore_n 2, 1) := by decide +kernel
theorem dX4_timesSeen_27 : decode cX4_timesSeen 27 = .ok (.iinc 3 1, 3) := by decide +kernel
theorem dX4_timesSeen_30 : decode cX4_timesSeen 30 = .ok (.goto (-24), 3) := by decide +kernel
theorem dX4_timesSeen_33 : decode cX4_timesSeen 33 = .ok (.iload_n 2, 1) := by decide +kernel
theorem dX4_timesSeen_34 : decode cX4_timesSeen 34 = .ok (.ireturn, 1) := by decide +kernel
theorem dX4_seenOften_0 : decode cX4_seenOften 0 = .ok (.iconst 0, 1) := by decide +kernel
theorem dX4_seenOften_1 : decode cX4_seenOften 1 = .ok (.istore_n 1, 1) := by decide +kernel
theorem dX4_seenOften_2 : decode cX4_seenOften 2 = .ok (.iconst 0, 1) := by decide +kernel
theorem dX4_seenOften_3 : decode cX4_seenOften 3 = .ok (.istore_n 2, 1) := by decide +kernel
theorem dX4_seenOften_4 : decode cX4_seenOften 4 = .ok (.iload_n 2, 1) := by decide +kernel
theorem dX4_seenOften_5 : decode cX4_seenOften 5 = .ok (.aload_n 0, 1) := by decide +kernel
theorem dX4_seenOften_6 : decode cX4_seenOften 6 = .ok (.getfield 11, 3) := by decide +kernel
theorem dX4_seenOften_9 : decode cX4_seenOften 9 = .ok (.if_icmp .ge 21, 3) := by decide +kernel
theorem dX4_seenOften_12 : decode cX4_seenOften 12 = .ok (.aload_n 0, 1) := by decide +kernel
theorem dX4_seenOften_13 : decode cX4_seenOften 13 = .ok (.iload_n 2, 1) := by decide +kernel
theorem dX4_seenOften_14 : decode cX4_seenOften 14 = .ok (.invokevirtual 48, 3) := by decide +kernel
theorem dX4_seenOften_17 : decode cX4_seenOften 17 = .ok (.iconst 1, 1) := by decide +kernel
theorem dX4_seenOften_18 : decode cX4_seenOften 18 = .ok (.if_icmp .le 6, 3) := by decide +kernel
theorem dX4_seenOften_21 : decode cX4_seenOften 21 = .ok (.iinc 1 1, 3) := by decide +kernel
theorem dX4_seenOften_24 : decode cX4_seenOften 24 = .ok (.iinc 2 1, 3) := by decide +kernel
theorem dX4_seenOften_27 : decode cX4_seenOften 27 = .ok (.goto (-23), 3) := by decide +kernel
theorem dX4_seenOften_30 : decode cX4_seenOften 30 = .ok (.iload_n 1, 1) := by decide +kernel
theorem dX4_seenOften_31 : decode cX4_seenOften 31 = .ok (.ireturn, 1) := by decide +kernel
theorem dX4_ofKind_0 : decode cX4_ofKind 0 = .ok (.iconst 0, 1) := by decide +kernel
theorem dX4_ofKind_1 : decode cX4_ofKind 1 = .ok (.istore_n 2, 1) := by decide +kernel
theorem dX4_ofKind_2 : decode cX4_ofKind 2 = .ok (.iconst 0, 1) := by decide +kernel
theorem dX4_ofKind_3 : decode cX4_ofKind 3 = .ok (.istore_n 3, 1) := by decide +kernel
theorem dX4_ofKind_4 : decode cX4_ofKind 4 = .ok (.iload_n 3, 1) := by decide +kernel
theorem dX4_ofKind_5 : decode cX4_ofKind 5 = .ok (.aload_n 0, 1) := by decide +kernel
theorem dX4_ofKind_6 : decode cX4_ofKind 6 = .ok (.getfield 11, 3) := by decide +kernel
theorem dX4_ofKind_9 : decode cX4_ofKind 9 = .ok (.if_icmp .ge 22, 3) := by decide +kernel
theorem dX4_ofKind_12 : decode cX4_ofKind 12 = .ok (.aload_n 0, 1) := by decide +kernel
theorem dX4_ofKind_13 : decode cX4_ofKind 13 = .ok (.getfield 25, 3) := by decide +kernel
theorem dX4_ofKind_16 : decode cX4_ofKind 16 = .ok (.iload_n 3, 1) := by decide +kernel
theorem dX4_ofKind_17 : decode cX4_ofKind 17 = .ok (.iaload, 1) := by decide +kernel
theorem dX4_ofKind_18 : decode cX4_ofKind 18 = .ok (.iload_n 1, 1) := by decide +kernel
theorem dX4_ofKind_19 : decode cX4_ofKind 19 = .ok (.if_icmp .ne 6, 3) := by decide +kernel
theorem dX4_ofKind_22 : decode cX4_ofKind 22 = .ok (.iinc 2 1, 3) := by decide +kernel
theorem dX4_ofKind_25 : decode cX4_ofKind 25 = .ok (.iinc 3 1, 3) := by decide +kernel
theorem dX4_ofKind_28 : decode cX4_ofKind 28 = .ok (.goto (-24), 3) := by decide +kernel
theorem dX4_ofKind_31 : decode cX4_ofKind 31 = .ok (.iload_n 2, 1) := by decide +kernel
theorem dX4_ofKind_32 : decode cX4_ofKind 32 = .ok (.ireturn, 1) := by decide +kernel
theorem dX5_init_0 : decode cX5_init 0 = .ok (.aload_n 0, 1) := by decide +kernel
theorem dX5_init_1 : decode cX5_init 1 = .ok (.invokespecial 3, 3) := by decide +kernel
theorem dX5_init_4 : decode cX5_init 4 = .ok (.aload_n 0, 1) := by decide +kernel
theorem dX5_init_5 : decode cX5_init 5 = .ok (.bipush 20, 2) := by decide +kernel
theorem dX5_init_7 : decode cX5_init 7 = .ok (.newarray .int, 2) := by decide +kernel
theorem dX5_init_9 : decode cX5_init 9 = .ok (.putfield 9, 3) := by decide +kernel
theorem dX5_init_12 : decode cX5_init 12 = .ok (.aload_n 0, 1) := by decide +kernel
theorem dX5_init_13 : decode cX5_init 13 = .ok (.bipush 18, 2) := by decide +kernel
theorem dX5_init_15 : decode cX5_init 15 = .ok (.newarray .int, 2) := by decide +kernel
theorem dX5_init_17 : decode cX5_init 17 = .ok (.putfield 15, 3) := by decide +kernel
theorem dX5_init_20 : decode cX5_init 20 = .ok (.return_, 1) := by decide +kernel
theorem dX5_lay_0 : decode cX5_lay 0 = .ok (.aload_n 0, 1) := by decide +kernel
theorem dX5_lay_1 : decode cX5_lay 1 = .ok (.getfield 9, 3) := by decide +kernel
theorem dX5_lay_4 : decode cX5_lay 4 = .ok (.bipush (-6), 2) := by decide +kernel
theorem dX5_lay_6 : decode cX5_lay 6 = .ok (.invokestatic 18, 3) := by decide +kernel
theorem dX5_lay_9 : decode cX5_lay 9 = .ok (.aload_n 0, 1) := by decide +kernel
theorem dX5_lay_10 : decode cX5_lay 10 = .ok (.getfield 15, 3) := by decide +kernel
theorem dX5_lay_13 : decode cX5_lay 13 = .ok (.iconst 0, 1) := by decide +kernel
theorem dX5_lay_14 : decode cX5_lay 14 = .ok (.invokestatic 18, 3) := by decide +kernel
theorem dX5_lay_17 : decode cX5_lay 17 = .ok (.aload_n 1, 1) := by decide +kernel
theorem dX5_lay_18 : decode cX5_lay 18 = .ok (.iconst (-1), 1) := by decide +kernel
theorem dX5_lay_19 : decode cX5_lay 19 = .ok (.invokevirtual 24, 3) := by decide +kernel
theorem dX5_lay_22 : decode cX5_lay 22 = .ok (.istore_n 3, 1) := by decide +kernel
theorem dX5_lay_23 : decode cX5_lay 23 = .ok (.iconst 0, 1) := by decide +kernel
theorem dX5_lay_24 : decode cX5_lay 24 = .ok (.istore 4, 2) := by decide +kernel
theorem dX5_lay_26 : decode cX5_lay 26 = .ok (.iload 4, 2) := by decide +kernel
theorem dX5_lay_28 : decode cX5_lay 28 = .ok (.bipush 20, 2) := by decide +kernel
theorem dX5_lay_30 : decode cX5_lay 30 = .ok (.if_icmp .ge 72, 3) := by decide +kernel
theorem dX5_lay_33 : decode cX5_lay 33 = .ok (.iload_n 3, 1) := by decide +kernel
theorem dX5_lay_34 : decode cX5_lay 34 = .ok (.ifCond .lt 68, 3) := by decide +kernel
theorem dX5_lay_37 : decode cX5_lay 37 = .ok (.aload_n 2, 1) := by decide +kernel
theorem dX5_lay_38 : decode cX5_lay 38 = .ok (.getfield 30, 3) := by decide +kernel
theorem dX5_lay_41 : decode cX5_lay 41 = .ok (.getfield 36, 3) := by decide +kernel
theorem dX5_lay_44 : decode cX5_lay 44 = .ok (.iload_n 3, 1) := by decide +kernel
theorem dX5_lay_45 : decode cX5_lay 45 = .ok (.iaload, 1) := by decide +kernel
theorem dX5_lay_46 : decode cX5_lay 46 = .ok (.bipush 6, 2) := by decide +kernel
theorem dX5_lay_48 : decode cX5_lay 48 = .ok (.imul, 1) := by decide +kernel
theorem dX5_lay_49 : decode cX5_lay 49 = .ok (.istore 5, 2) := by decide +kernel
theorem dX5_lay_51 : decode cX5_lay 51 = .ok (.aload_n 0, 1) := by decide +kernel
theorem dX5_lay_52 : decode cX5_lay 52 = .ok (.iload 5, 2) := by decide +kernel
theorem dX5_lay_54 : decode cX5_lay 54 = .ok (.aload_n 2, 1) := by decide +kernel
theorem dX5_lay_55 : decode cX5_lay 55 = .ok (.getfield 41, 3) := by decide +kernel
theorem dX5_lay_58 : decode cX5_lay 58 = .ok (.invokevirtual 45, 3) := by decide +kernel
theorem dX5_lay_61 : decode cX5_lay 61 = .ok (.istore 6, 2) := by decide +kernel
theorem dX5_lay_63 : decode cX5_lay 63 = .ok (.aload_n 0, 1) := by decide +kernel
theorem dX5_lay_64 : decode cX5_lay 64 = .ok (.getfield 9, 3) := by decide +kernel
theorem dX5_lay_67 : decode cX5_lay 67 = .ok (.iload_n 3, 1) := by decide +kernel
theorem dX5_lay_68 : decode cX5_lay 68 = .ok (.iload 6, 2) := by decide +kernel
theorem dX5_lay_70 : decode cX5_lay 70 = .ok (.iastore, 1) := by decide +kernel
theorem dX5_lay_71 : decode cX5_lay 71 = .ok (.aload_n 0, 1) := by decide +kernel
theorem dX5_lay_72 : decode cX5_lay 72 = .ok (.getfield 15, 3) := by decide +kernel
theorem dX5_lay_75 : decode cX5_lay 75 = .ok (.iload 5, 2) := by decide +kernel
theorem dX5_lay_77 : decode cX5_lay 77 = .ok (.iload 6, 2) := by decide +kernel
theorem dX5_lay_79 : decode cX5_lay 79 = .ok (.iadd, 1) := by decide +kernel
theorem dX5_lay_80 : decode cX5_lay 80 = .ok (.dup2, 1) := by decide +kernel
theorem dX5_lay_81 : decode cX5_lay 81 = .ok (.iaload, 1) := by decide +kernel
theorem dX5_lay_82 : decode cX5_lay 82 = .ok (.iconst 1, 1) := by decide +kernel
theorem dX5_lay_83 : decode cX5_lay 83 = .ok (.iadd, 1) := by decide +kernel
theorem dX5_lay_84 : decode cX5_lay 84 = .ok (.iastore, 1) := by decide +kernel
theorem dX5_lay_85 : decode cX5_lay 85 = .ok (.aload_n 1, 1) := by decide +kernel
theorem dX5_lay_86 : decode cX5_lay 86 = .ok (.aload_n 1, 1) := by decide +kernel
theorem dX5_lay_87 : decode cX5_lay 87 = .ok (.getfield 49, 3) := by decide +kernel
theorem dX5_lay_90 : decode cX5_lay 90 = .ok (.iload_n 3, 1) := by decide +kernel
theorem dX5_lay_91 : decode cX5_lay 91 = .ok (.iaload, 1) := by decide +kernel
theorem dX5_lay_92 : decode cX5_lay 92 = .ok (.invokevirtual 24, 3) := by decide +kernel
theorem dX5_lay_95 : decode cX5_lay 95 = .ok (.istore_n 3, 1) := by decide +kernel
theorem dX5_lay_96 : decode cX5_lay 96 = .ok (.iinc 4 1, 3) := by decide +kernel
theorem dX5_lay_99 : decode cX5_lay 99 = .ok (.goto (-73), 3) := by decide +kernel
theorem dX5_lay_102 : decode cX5_lay 102 = .ok (.return_, 1) := by decide +kernel
theorem dX5_emptiest_0 : decode cX5_emptiest 0 = .ok (.iconst 0, 1) := by decide +kernel
theorem dX5_emptiest_1 : decode cX5_emptiest 1 = .ok (.istore_n 3, 1) := by decide +kernel
theorem dX5_emptiest_2 : decode cX5_emptiest 2 = .ok (.iconst 1, 1) := by decide +kernel
theorem dX5_emptiest_3 : decode cX5_emptiest 3 = .ok (.istore 4, 2) := by decide +kernel
theorem dX5_emptiest_5 : decode cX5_emptiest 5 = .ok (.iload 4, 2) := by decide +kernel
theorem dX5_emptiest_7 : decode cX5_emptiest 7 = .ok (.iload_n 2, 1) := by decide +kernel
theorem dX5_emptiest_8 : decode cX5_emptiest 8 = .ok (.if_icmp .ge 32, 3) := by decide +kernel
theorem dX5_emptiest_11 : decode cX5_emptiest 11 = .ok (.aload_n 0, 1) := by decide +kernel
theorem dX5_emptiest_12 : decode cX5_emptiest 12 = .ok (.getfield 15, 3) := by decide +kernel
theorem dX5_emptiest_15 : decode cX5_emptiest 15 = .ok (.iload_n 1, 1) := by decide +kernel
theorem dX5_emptiest_16 : decode cX5_emptiest 16 = .ok (.iload 4, 2) := by decide +kernel
theorem dX5_emptiest_18 : decode cX5_emptiest 18 = .ok (.iadd, 1) := by decide +kernel
theorem dX5_emptiest_19 : decode cX5_emptiest 19 = .ok (.iaload, 1) := by decide +kernel
theorem dX5_emptiest_20 : decode cX5_emptiest 20 = .ok (.aload_n 0, 1) := by decide +kernel
theorem dX5_emptiest_21 : decode cX5_emptiest 21 = .ok (.getfield 15, 3) := by decide +kernel
theorem dX5_emptiest_24 : decode cX5_emptiest 24 = .ok (.iload_n 1, 1) := by decide +kernel
theorem dX5_emptiest_25 : decode cX5_emptiest 25 = .ok (.iload_n 3, 1) := by decide +kernel
theorem dX5_emptiest_26 : decode cX5_emptiest 26 = .ok (.iadd, 1) := by decide +kernel
theorem dX5_emptiest_27 : decode cX5_emptiest 27 = .ok (.iaload, 1) := by decide +kernel
theorem dX5_emptiest_28 : decode cX5_emptiest 28 = .ok (.if_icmp .ge 6, 3) := by decide +kernel
theorem dX5_emptiest_31 : decode cX5_emptiest 31 = .ok (.iload 4, 2) := by decide +kernel
theorem dX5_emptiest_33 : decode cX5_emptiest 33 = .ok (.istore_n 3, 1) := by decide +kernel
theorem dX5_emptiest_34 : decode cX5_emptiest 34 = .ok (.iinc 4 1, 3) := by decide +kernel
theorem dX5_emptiest_37 : decode cX5_emptiest 37 = .ok (.goto (-32), 3) := by decide +kernel
theorem dX5_emptiest_40 : decode cX5_emptiest 40 = .ok (.iload_n 3, 1) := by decide +kernel
theorem dX5_emptiest_41 : decode cX5_emptiest 41 = .ok (.ireturn, 1) := by decide +kernel
theorem dX6_init_0 : decode cX6_init 0 = .ok (.aload_n 0, 1) := by decide +kernel
theorem dX6_init_1 : decode cX6_init 1 = .ok (.invokespecial 3, 3) := by decide +kernel
theorem dX6_init_4 : decode cX6_init 4 = .ok (.aload_n 0, 1) := by decide +kernel
theorem dX6_init_5 : decode cX6_init 5 = .ok (.new 9, 3) := by decide +kernel
theorem dX6_init_8 : decode cX6_init 8 = .ok (.dup, 1) := by decide +kernel
theorem dX6_init_9 : decode cX6_init 9 = .ok (.invokespecial 11, 3) := by decide +kernel
theorem dX6_init_12 : decode cX6_init 12 = .ok (.putfield 12, 3) := by decide +kernel
theorem dX6_init_15 : decode cX6_init 15 = .ok (.aload_n 0, 1) := by decide +kernel
theorem dX6_init_16 : decode cX6_init 16 = .ok (.iconst 2, 1) := by decide +kernel
theorem dX6_init_17 : decode cX6_init 17 = .ok (.anewarray 9, 3) := by decide +kernel
theorem dX6_init_20 : decode cX6_init 20 = .ok (.dup, 1) := by decide +kernel
theorem dX6_init_21 : decode cX6_init 21 = .ok (.iconst 0, 1) := by decide +kernel
theorem dX6_init_22 : decode cX6_init 22 = .ok (.new 9, 3) := by decide +kernel
theorem dX6_init_25 : decode cX6_init 25 = .ok (.dup, 1) := by decide +kernel
theorem dX6_init_26 : decode cX6_init 26 = .ok (.invokespecial 11, 3) := by decide +kernel
theorem dX6_init_29 : decode cX6_init 29 = .ok (.aastore, 1) := by decide +kernel
theorem dX6_init_30 : decode cX6_init 30 = .ok (.dup, 1) := by decide +kernel
theorem dX6_init_31 : decode cX6_init 31 = .ok (.iconst 1, 1) := by decide +kernel
theorem dX6_init_32 : decode cX6_init 32 = .ok (.new 9, 3) := by decide +kernel
theorem dX6_init_35 : decode cX6_init 35 = .ok (.dup, 1) := by decide +kernel
theorem dX6_init_36 : decode cX6_init 36 = .ok (.invokespecial 11, 3) := by decide +kernel
theorem dX6_init_39 : decode cX6_init 39 = .ok (.aastore, 1) := by decide +kernel
theorem dX6_init_40 : decode cX6_init 40 = .ok (.putfield 16, 3) := by decide +kernel
theorem dX6_init_43 : decode cX6_init 43 = .ok (.aload_n 0, 1) := by decide +kernel
theorem dX6_init_44 : decode cX6_init 44 = .ok (.iconst 0, 1) := by decide +kernel
theorem dX6_init_45 : decode cX6_init 45 = .ok (.putfield 20, 3) := by decide +kernel
theorem dX6_init_48 : decode cX6_init 48 = .ok (.aload_n 0, 1) := by decide +kernel
theorem dX6_init_49 : decode cX6_init 49 = .ok (.new 24, 3) := by decide +kernel
theorem dX6_init_52 : decode cX6_init 52 = .ok (.dup, 1) := by decide +kernel
theorem dX6_init_53 : decode cX6_init 53 = .ok (.invokespecial 26, 3) := by decide +kernel
theorem dX6_init_56 : decode cX6_init 56 = .ok (.putfield 27, 3) := by decide +kernel
theorem dX6_init_59 : decode cX6_init 59 = .ok (.aload_n 0, 1) := by decide +kernel
theorem dX6_init_60 : decode cX6_init 60 = .ok (.new 24, 3) := by decide +kernel
theorem dX6_init_63 : decode cX6_init 63 = .ok (.dup, 1) := by decide +kernel
theorem dX6_init_64 : decode cX6_init 64 = .ok (.invokespecial 26, 3) := by decide +kernel
theorem dX6_init_67 : decode cX6_init 67 = .ok (.putfield 31, 3) := by decide +kernel
theorem dX6_init_70 : decode cX6_init 70 = .ok (.aload_n 0, 1) := by decide +kernel
theorem dX6_init_71 : decode cX6_init 71 = .ok (.new 34, 3) := by decide +kernel
theorem dX6_init_74 : decode cX6_init 74 = .ok (.dup, 1) := by decide +kernel
theorem dX6_init_75 : decode cX6_init 75 = .ok (.invokespecial 36, 3) := by decide +kernel
theorem dX6_init_78 : decode cX6_init 78 = .ok (.putfield 37, 3) := by decide +kernel
theorem dX6_init_81 : decode cX6_init 81 = .ok (.aload_n 0, 1) := by decide +kernel
theorem dX6_init_82 : decode cX6_init 82 = .ok (.iconst 1, 1) := by decide +kernel
theorem dX6_init_83 : decode cX6_init 83 = .ok (.putfield 41, 3) := by decide +kernel
theorem dX6_init_86 : decode cX6_init 86 = .ok (.return_, 1) := by decide +kernel
theorem dX6_speed_0 : decode cX6_speed 0 = .ok (.iload_n 1, 1) := by decide +kernel
theorem dX6_speed_1 : decode cX6_speed 1 = .ok (.invokestatic 45, 3) := by decide +kernel
theorem dX6_speed_4 : decode cX6_speed 4 = .ok (.ifCond .eq 13, 3) := by decide +kernel
theorem dX6_speed_7 : decode cX6_speed 7 = .ok (.iload_n 2, 1) := by decide +kernel
theorem dX6_speed_8 : decode cX6_speed 8 = .ok (.iconst 0, 1) := by decide +kernel
theorem dX6_speed_9 : decode cX6_speed 9 = .ok (.bipush 9, 2) := by decide +kernel
theorem dX6_speed_11 : decode cX6_speed 11 = .ok (.invokestatic 49, 3) := by decide +kernel
theorem dX6_speed_14 : decode cX6_speed 14 = .ok (.ifCond .ne 6, 3) := by decide +kernel
theorem dX6_speed_17 : decode cX6_speed 17 = .ok (.bipush (-2), 2) := by decide +kernel
theorem dX6_speed_19 : decode cX6_speed 19 = .ok (.ireturn, 1) := by decide +kernel
theorem dX6_speed_20 : decode cX6_speed 20 = .ok (.aload_n 0, 1) := by decide +kernel
theorem dX6_speed_21 : decode cX6_speed 21 = .ok (.getfield 12, 3) := by decide +kernel
theorem dX6_speed_24 : decode cX6_speed 24 = .ok (.getfield 53, 3) := by decide +kernel
theorem dX6_speed_27 : decode cX6_speed 27 = .ok (.astore_n 3, 1) := by decide +kernel
theorem dX6_speed_28 : decode cX6_speed 28 = .ok (.iload_n 1, 1) := by decide +kernel
theorem dX6_speed_29 : decode cX6_speed 29 = .ok (.ifCond .eq 23, 3) := by decide +kernel
theorem dX6_speed_32 : decode cX6_speed 32 = .ok (.aload_n 3, 1) := by decide +kernel
theorem dX6_speed_33 : decode cX6_speed 33 = .ok (.iload_n 1, 1) := by decide +kernel
theorem dX6_speed_34 : decode cX6_speed 34 = .ok (.invokevirtual 57, 3) := by decide +kernel
theorem dX6_speed_37 : decode cX6_speed 37 = .ok (.ifCond .ge 15, 3) := by decide +kernel
theorem dX6_speed_40 : decode cX6_speed 40 = .ok (.aload_n 3, 1) := by decide +kernel
theorem dX6_speed_41 : decode cX6_speed 41 = .ok (.getfield 63, 3) := by decide +kernel
theorem dX6_speed_44 : decode cX6_speed 44 = .ok (.bipush 8, 2) := by decide +kernel
theorem dX6_speed_46 : decode cX6_speed 46 = .ok (.if_icmp .lt 6, 3) := by decide +kernel
theorem dX6_speed_49 : decode cX6_speed 49 = .ok (.bipush (-4), 2) := by decide +kernel
theorem dX6_speed_51 : decode cX6_speed 51 = .ok (.ireturn, 1) := by decide +kernel
theorem dX6_speed_52 : decode cX6_speed 52 = .ok (.aload_n 3, 1) := by decide +kernel
theorem dX6_speed_53 : decode cX6_speed 53 = .ok (.iload_n 1, 1) := by decide +kernel
theorem dX6_speed_54 : decode cX6_speed 54 = .ok (.invokevirtual 66, 3) := by decide +kernel
theorem dX6_speed_57 : decode cX6_speed 57 = .ok (.istore 4, 2) := by decide +kernel
theorem dX6_speed_59 : decode cX6_speed 59 = .ok (.aload_n 3, 1) := by decide +kernel
theorem dX6_speed_60 : decode cX6_speed 60 = .ok (.iload_n 1, 1) := by decide +kernel
theorem dX6_speed_61 : decode cX6_speed 61 = .ok (.iload_n 2, 1) := by decide +kernel
theorem dX6_speed_62 : decode cX6_speed 62 = .ok (.invokevirtual 69, 3) := by decide +kernel
theorem dX6_speed_65 : decode cX6_speed 65 = .ok (.aload_n 0, 1) := by decide +kernel
theorem dX6_speed_66 : decode cX6_speed 66 = .ok (.iconst 1, 1) := by decide +kernel
theorem dX6_speed_67 : decode cX6_speed 67 = .ok (.putfield 41, 3) := by decide +kernel
theorem dX6_speed_70 : decode cX6_speed 70 = .ok (.iload 4, 2) := by decide +kernel
theorem dX6_speed_72 : decode cX6_speed 72 = .ok (.ireturn, 1) := by decide +kernel
theorem dX6_level_0 : decode cX6_level 0 = .ok (.iload_n 1, 1) := by decide +kernel
theorem dX6_level_1 : decode cX6_level 1 = .ok (.iconst 1, 1) := by decide +kernel
theorem dX6_level_2 : decode cX6_level 2 = .ok (.sipush 300, 3) := by decide +kernel
theorem dX6_level_5 : decode cX6_level 5 = .ok (.invokestatic 49, 3) := by decide +kernel
theorem dX6_level_8 : decode cX6_level 8 = .ok (.ifCond .ne 6, 3) := by decide +kernel
theorem dX6_level_11 : decode cX6_level 11 = .ok (.bipush (-2), 2) := by decide +kernel
theorem dX6_level_13 : decode cX6_level 13 = .ok (.ireturn, 1) := by decide +kernel
theorem dX6_level_14 : decode cX6_level 14 = .ok (.aload_n 0, 1) := by decide +kernel
theorem dX6_level_15 : decode cX6_level 15 = .ok (.getfield 12, 3) := by decide +kernel
theorem dX6_level_18 : decode cX6_level 18 = .ok (.getfield 53, 3) := by decide +kernel
theorem dX6_level_21 : decode cX6_level 21 = .ok (.iload_n 1, 1) := by decide +kernel
theorem dX6_level_22 : decode cX6_level 22 = .ok (.invokevirtual 57, 3) := by decide +kernel
theorem dX6_level_25 : decode cX6_level 25 = .ok (.istore_n 2, 1) := by decide +kernel
theorem dX6_level_26 : decode cX6_level 26 = .ok (.iload_n 2, 1) := by decide +kernel
theorem dX6_level_27 : decode cX6_level 27 = .ok (.ifCond .ge 6, 3) := by decide +kernel
theorem dX6_level_30 : decode cX6_level 30 = .ok (.bipush (-5), 2) := by decide +kernel
theorem dX6_level_32 : decode cX6_level 32 = .ok (.ireturn, 1) := by decide +kernel
theorem dX6_level_33 : decode cX6_level 33 = .ok (.aload_n 0, 1) := by decide +kernel
theorem dX6_level_34 : decode cX6_level 34 = .ok (.getfield 12, 3) := by decide +kernel
theorem dX6_level_37 : decode cX6_level 37 = .ok (.getfield 53, 3) := by decide +kernel
theorem dX6_level_40 : decode cX6_level 40 = .ok (.iload_n 2, 1) := by decide +kernel
theorem dX6_level_41 : decode cX6_level 41 = .ok (.invokevirtual 73, 3) := by decide +kernel
theorem dX6_level_44 : decode cX6_level 44 = .ok (.aload_n 0, 1) := by decide +kernel
theorem dX6_level_45 : decode cX6_level 45 = .ok (.iconst 1, 1) := by decide +kernel
theorem dX6_level_46 : decode cX6_level 46 = .ok (.putfield 41, 3) := by decide +kernel
theorem dX6_level_49 : decode cX6_level 49 = .ok (.aload_n 0, 1) := by decide +kernel
theorem dX6_level_50 : decode cX6_level 50 = .ok (.getfield 12, 3) := by decide +kernel
theorem dX6_level_53 : decode cX6_level 53 = .ok (.getfield 53, 3) := by decide +kernel
theorem dX6_level_56 : decode cX6_level 56 = .ok (.getfield 63, 3) := by decide +kernel
theorem dX6_level_59 : decode cX6_level 59 = .ok (.ireturn, 1) := by decide +kernel
theorem dX6_gone_0 : decode cX6_gone 0 = .ok (.iload_n 1, 1) := by decide +kernel
theorem dX6_gone_1 : decode cX6_gone 1 = .ok (.invokestatic 45, 3) := by decide +kernel
theorem dX6_gone_4 : decode cX6_gone 4 = .ok (.ifCond .eq 18, 3) := by decide +kernel
theorem dX6_gone_7 : decode cX6_gone 7 = .ok (.aload_n 0, 1) := by decide +kernel
theorem dX6_gone_8 : decode cX6_gone 8 = .ok (.getfield 12, 3) := by decide +kernel
theorem dX6_gone_11 : decode cX6_gone 11 = .ok (.getfield 53, 3) := by decide +kernel
theorem dX6_gone_14 : decode cX6_gone 14 = .ok (.getfield 77, 3) := by decide +kernel
theorem dX6_gone_17 : decode cX6_gone 17 = .ok (.iload_n 1, 1) := by decide +kernel
theorem dX6_gone_18 : decode cX6_gone 18 = .ok (.iaload, 1) := by decide +kernel
theorem dX6_gone_19 : decode cX6_gone 19 = .ok (.goto 5, 3) := by decide +kernel
theorem dX6_gone_22 : decode cX6_gone 22 = .ok (.bipush (-2), 2) := by decide +kernel
theorem dX6_gone_24 : decode cX6_gone 24 = .ok (.ireturn, 1) := by decide +kernel
theorem dX6_see_0 : decode cX6_see 0 = .ok (.iload_n 1, 1) := by decide +kernel
theorem dX6_see_1 : decode cX6_see 1 = .ok (.invokestatic 45, 3) := by decide +kernel
theorem dX6_see_4 : decode cX6_see 4 = .ok (.ifCond .eq 32, 3) := by decide +kernel
theorem dX6_see_7 : decode cX6_see 7 = .ok (.iload_n 2, 1) := by decide +kernel
theorem dX6_see_8 : decode cX6_see 8 = .ok (.iconst 0, 1) := by decide +kernel
theorem dX6_see_9 : decode cX6_see 9 = .ok (.iconst 3, 1) := by decide +kernel
theorem dX6_see_10 : decode cX6_see 10 = .ok (.invokestatic 49, 3) := by decide +kernel
theorem dX6_see_13 : decode cX6_see 13 = .ok (.ifCond .eq 23, 3) := by decide +kernel
theorem dX6_see_16 : decode cX6_see 16 = .ok (.iload_n 3, 1) := by decide +kernel
theorem dX6_see_17 : decode cX6_see 17 = .ok (.iconst 0, 1) := by decide +kernel
theorem dX6_see_18 : decode cX6_see 18 = .ok (.bipush 60, 2) := by decide +kernel
theorem dX6_see_20 : decode cX6_see 20 = .ok (.invokestatic 49, 3) := by decide +kernel
theorem dX6_see_23 : decode cX6_see 23 = .ok (.ifCond .eq 13, 3) := by decide +kernel
theorem dX6_see_26 : decode cX6_see 26 = .ok (.iload 4, 2) := by decide +kernel
theorem dX6_see_28 : decode cX6_see 28 = .ok (.iconst 0, 1) := by decide +kernel
theorem dX6_see_29 : decode cX6_see 29 = .ok (.iconst 2, 1) := by decide +kernel
theorem dX6_see_30 : decode cX6_see 30 = .ok (.invokestatic 49, 3) := by decide +kernel
theorem dX6_see_33 : decode cX6_see 33 = .ok (.ifCond .ne 6, 3) := by decide +kernel
theorem dX6_see_36 : decode cX6_see 36 = .ok (.bipush (-2), 2) := by decide +kernel
theorem dX6_see_38 : decode cX6_see 38 = .ok (.ireturn, 1) := by decide +kernel
theorem dX6_see_39 : decode cX6_see 39 = .ok (.aload_n 0, 1) := by decide +kernel
theorem dX6_see_40 : decode cX6_see 40 = .ok (.getfield 12, 3) := by decide +kernel
theorem dX6_see_43 : decode cX6_see 43 = .ok (.getfield 81, 3) := by decide +kernel
theorem dX6_see_46 : decode cX6_see 46 = .ok (.astore 5, 2) := by decide +kernel
theorem dX6_see_48 : decode cX6_see 48 = .ok (.aload_n 0, 1) := by decide +kernel
theorem dX6_see_49 : decode cX6_see 49 = .ok (.getfield 12, 3) := by decide +kernel
theorem dX6_see_52 : decode cX6_see 52 = .ok (.iload_n 1, 1) := by decide +kernel
theorem dX6_see_53 : decode cX6_see 53 = .ok (.iload_n 2, 1) := by decide +kernel
theorem dX6_see_54 : decode cX6_see 54 = .ok (.iload_n 3, 1) := by decide +kernel
theorem dX6_see_55 : decode cX6_see 55 = .ok (.iload 4, 2) := by decide +kernel
theorem dX6_see_57 : decode cX6_see 57 = .ok (.invokevirtual 85, 3) := by decide +kernel
theorem dX6_see_60 : decode cX6_see 60 = .ok (.istore 6, 2) := by decide +kernel
theorem dX6_see_62 : decode cX6_see 62 = .ok (.iload 6, 2) := by decide +kernel
theorem dX6_see_64 : decode cX6_see 64 = .ok (.ifCond .lt 14, 3) := by decide +kernel
theorem dX6_see_67 : decode cX6_see 67 = .ok (.aload 5, 2) := by decide +kernel
theorem dX6_see_69 : decode cX6_see 69 = .ok (.iload 6, 2) := by decide +kernel
theorem dX6_see_71 : decode cX6_see 71 = .ok (.iload_n 1, 1) := by decide +kernel
theorem dX6_see_72 : decode cX6_see 72 = .ok (.invokevirtual 89, 3) := by decide +kernel
theorem dX6_see_75 : decode cX6_see 75 = .ok (.iload 6, 2) := by decide +kernel
theorem dX6_see_77 : decode cX6_see 77 = .ok (.ireturn, 1) := by decide +kernel
theorem dX6_see_78 : decode cX6_see 78 = .ok (.aload 5, 2) := by decide +kernel
theorem dX6_see_80 : decode cX6_see 80 = .ok (.getfield 94, 3) := by decide +kernel
theorem dX6_see_83 : decode cX6_see 83 = .ok (.bipush 20, 2) := by decide +kernel
theorem dX6_see_85 : decode cX6_see 85 = .ok (.if_icmp .lt 6, 3) := by decide +kernel
theorem dX6_see_88 : decode cX6_see 88 = .ok (.bipush (-4), 2) := by decide +kernel
theorem dX6_see_90 : decode cX6_see 90 = .ok (.ireturn, 1) := by decide +kernel
theorem dX6_see_91 : decode cX6_see 91 = .ok (.aload 5, 2) := by decide +kernel
theorem dX6_see_93 : decode cX6_see 93 = .ok (.iload_n 1, 1) := by decide +kernel
theorem dX6_see_94 : decode cX6_see 94 = .ok (.iload_n 2, 1) := by decide +kernel
theorem dX6_see_95 : decode cX6_see 95 = .ok (.iload_n 3, 1) := by decide +kernel
theorem dX6_see_96 : decode cX6_see 96 = .ok (.iload 4, 2) := by decide +kernel
theorem dX6_see_98 : decode cX6_see 98 = .ok (.invokevirtual 97, 3) := by decide +kernel
theorem dX6_see_101 : decode cX6_see 101 = .ok (.aload_n 0, 1) := by decide +kernel
theorem dX6_see_102 : decode cX6_see 102 = .ok (.iconst 1, 1) := by decide +kernel
theorem dX6_see_103 : decode cX6_see 103 = .ok (.putfield 41, 3) := by decide +kernel
theorem dX6_see_106 : decode cX6_see 106 = .ok (.aload 5, 2) := by decide +kernel
theorem dX6_see_108 : decode cX6_see 108 = .ok (.getfield 94, 3) := by decide +kernel
theorem dX6_see_111 : decode cX6_see 111 = .ok (.iconst 1, 1) := by decide +kernel
theorem dX6_see_112 : decode cX6_see 112 = .ok (.isub, 1) := by decide +kernel
theorem dX6_see_113 : decode cX6_see 113 = .ok (.ireturn, 1) := by decide +kernel
theorem dX6_drop_0 : decode cX6_drop 0 = .ok (.aload_n 0, 1) := by decide +kernel
theorem dX6_drop_1 : decode cX6_drop 1 = .ok (.iload_n 1, 1) := by decide +kernel
theorem dX6_drop_2 : decode cX6_drop 2 = .ok (.invokevirtual 101, 3) := by decide +kernel
theorem dX6_drop_5 : decode cX6_drop 5 = .ok (.ifCond .ne 5, 3) := by decide +kernel
theorem dX6_drop_8 : decode cX6_drop 8 = .ok (.iconst (-1), 1) := by decide +kernel
theorem dX6_drop_9 : decode cX6_drop 9 = .ok (.ireturn, 1) := by decide +kernel
theorem dX6_drop_10 : decode cX6_drop 10 = .ok (.aload_n 0, 1) := by decide +kernel
theorem dX6_drop_11 : decode cX6_drop 11 = .ok (.getfield 12, 3) := by decide +kernel
theorem dX6_drop_14 : decode cX6_drop 14 = .ok (.getfield 81, 3) := by decide +kernel
theorem dX6_drop_17 : decode cX6_drop 17 = .ok (.iload_n 1, 1) := by decide +kernel
theorem dX6_drop_18 : decode cX6_drop 18 = .ok (.invokevirtual 104, 3) := by decide +kernel
theorem dX6_drop_21 : decode cX6_drop 21 = .ok (.aload_n 0, 1) := by decide +kernel
theorem dX6_drop_22 : decode cX6_drop 22 = .ok (.iconst 1, 1) := by decide +kernel
theorem dX6_drop_23 : decode cX6_drop 23 = .ok (.putfield 41, 3) := by decide +kernel
theorem dX6_drop_26 : decode cX6_drop 26 = .ok (.aload_n 0, 1) := by decide +kernel
theorem dX6_drop_27 : decode cX6_drop 27 = .ok (.getfield 12, 3) := by decide +kernel
theorem dX6_drop_30 : decode cX6_drop 30 = .ok (.getfield 81, 3) := by decide +kernel
theorem dX6_drop_33 : decode cX6_drop 33 = .ok (.getfield 94, 3) := by decide +kernel
theorem dX6_drop_36 : decode cX6_drop 36 = .ok (.ireturn, 1) := by decide +kernel
theorem dX6_thing_0 : decode cX6_thing 0 = .ok (.aload_n 0, 1) := by decide +kernel
theorem dX6_thing_1 : decode cX6_thing 1 = .ok (.iload_n 1, 1) := by decide +kernel
theorem dX6_thing_2 : decode cX6_thing 2 = .ok (.invokevirtual 101, 3) := by decide +kernel
theorem dX6_thing_5 : decode cX6_thing 5 = .ok (.ifCond .ne 5, 3) := by decide +kernel
theorem dX6_thing_8 : decode cX6_thing 8 = .ok (.iconst (-1), 1) := by decide +kernel
theorem dX6_thing_9 : decode cX6_thing 9 = .ok (.ireturn, 1) := by decide +kernel
theorem dX6_thing_10 : decode cX6_thing 10 = .ok (.aload_n 0, 1) := by decide +kernel
theorem dX6_thing_11 : decode cX6_thing 11 = .ok (.getfield 12, 3) := by decide +kernel
theorem dX6_thing_14 : decode cX6_thing 14 = .ok (.getfield 81, 3) := by decide +kernel
theorem dX6_thing_17 : decode cX6_thing 17 = .ok (.astore_n 3, 1) := by decide +kernel
theorem dX6_thing_18 : decode cX6_thing 18 = .ok (.iload_n 2, 1) := by decide +kernel
theorem dX6_thing_19 : decode cX6_thing 19 = .ok (.tableswitch 151 0 10 #[57, 64, 71, 78, 85, 91, 100, 109, 124, 133, 142], 57) := by decide +kernel
theorem dX6_thing_76 : decode cX6_thing 76 = .ok (.aload_n 3, 1) := by decide +kernel
theorem dX6_thing_77 : decode cX6_thing 77 = .ok (.getfield 107, 3) := by decide +kernel
theorem dX6_thing_80 : decode cX6_thing 80 = .ok (.iload_n 1, 1) := by decide +kernel
theorem dX6_thing_81 : decode cX6_thing 81 = .ok (.iaload, 1) := by decide +kernel
theorem dX6_thing_82 : decode cX6_thing 82 = .ok (.ireturn, 1) := by decide +kernel
theorem dX6_thing_83 : decode cX6_thing 83 = .ok (.aload_n 3, 1) := by decide +kernel
theorem dX6_thing_84 : decode cX6_thing 84 = .ok (.getfield 110, 3) := by decide +kernel
theorem dX6_thing_87 : decode cX6_thing 87 = .ok (.iload_n 1, 1) := by decide +kernel
theorem dX6_thing_88 : decode cX6_thing 88 = .ok (.iaload, 1) := by decide +kernel
theorem dX6_thing_89 : decode cX6_thing 89 = .ok (.ireturn, 1) := by decide +kernel
theorem dX6_thing_90 : decode cX6_thing 90 = .ok (.aload_n 3, 1) := by decide +kernel
theorem dX6_thing_91 : decode cX6_thing 91 = .ok (.getfield 113, 3) := by decide +kernel
theorem dX6_thing_94 : decode cX6_thing 94 = .ok (.iload_n 1, 1) := by decide +kernel
theorem dX6_thing_95 : decode cX6_thing 95 = .ok (.iaload, 1) := by decide +kernel
theorem dX6_thing_96 : decode cX6_thing 96 = .ok (.ireturn, 1) := by decide +kernel
theorem dX6_thing_97 : decode cX6_thing 97 = .ok (.aload_n 3, 1) := by decide +kernel
theorem dX6_thing_98 : decode cX6_thing 98 = .ok (.getfield 116, 3) := by decide +kernel
theorem dX6_thing_101 : decode cX6_thing 101 = .ok (.iload_n 1, 1) := by decide +kernel
theorem dX6_thing_102 : decode cX6_thing 102 = .ok (.iaload, 1) := by decide +kernel
theorem dX6_thing_103 : decode cX6_thing 103 = .ok (.ireturn, 1) := by decide +kernel
theorem dX6_thing_104 : decode cX6_thing 104 = .ok (.aload_n 3, 1) := by decide +kernel
theorem dX6_thing_105 : decode cX6_thing 105 = .ok (.iload_n 1, 1) := by decide +kernel
theorem dX6_thing_106 : decode cX6_thing 106 = .ok (.invokevirtual 119, 3) := by decide +kernel
theorem dX6_thing_109 : decode cX6_thing 109 = .ok (.ireturn, 1) := by decide +kernel
theorem dX6_thing_110 : decode cX6_thing 110 = .ok (.aload_n 0, 1) := by decide +kernel
theorem dX6_thing_111 : decode cX6_thing 111 = .ok (.invokevirtual 122, 3) := by decide +kernel
theorem dX6_thing_114 : decode cX6_thing 114 = .ok (.iload_n 1, 1) := by decide +kernel
theorem dX6_thing_115 : decode cX6_thing 115 = .ok (.invokevirtual 126, 3) := by decide +kernel
theorem dX6_thing_118 : decode cX6_thing 118 = .ok (.ireturn, 1) := by decide +kernel
theorem dX6_thing_119 : decode cX6_thing 119 = .ok (.aload_n 0, 1) := by decide +kernel
theorem dX6_thing_120 : decode cX6_thing 120 = .ok (.invokevirtual 122, 3) := by decide +kernel
theorem dX6_thing_123 : decode cX6_thing 123 = .ok (.iload_n 1, 1) := by decide +kernel
theorem dX6_thing_124 : decode cX6_thing 124 = .ok (.invokevirtual 129, 3) := by decide +kernel
theorem dX6_thing_127 : decode cX6_thing 127 = .ok (.ireturn, 1) := by decide +kernel
theorem dX6_thing_128 : decode cX6_thing 128 = .ok (.aload_n 0, 1) := by decide +kernel
theorem dX6_thing_129 : decode cX6_thing 129 = .ok (.invokevirtual 122, 3) := by decide +kernel
theorem dX6_thing_132 : decode cX6_thing 132 = .ok (.pop, 1) := by decide +kernel
theorem dX6_thing_133 : decode cX6_thing 133 = .ok (.aload_n 0, 1) := by decide +kernel
theorem dX6_thing_134 : decode cX6_thing 134 = .ok (.getfield 37, 3) := by decide +kernel
theorem dX6_thing_137 : decode cX6_thing 137 = .ok (.getfield 132, 3) := by decide +kernel
theorem dX6_thing_140 : decode cX6_thing 140 = .ok (.iload_n 1, 1) := by decide +kernel
theorem dX6_thing_141 : decode cX6_thing 141 = .ok (.iaload, 1) := by decide +kernel
theorem dX6_thing_142 : decode cX6_thing 142 = .ok (.ireturn, 1) := by decide +kernel
theorem dX6_thing_143 : decode cX6_thing 143 = .ok (.aload_n 0, 1) := by decide +kernel
theorem dX6_thing_144 : decode cX6_thing 144 = .ok (.getfield 12, 3) := by decide +kernel
theorem dX6_thing_147 : decode cX6_thing 147 = .ok (.iload_n 1, 1) := by decide +kernel
theorem dX6_thing_148 : decode cX6_thing 148 = .ok (.invokevirtual 135, 3) := by decide +kernel
theorem dX6_thing_151 : decode cX6_thing 151 = .ok (.ireturn, 1) := by decide +kernel
theorem dX6_thing_152 : decode cX6_thing 152 = .ok (.aload_n 0, 1) := by decide +kernel
theorem dX6_thing_153 : decode cX6_thing 153 = .ok (.getfield 12, 3) := by decide +kernel
theorem dX6_thing_156 : decode cX6_thing 156 = .ok (.iload_n 1, 1) := by decide +kernel
theorem dX6_thing_157 : decode cX6_thing 157 = .ok (.invokevirtual 138, 3) := by decide +kernel
theorem dX6_thing_160 : decode cX6_thing 160 = .ok (.ireturn, 1) := by decide +kernel
theorem dX6_thing_161 : decode cX6_thing 161 = .ok (.aload_n 0, 1) := by decide +kernel
theorem dX6_thing_162 : decode cX6_thing 162 = .ok (.getfield 12, 3) := by decide +kernel
theorem dX6_thing_165 : decode cX6_thing 165 = .ok (.iload_n 1, 1) := by decide +kernel
theorem dX6_thing_166 : decode cX6_thing 166 = .ok (.invokevirtual 141, 3) := by decide +kernel
theorem dX6_thing_169 : decode cX6_thing 169 = .ok (.ireturn, 1) := by decide +kernel
theorem dX6_thing_170 : decode cX6_thing 170 = .ok (.bipush (-2), 2) := by decide +kernel
theorem dX6_thing_172 : decode cX6_thing 172 = .ok (.ireturn, 1) := by decide +kernel
theorem dX6_place_0 : decode cX6_place 0 = .ok (.aload_n 0, 1) := by decide +kernel
theorem dX6_place_1 : decode cX6_place 1 = .ok (.iload_n 1, 1) := by decide +kernel
theorem dX6_place_2 : decode cX6_place 2 = .ok (.invokevirtual 101, 3) := by decide +kernel
theorem dX6_place_5 : decode cX6_place 5 = .ok (.ifCond .ne 5, 3) := by decide +kernel
theorem dX6_place_8 : decode cX6_place 8 = .ok (.iconst (-1), 1) := by decide +kernel
theorem dX6_place_9 : decode cX6_place 9 = .ok (.ireturn, 1) := by decide +kernel
theorem dX6_place_10 : decode cX6_place 10 = .ok (.iload_n 2, 1) := by decide +kernel
theorem dX6_place_11 : decode cX6_place 11 = .ok (.invokestatic 45, 3) := by decide +kernel
theorem dX6_place_14 : decode cX6_place 14 = .ok (.ifCond .eq 19, 3) := by decide +kernel
theorem dX6_place_17 : decode cX6_place 17 = .ok (.aload_n 0, 1) := by decide +kernel
theorem dX6_place_18 : decode cX6_place 18 = .ok (.getfield 12, 3) := by decide +kernel
theorem dX6_place_21 : decode cX6_place 21 = .ok (.iload_n 1, 1) := by decide +kernel
theorem dX6_place_22 : decode cX6_place 22 = .ok (.iload_n 2, 1) := by decide +kernel
theorem dX6_place_23 : decode cX6_place 23 = .ok (.invokevirtual 144, 3) := by decide +kernel
theorem dX6_place_26 : decode cX6_place 26 = .ok (.sipush 10000, 3) := by decide +kernel
theorem dX6_place_29 : decode cX6_place 29 = .ok (.iadd, 1) := by decide +kernel
theorem dX6_place_30 : decode cX6_place 30 = .ok (.goto 5, 3) := by decide +kernel
theorem dX6_place_33 : decode cX6_place 33 = .ok (.bipush (-2), 2) := by decide +kernel
theorem dX6_place_35 : decode cX6_place 35 = .ok (.ireturn, 1) := by decide +kernel
theorem dX6_reach_0 : decode cX6_reach 0 = .ok (.iload_n 1, 1) := by decide +kernel
theorem dX6_reach_1 : decode cX6_reach 1 = .ok (.invokestatic 148, 3) := by decide +kernel
theorem dX6_reach_4 : decode cX6_reach 4 = .ok (.ifCond .ne 5, 3) := by decide +kernel
theorem dX6_reach_7 : decode cX6_reach 7 = .ok (.iconst (-1), 1) := by decide +kernel
theorem dX6_reach_8 : decode cX6_reach 8 = .ok (.ireturn, 1) := by decide +kernel
theorem dX6_reach_9 : decode cX6_reach 9 = .ok (.iload_n 2, 1) := by decide +kernel
theorem dX6_reach_10 : decode cX6_reach 10 = .ok (.iconst 0, 1) := by decide +kernel
theorem dX6_reach_11 : decode cX6_reach 11 = .ok (.sipush 999, 3) := by decide +kernel
theorem dX6_reach_14 : decode cX6_reach 14 = .ok (.invokestatic 49, 3) := by decide +kernel
theorem dX6_reach_17 : decode cX6_reach 17 = .ok (.ifCond .eq 14, 3) := by decide +kernel
theorem dX6_reach_20 : decode cX6_reach 20 = .ok (.iload_n 3, 1) := by decide +kernel
theorem dX6_reach_21 : decode cX6_reach 21 = .ok (.iload_n 2, 1) := by decide +kernel
theorem dX6_reach_22 : decode cX6_reach 22 = .ok (.sipush 999, 3) := by decide +kernel
theorem dX6_reach_25 : decode cX6_reach 25 = .ok (.invokestatic 49, 3) := by decide +kernel
theorem dX6_reach_28 : decode cX6_reach 28 = .ok (.ifCond .ne 6, 3) := by decide +kernel
theorem dX6_reach_31 : decode cX6_reach 31 = .ok (.bipush (-2), 2) := by decide +kernel
theorem dX6_reach_33 : decode cX6_reach 33 = .ok (.ireturn, 1) := by decide +kernel
theorem dX6_reach_34 : decode cX6_reach 34 = .ok (.aload_n 0, 1) := by decide +kernel
theorem dX6_reach_35 : decode cX6_reach 35 = .ok (.getfield 12, 3) := by decide +kernel
theorem dX6_reach_38 : decode cX6_reach 38 = .ok (.getfield 151, 3) := by decide +kernel
theorem dX6_reach_41 : decode cX6_reach 41 = .ok (.iload_n 1, 1) := by decide +kernel
theorem dX6_reach_42 : decode cX6_reach 42 = .ok (.iload_n 2, 1) := by decide +kernel
theorem dX6_reach_43 : decode cX6_reach 43 = .ok (.iload_n 3, 1) := by decide +kernel
theorem dX6_reach_44 : decode cX6_reach 44 = .ok (.invokevirtual 155, 3) := by decide +kernel
theorem dX6_reach_47 : decode cX6_reach 47 = .ok (.ifCond .eq 6, 3) := by decide +kernel
theorem dX6_reach_50 : decode cX6_reach 50 = .ok (.bipush (-5), 2) := by decide +kernel
theorem dX6_reach_52 : decode cX6_reach 52 = .ok (.ireturn, 1) := by decide +kernel
theorem dX6_reach_53 : decode cX6_reach 53 = .ok (.aload_n 0, 1) := by decide +kernel
theorem dX6_reach_54 : decode cX6_reach 54 = .ok (.getfield 12, 3) := by decide +kernel
theorem dX6_reach_57 : decode cX6_reach 57 = .ok (.getfield 151, 3) := by decide +kernel
theorem dX6_reach_60 : decode cX6_reach 60 = .ok (.getfield 160, 3) := by decide +kernel
theorem dX6_reach_63 : decode cX6_reach 63 = .ok (.iload_n 1, 1) := by decide +kernel
theorem dX6_reach_64 : decode cX6_reach 64 = .ok (.iload_n 2, 1) := by decide +kernel
theorem dX6_reach_65 : decode cX6_reach 65 = .ok (.iastore, 1) := by decide +kernel
theorem dX6_reach_66 : decode cX6_reach 66 = .ok (.aload_n 0, 1) := by decide +kernel
theorem dX6_reach_67 : decode cX6_reach 67 = .ok (.getfield 12, 3) := by decide +kernel
theorem dX6_reach_70 : decode cX6_reach 70 = .ok (.getfield 151, 3) := by decide +kernel
theorem dX6_reach_73 : decode cX6_reach 73 = .ok (.getfield 163, 3) := by decide +kernel
theorem dX6_reach_76 : decode cX6_reach 76 = .ok (.iload_n 1, 1) := by decide +kernel
theorem dX6_reach_77 : decode cX6_reach 77 = .ok (.iload_n 3, 1) := by decide +kernel
theorem dX6_reach_78 : decode cX6_reach 78 = .ok (.iastore, 1) := by decide +kernel
theorem dX6_reach_79 : decode cX6_reach 79 = .ok (.aload_n 0, 1) := by decide +kernel
theorem dX6_reach_80 : decode cX6_reach 80 = .ok (.iconst 1, 1) := by decide +kernel
theorem dX6_reach_81 : decode cX6_reach 81 = .ok (.putfield 41, 3) := by decide +kernel
theorem dX6_reach_84 : decode cX6_reach 84 = .ok (.iconst 1, 1) := by decide +kernel
theorem dX6_reach_85 : decode cX6_reach 85 = .ok (.ireturn, 1) := by decide +kernel
theorem dX6_beat_0 : decode cX6_beat 0 = .ok (.iload_n 1, 1) := by decide +kernel
theorem dX6_beat_1 : decode cX6_beat 1 = .ok (.invokestatic 148, 3) := by decide +kernel
theorem dX6_beat_4 : decode cX6_beat 4 = .ok (.ifCond .ne 5, 3) := by decide +kernel
theorem dX6_beat_7 : decode cX6_beat 7 = .ok (.iconst (-1), 1) := by decide +kernel
theorem dX6_beat_8 : decode cX6_beat 8 = .ok (.ireturn, 1) := by decide +kernel
theorem dX6_beat_9 : decode cX6_beat 9 = .ok (.iload_n 2, 1) := by decide +kernel
theorem dX6_beat_10 : decode cX6_beat 10 = .ok (.iconst 1, 1) := by decide +kernel
theorem dX6_beat_11 : decode cX6_beat 11 = .ok (.bipush 20, 2) := by decide +kernel
theorem dX6_beat_13 : decode cX6_beat 13 = .ok (.invokestatic 49, 3) := by decide +kernel
theorem dX6_beat_16 : decode cX6_beat 16 = .ok (.ifCond .eq 14, 3) := by decide +kernel
theorem dX6_beat_19 : decode cX6_beat 19 = .ok (.iload_n 3, 1) := by decide +kernel
theorem dX6_beat_20 : decode cX6_beat 20 = .ok (.iconst 0, 1) := by decide +kernel
theorem dX6_beat_21 : decode cX6_beat 21 = .ok (.iload_n 2, 1) := by decide +kernel
theorem dX6_beat_22 : decode cX6_beat 22 = .ok (.iconst 1, 1) := by decide +kernel
theorem dX6_beat_23 : decode cX6_beat 23 = .ok (.isub, 1) := by decide +kernel
theorem dX6_beat_24 : decode cX6_beat 24 = .ok (.invokestatic 49, 3) := by decide +kernel
theorem dX6_beat_27 : decode cX6_beat 27 = .ok (.ifCond .ne 6, 3) := by decide +kernel
theorem dX6_beat_30 : decode cX6_beat 30 = .ok (.bipush (-2), 2) := by decide +kernel
theorem dX6_beat_32 : decode cX6_beat 32 = .ok (.ireturn, 1) := by decide +kernel
theorem dX6_beat_33 : decode cX6_beat 33 = .ok (.aload_n 0, 1) := by decide +kernel
theorem dX6_beat_34 : decode cX6_beat 34 = .ok (.getfield 12, 3) := by decide +kernel
theorem dX6_beat_37 : decode cX6_beat 37 = .ok (.getfield 151, 3) := by decide +kernel
theorem dX6_beat_40 : decode cX6_beat 40 = .ok (.getfield 166, 3) := by decide +kernel
theorem dX6_beat_43 : decode cX6_beat 43 = .ok (.iload_n 1, 1) := by decide +kernel
theorem dX6_beat_44 : decode cX6_beat 44 = .ok (.iload_n 2, 1) := by decide +kernel
theorem dX6_beat_45 : decode cX6_beat 45 = .ok (.iastore, 1) := by decide +kernel
theorem dX6_beat_46 : decode cX6_beat 46 = .ok (.aload_n 0, 1) := by decide +kernel
theorem dX6_beat_47 : decode cX6_beat 47 = .ok (.getfield 12, 3) := by decide +kernel
theorem dX6_beat_50 : decode cX6_beat 50 = .ok (.getfield 151, 3) := by decide +kernel
theorem dX6_beat_53 : decode cX6_beat 53 = .ok (.getfield 169, 3) := by decide +kernel
theorem dX6_beat_56 : decode cX6_beat 56 = .ok (.iload_n 1, 1) := by decide +kernel
theorem dX6_beat_57 : decode cX6_beat 57 = .ok (.iload_n 3, 1) := by decide +kernel
theorem dX6_beat_58 : decode cX6_beat 58 = .ok (.iastore, 1) := by decide +kernel
theorem dX6_beat_59 : decode cX6_beat 59 = .ok (.aload_n 0, 1) := by decide +kernel
theorem dX6_beat_60 : decode cX6_beat 60 = .ok (.iconst 1, 1) := by decide +kernel
theorem dX6_beat_61 : decode cX6_beat 61 = .ok (.putfield 41, 3) := by decide +kernel
theorem dX6_beat_64 : decode cX6_beat 64 = .ok (.iconst 1, 1) := by decide +kernel
theorem dX6_beat_65 : decode cX6_beat 65 = .ok (.ireturn, 1) := by decide +kernel
theorem dX6_lanes_0 : decode cX6_lanes 0 = .ok (.iload_n 1, 1) := by decide +kernel
theorem dX6_lanes_1 : decode cX6_lanes 1 = .ok (.invokestatic 148, 3) := by decide +kernel
theorem dX6_lanes_4 : decode cX6_lanes 4 = .ok (.ifCond .ne 5, 3) := by decide +kernel
theorem dX6_lanes_7 : decode cX6_lanes 7 = .ok (.iconst (-1), 1) := by decide +kernel
theorem dX6_lanes_8 : decode cX6_lanes 8 = .ok (.ireturn, 1) := by decide +kernel
theorem dX6_lanes_9 : decode cX6_lanes 9 = .ok (.iload_n 2, 1) := by decide +kernel
theorem dX6_lanes_10 : decode cX6_lanes 10 = .ok (.iconst 0, 1) := by decide +kernel
theorem dX6_lanes_11 : decode cX6_lanes 11 = .ok (.bipush 15, 2) := by decide +kernel
theorem dX6_lanes_13 : decode cX6_lanes 13 = .ok (.invokestatic 49, 3) := by decide +kernel
theorem dX6_lanes_16 : decode cX6_lanes 16 = .ok (.ifCond .ne 6, 3) := by decide +kernel
theorem dX6_lanes_19 : decode cX6_lanes 19 = .ok (.bipush (-2), 2) := by decide +kernel
theorem dX6_lanes_21 : decode cX6_lanes 21 = .ok (.ireturn, 1) := by decide +kernel
theorem dX6_lanes_22 : decode cX6_lanes 22 = .ok (.aload_n 0, 1) := by decide +kernel
theorem dX6_lanes_23 : decode cX6_lanes 23 = .ok (.getfield 12, 3) := by decide +kernel
theorem dX6_lanes_26 : decode cX6_lanes 26 = .ok (.getfield 151, 3) := by decide +kernel
theorem dX6_lanes_29 : decode cX6_lanes 29 = .ok (.getfield 172, 3) := by decide +kernel
theorem dX6_lanes_32 : decode cX6_lanes 32 = .ok (.iload_n 1, 1) := by decide +kernel
theorem dX6_lanes_33 : decode cX6_lanes 33 = .ok (.iaload, 1) := by decide +kernel
theorem dX6_lanes_34 : decode cX6_lanes 34 = .ok (.istore_n 3, 1) := by decide +kernel
theorem dX6_lanes_35 : decode cX6_lanes 35 = .ok (.aload_n 0, 1) := by decide +kernel
theorem dX6_lanes_36 : decode cX6_lanes 36 = .ok (.getfield 12, 3) := by decide +kernel
theorem dX6_lanes_39 : decode cX6_lanes 39 = .ok (.getfield 151, 3) := by decide +kernel
theorem dX6_lanes_42 : decode cX6_lanes 42 = .ok (.getfield 172, 3) := by decide +kernel
theorem dX6_lanes_45 : decode cX6_lanes 45 = .ok (.iload_n 1, 1) := by decide +kernel
theorem dX6_lanes_46 : decode cX6_lanes 46 = .ok (.iload_n 2, 1) := by decide +kernel
theorem dX6_lanes_47 : decode cX6_lanes 47 = .ok (.iastore, 1) := by decide +kernel
theorem dX6_lanes_48 : decode cX6_lanes 48 = .ok (.aload_n 0, 1) := by decide +kernel
theorem dX6_lanes_49 : decode cX6_lanes 49 = .ok (.iconst 1, 1) := by decide +kernel
theorem dX6_lanes_50 : decode cX6_lanes 50 = .ok (.putfield 41, 3) := by decide +kernel
theorem dX6_lanes_53 : decode cX6_lanes 53 = .ok (.iload_n 3, 1) := by decide +kernel
theorem dX6_lanes_54 : decode cX6_lanes 54 = .ok (.ireturn, 1) := by decide +kernel
theorem dX6_arm_0 : decode cX6_arm 0 = .ok (.iload_n 1, 1) := by decide +kernel
theorem dX6_arm_1 : decode cX6_arm 1 = .ok (.invokestatic 148, 3) := by decide +kernel
theorem dX6_arm_4 : decode cX6_arm 4 = .ok (.ifCond .ne 5, 3) := by decide +kernel
theorem dX6_arm_7 : decode cX6_arm 7 = .ok (.iconst (-1), 1) := by decide +kernel
theorem dX6_arm_8 : decode cX6_arm 8 = .ok (.ireturn, 1) := by decide +kernel
theorem dX6_arm_9 : decode cX6_arm 9 = .ok (.aload_n 0, 1) := by decide +kernel
theorem dX6_arm_10 : decode cX6_arm 10 = .ok (.getfield 12, 3) := by decide +kernel
theorem dX6_arm_13 : decode cX6_arm 13 = .ok (.getfield 151, 3) := by decide +kernel
theorem dX6_arm_16 : decode cX6_arm 16 = .ok (.astore_n 3, 1) := by decide +kernel
theorem dX6_arm_17 : decode cX6_arm 17 = .ok (.iload_n 2, 1) := by decide +kernel
theorem dX6_arm_18 : decode cX6_arm 18 = .ok (.tableswitch 114 0 6 #[42, 49, 56, 63, 70, 77, 86], 42) := by decide +kernel
theorem dX6_arm_60 : decode cX6_arm 60 = .ok (.aload_n 3, 1) := by decide +kernel
theorem dX6_arm_61 : decode cX6_arm 61 = .ok (.getfield 160, 3) := by decide +kernel
theorem dX6_arm_64 : decode cX6_arm 64 = .ok (.iload_n 1, 1) := by decide +kernel
theorem dX6_arm_65 : decode cX6_arm 65 = .ok (.iaload, 1) := by decide +kernel
theorem dX6_arm_66 : decode cX6_arm 66 = .ok (.ireturn, 1) := by decide +kernel
theorem dX6_arm_67 : decode cX6_arm 67 = .ok (.aload_n 3, 1) := by decide +kernel
theorem dX6_arm_68 : decode cX6_arm 68 = .ok (.getfield 163, 3) := by decide +kernel
theorem dX6_arm_71 : decode cX6_arm 71 = .ok (.iload_n 1, 1) := by decide +kernel
theorem dX6_arm_72 : decode cX6_arm 72 = .ok (.iaload, 1) := by decide +kernel
theorem dX6_arm_73 : decode cX6_arm 73 = .ok (.ireturn, 1) := by decide +kernel
theorem dX6_arm_74 : decode cX6_arm 74 = .ok (.aload_n 3, 1) := by decide +kernel
theorem dX6_arm_75 : decode cX6_arm 75 = .ok (.getfield 166, 3) := by decide +kernel
theorem dX6_arm_78 : decode cX6_arm 78 = .ok (.iload_n 1, 1) := by decide +kernel
theorem dX6_arm_79 : decode cX6_arm 79 = .ok (.iaload, 1) := by decide +kernel
theorem dX6_arm_80 : decode cX6_arm 80 = .ok (.ireturn, 1) := by decide +kernel
theorem dX6_arm_81 : decode cX6_arm 81 = .ok (.aload_n 3, 1) := by decide +kernel
theorem dX6_arm_82 : decode cX6_arm 82 = .ok (.getfield 169, 3) := by decide +kernel
theorem dX6_arm_85 : decode cX6_arm 85 = .ok (.iload_n 1, 1) := by decide +kernel
theorem dX6_arm_86 : decode cX6_arm 86 = .ok (.iaload, 1) := by decide +kernel
theorem dX6_arm_87 : decode cX6_arm 87 = .ok (.ireturn, 1) := by decide +kernel
theorem dX6_arm_88 : decode cX6_arm 88 = .ok (.aload_n 3, 1) := by decide +kernel
theorem dX6_arm_89 : decode cX6_arm 89 = .ok (.getfield 172, 3) := by decide +kernel
theorem dX6_arm_92 : decode cX6_arm 92 = .ok (.iload_n 1, 1) := by decide +kernel
theorem dX6_arm_93 : decode cX6_arm 93 = .ok (.iaload, 1) := by decide +kernel
theorem dX6_arm_94 : decode cX6_arm 94 = .ok (.ireturn, 1) := by decide +kernel
theorem dX6_arm_95 : decode cX6_arm 95 = .ok (.aload_n 0, 1) := by decide +kernel
theorem dX6_arm_96 : decode cX6_arm 96 = .ok (.invokevirtual 122, 3) := by decide +kernel
theorem dX6_arm_99 : decode cX6_arm 99 = .ok (.iload_n 1, 1) := by decide +kernel
theorem dX6_arm_100 : decode cX6_arm 100 = .ok (.invokevirtual 175, 3) := by decide +kernel
theorem dX6_arm_103 : decode cX6_arm 103 = .ok (.ireturn, 1) := by decide +kernel
theorem dX6_arm_104 : decode cX6_arm 104 = .ok (.aload_n 0, 1) := by decide +kernel
theorem dX6_arm_105 : decode cX6_arm 105 = .ok (.getfield 31, 3) := by decide +kernel
theorem dX6_arm_108 : decode cX6_arm 108 = .ok (.aload_n 0, 1) := by decide +kernel
theorem dX6_arm_109 : decode cX6_arm 109 = .ok (.getfield 12, 3) := by decide +kernel
theorem dX6_arm_112 : decode cX6_arm 112 = .ok (.iload_n 1, 1) := by decide +kernel
theorem dX6_arm_113 : decode cX6_arm 113 = .ok (.invokevirtual 178, 3) := by decide +kernel
theorem dX6_arm_116 : decode cX6_arm 116 = .ok (.aload_n 0, 1) := by decide +kernel
theorem dX6_arm_117 : decode cX6_arm 117 = .ok (.invokevirtual 122, 3) := by decide +kernel
theorem dX6_arm_120 : decode cX6_arm 120 = .ok (.getfield 182, 3) := by decide +kernel
theorem dX6_arm_123 : decode cX6_arm 123 = .ok (.aload_n 0, 1) := by decide +kernel
theorem dX6_arm_124 : decode cX6_arm 124 = .ok (.getfield 31, 3) := by decide +kernel
theorem dX6_arm_127 : decode cX6_arm 127 = .ok (.getfield 182, 3) := by decide +kernel
theorem dX6_arm_130 : decode cX6_arm 130 = .ok (.isub, 1) := by decide +kernel
theorem dX6_arm_131 : decode cX6_arm 131 = .ok (.ireturn, 1) := by decide +kernel
theorem dX6_arm_132 : decode cX6_arm 132 = .ok (.bipush (-2), 2) := by decide +kernel
theorem dX6_arm_134 : decode cX6_arm 134 = .ok (.ireturn, 1) := by decide +kernel
theorem dX6_can_0 : decode cX6_can 0 = .ok (.iload_n 1, 1) := by decide +kernel
theorem dX6_can_1 : decode cX6_can 1 = .ok (.invokestatic 148, 3) := by decide +kernel
theorem dX6_can_4 : decode cX6_can 4 = .ok (.ifCond .eq 11, 3) := by decide +kernel
theorem dX6_can_7 : decode cX6_can 7 = .ok (.aload_n 0, 1) := by decide +kernel
theorem dX6_can_8 : decode cX6_can 8 = .ok (.iload_n 2, 1) := by decide +kernel
theorem dX6_can_9 : decode cX6_can 9 = .ok (.invokevirtual 101, 3) := by decide +kernel
theorem dX6_can_12 : decode cX6_can 12 = .ok (.ifCond .ne 5, 3) := by decide +kernel
theorem dX6_can_15 : decode cX6_can 15 = .ok (.iconst (-1), 1) := by decide +kernel
theorem dX6_can_16 : decode cX6_can 16 = .ok (.ireturn, 1) := by decide +kernel
theorem dX6_can_17 : decode cX6_can 17 = .ok (.iload_n 3, 1) := by decide +kernel
theorem dX6_can_18 : decode cX6_can 18 = .ok (.invokestatic 45, 3) := by decide +kernel
theorem dX6_can_21 : decode cX6_can 21 = .ok (.ifCond .ne 6, 3) := by decide +kernel
theorem dX6_can_24 : decode cX6_can 24 = .ok (.bipush (-2), 2) := by decide +kernel
theorem dX6_can_26 : decode cX6_can 26 = .ok (.ireturn, 1) := by decide +kernel
theorem dX6_can_27 : decode cX6_can 27 = .ok (.aload_n 0, 1) := by decide +kernel
theorem dX6_can_28 : decode cX6_can 28 = .ok (.getfield 12, 3) := by decide +kernel
theorem dX6_can_31 : decode cX6_can 31 = .ok (.iload_n 1, 1) := by decide +kernel
theorem dX6_can_32 : decode cX6_can 32 = .ok (.iload_n 2, 1) := by decide +kernel
theorem dX6_can_33 : decode cX6_can 33 = .ok (.iload_n 3, 1) := by decide +kernel
theorem dX6_can_34 : decode cX6_can 34 = .ok (.invokevirtual 185, 3) := by decide +kernel
theorem dX6_can_37 : decode cX6_can 37 = .ok (.ifCond .eq 7, 3) := by decide +kernel
theorem dX6_can_40 : decode cX6_can 40 = .ok (.iconst 1, 1) := by decide +kernel
theorem dX6_can_41 : decode cX6_can 41 = .ok (.goto 4, 3) := by decide +kernel
theorem dX6_can_44 : decode cX6_can 44 = .ok (.iconst 0, 1) := by decide +kernel
theorem dX6_can_45 : decode cX6_can 45 = .ok (.ireturn, 1) := by decide +kernel
theorem dX6_takes_0 : decode cX6_takes 0 = .ok (.iload_n 1, 1) := by decide +kernel
theorem dX6_takes_1 : decode cX6_takes 1 = .ok (.invokestatic 148, 3) := by decide +kernel
theorem dX6_takes_4 : decode cX6_takes 4 = .ok (.ifCond .ne 5, 3) := by decide +kernel
theorem dX6_takes_7 : decode cX6_takes 7 = .ok (.iconst (-1), 1) := by decide +kernel
theorem dX6_takes_8 : decode cX6_takes 8 = .ok (.ireturn, 1) := by decide +kernel
theorem dX6_takes_9 : decode cX6_takes 9 = .ok (.iload_n 2, 1) := by decide +kernel
theorem dX6_takes_10 : decode cX6_takes 10 = .ok (.invokestatic 45, 3) := by decide +kernel
theorem dX6_takes_13 : decode cX6_takes 13 = .ok (.ifCond .ne 6, 3) := by decide +kernel
theorem dX6_takes_16 : decode cX6_takes 16 = .ok (.bipush (-2), 2) := by decide +kernel
theorem dX6_takes_18 : decode cX6_takes 18 = .ok (.ireturn, 1) := by decide +kernel
theorem dX6_takes_19 : decode cX6_takes 19 = .ok (.aload_n 0, 1) := by decide +kernel
theorem dX6_takes_20 : decode cX6_takes 20 = .ok (.invokevirtual 122, 3) := by decide +kernel
theorem dX6_takes_23 : decode cX6_takes 23 = .ok (.iload_n 1, 1) := by decide +kernel
theorem dX6_takes_24 : decode cX6_takes 24 = .ok (.iload_n 2, 1) := by decide +kernel
theorem dX6_takes_25 : decode cX6_takes 25 = .ok (.invokevirtual 188, 3) := by decide +kernel
theorem dX6_takes_28 : decode cX6_takes 28 = .ok (.istore_n 3, 1) := by decide +kernel
theorem dX6_takes_29 : decode cX6_takes 29 = .ok (.iload_n 3, 1) := by decide +kernel
theorem dX6_takes_30 : decode cX6_takes 30 = .ok (.ifCond .ge 8, 3) := by decide +kernel
theorem dX6_takes_33 : decode cX6_takes 33 = .ok (.bipush (-6), 2) := by decide +kernel
theorem dX6_takes_35 : decode cX6_takes 35 = .ok (.goto 4, 3) := by decide +kernel
theorem dX6_takes_38 : decode cX6_takes 38 = .ok (.iload_n 3, 1) := by decide +kernel
theorem dX6_takes_39 : decode cX6_takes 39 = .ok (.ireturn, 1) := by decide +kernel
theorem dX6_plan_0 : decode cX6_plan 0 = .ok (.iload_n 1, 1) := by decide +kernel
theorem dX6_plan_1 : decode cX6_plan 1 = .ok (.tableswitch 86 0 4 #[35, 43, 62, 70, 78], 35) := by decide +kernel
theorem dX6_plan_36 : decode cX6_plan 36 = .ok (.aload_n 0, 1) := by decide +kernel
theorem dX6_plan_37 : decode cX6_plan 37 = .ok (.invokevirtual 122, 3) := by decide +kernel
theorem dX6_plan_40 : decode cX6_plan 40 = .ok (.getfield 182, 3) := by decide +kernel
theorem dX6_plan_43 : decode cX6_plan 43 = .ok (.ireturn, 1) := by decide +kernel
theorem dX6_plan_44 : decode cX6_plan 44 = .ok (.aload_n 0, 1) := by decide +kernel
theorem dX6_plan_45 : decode cX6_plan 45 = .ok (.getfield 12, 3) := by decide +kernel
theorem dX6_plan_48 : decode cX6_plan 48 = .ok (.getfield 81, 3) := by decide +kernel
theorem dX6_plan_51 : decode cX6_plan 51 = .ok (.getfield 94, 3) := by decide +kernel
theorem dX6_plan_54 : decode cX6_plan 54 = .ok (.aload_n 0, 1) := by decide +kernel
theorem dX6_plan_55 : decode cX6_plan 55 = .ok (.invokevirtual 122, 3) := by decide +kernel
theorem dX6_plan_58 : decode cX6_plan 58 = .ok (.getfield 182, 3) := by decide +kernel
theorem dX6_plan_61 : decode cX6_plan 61 = .ok (.isub, 1) := by decide +kernel
theorem dX6_plan_62 : decode cX6_plan 62 = .ok (.ireturn, 1) := by decide +kernel
theorem dX6_plan_63 : decode cX6_plan 63 = .ok (.aload_n 0, 1) := by decide +kernel
theorem dX6_plan_64 : decode cX6_plan 64 = .ok (.invokevirtual 122, 3) := by decide +kernel
theorem dX6_plan_67 : decode cX6_plan 67 = .ok (.invokevirtual 191, 3) := by decide +kernel
theorem dX6_plan_70 : decode cX6_plan 70 = .ok (.ireturn, 1) := by decide +kernel
theorem dX6_plan_71 : decode cX6_plan 71 = .ok (.aload_n 0, 1) := by decide +kernel
theorem dX6_plan_72 : decode cX6_plan 72 = .ok (.invokevirtual 122, 3) := by decide +kernel
theorem dX6_plan_75 : decode cX6_plan 75 = .ok (.invokevirtual 195, 3) := by decide +kernel
theorem dX6_plan_78 : decode cX6_plan 78 = .ok (.ireturn, 1) := by decide +kernel
theorem dX6_plan_79 : decode cX6_plan 79 = .ok (.aload_n 0, 1) := by decide +kernel
theorem dX6_plan_80 : decode cX6_plan 80 = .ok (.invokevirtual 122, 3) := by decide +kernel
theorem dX6_plan_83 : decode cX6_plan 83 = .ok (.invokevirtual 198, 3) := by decide +kernel
theorem dX6_plan_86 : decode cX6_plan 86 = .ok (.ireturn, 1) := by decide +kernel
theorem dX6_plan_87 : decode cX6_plan 87 = .ok (.bipush (-2), 2) := by decide +kernel
theorem dX6_plan_89 : decode cX6_plan 89 = .ok (.ireturn, 1) := by decide +kernel
theorem dX6_tray_0 : decode cX6_tray 0 = .ok (.iload_n 1, 1) := by decide +kernel
theorem dX6_tray_1 : decode cX6_tray 1 = .ok (.iconst 0, 1) := by decide +kernel
theorem dX6_tray_2 : decode cX6_tray 2 = .ok (.iconst 2, 1) := by decide +kernel
theorem dX6_tray_3 : decode cX6_tray 3 = .ok (.invokestatic 49, 3) := by decide +kernel
theorem dX6_tray_6 : decode cX6_tray 6 = .ok (.ifCond .eq 20, 3) := by decide +kernel
theorem dX6_tray_9 : decode cX6_tray 9 = .ok (.iload_n 2, 1) := by decide +kernel
theorem dX6_tray_10 : decode cX6_tray 10 = .ok (.iconst 0, 1) := by decide +kernel
theorem dX6_tray_11 : decode cX6_tray 11 = .ok (.aload_n 0, 1) := by decide +kernel
theorem dX6_tray_12 : decode cX6_tray 12 = .ok (.getfield 12, 3) := by decide +kernel
theorem dX6_tray_15 : decode cX6_tray 15 = .ok (.getfield 201, 3) := by decide +kernel
theorem dX6_tray_18 : decode cX6_tray 18 = .ok (.iconst 1, 1) := by decide +kernel
theorem dX6_tray_19 : decode cX6_tray 19 = .ok (.isub, 1) := by decide +kernel
theorem dX6_tray_20 : decode cX6_tray 20 = .ok (.invokestatic 49, 3) := by decide +kernel
theorem dX6_tray_23 : decode cX6_tray 23 = .ok (.ifCond .ne 6, 3) := by decide +kernel
theorem dX6_tray_26 : decode cX6_tray 26 = .ok (.bipush (-2), 2) := by decide +kernel
theorem dX6_tray_28 : decode cX6_tray 28 = .ok (.ireturn, 1) := by decide +kernel
theorem dX6_tray_29 : decode cX6_tray 29 = .ok (.aload_n 0, 1) := by decide +kernel
theorem dX6_tray_30 : decode cX6_tray 30 = .ok (.invokevirtual 122, 3) := by decide +kernel
theorem dX6_tray_33 : decode cX6_tray 33 = .ok (.pop, 1) := by decide +kernel
theorem dX6_tray_34 : decode cX6_tray 34 = .ok (.aload_n 0, 1) := by decide +kernel
theorem dX6_tray_35 : decode cX6_tray 35 = .ok (.getfield 37, 3) := by decide +kernel
theorem dX6_tray_38 : decode cX6_tray 38 = .ok (.getfield 204, 3) := by decide +kernel
theorem dX6_tray_41 : decode cX6_tray 41 = .ok (.iload_n 1, 1) := by decide +kernel
theorem dX6_tray_42 : decode cX6_tray 42 = .ok (.bipush 6, 2) := by decide +kernel
theorem dX6_tray_44 : decode cX6_tray 44 = .ok (.imul, 1) := by decide +kernel
theorem dX6_tray_45 : decode cX6_tray 45 = .ok (.iload_n 2, 1) := by decide +kernel
theorem dX6_tray_46 : decode cX6_tray 46 = .ok (.iadd, 1) := by decide +kernel
theorem dX6_tray_47 : decode cX6_tray 47 = .ok (.iaload, 1) := by decide +kernel
theorem dX6_tray_48 : decode cX6_tray 48 = .ok (.ireturn, 1) := by decide +kernel
theorem dX6_set_0 : decode cX6_set 0 = .ok (.iload_n 1, 1) := by decide +kernel
theorem dX6_set_1 : decode cX6_set 1 = .ok (.ifCond .ne 31, 3) := by decide +kernel
theorem dX6_set_4 : decode cX6_set 4 = .ok (.iload_n 2, 1) := by decide +kernel
theorem dX6_set_5 : decode cX6_set 5 = .ok (.iconst 0, 1) := by decide +kernel
theorem dX6_set_6 : decode cX6_set 6 = .ok (.bipush 20, 2) := by decide +kernel
theorem dX6_set_8 : decode cX6_set 8 = .ok (.invokestatic 49, 3) := by decide +kernel
theorem dX6_set_11 : decode cX6_set 11 = .ok (.ifCond .eq 21, 3) := by decide +kernel
theorem dX6_set_14 : decode cX6_set 14 = .ok (.aload_n 0, 1) := by decide +kernel
theorem dX6_set_15 : decode cX6_set 15 = .ok (.getfield 12, 3) := by decide +kernel
theorem dX6_set_18 : decode cX6_set 18 = .ok (.getfield 207, 3) := by decide +kernel
theorem dX6_set_21 : decode cX6_set 21 = .ok (.istore_n 3, 1) := by decide +kernel
theorem dX6_set_22 : decode cX6_set 22 = .ok (.aload_n 0, 1) := by decide +kernel
theorem dX6_set_23 : decode cX6_set 23 = .ok (.getfield 12, 3) := by decide +kernel
theorem dX6_set_26 : decode cX6_set 26 = .ok (.iload_n 2, 1) := by decide +kernel
theorem dX6_set_27 : decode cX6_set 27 = .ok (.putfield 207, 3) := by decide +kernel
theorem dX6_set_30 : decode cX6_set 30 = .ok (.iload_n 3, 1) := by decide +kernel
theorem dX6_set_31 : decode cX6_set 31 = .ok (.ireturn, 1) := by decide +kernel
theorem dX6_set_32 : decode cX6_set 32 = .ok (.iload_n 1, 1) := by decide +kernel
theorem dX6_set_33 : decode cX6_set 33 = .ok (.iconst 1, 1) := by decide +kernel
theorem dX6_set_34 : decode cX6_set 34 = .ok (.if_icmp .ne 36, 3) := by decide +kernel
theorem dX6_set_37 : decode cX6_set 37 = .ok (.iload_n 2, 1) := by decide +kernel
theorem dX6_set_38 : decode cX6_set 38 = .ok (.iconst 1, 1) := by decide +kernel
theorem dX6_set_39 : decode cX6_set 39 = .ok (.bipush 6, 2) := by decide +kernel
theorem dX6_set_41 : decode cX6_set 41 = .ok (.invokestatic 49, 3) := by decide +kernel
theorem dX6_set_44 : decode cX6_set 44 = .ok (.ifCond .eq 26, 3) := by decide +kernel
theorem dX6_set_47 : decode cX6_set 47 = .ok (.aload_n 0, 1) := by decide +kernel
theorem dX6_set_48 : decode cX6_set 48 = .ok (.getfield 12, 3) := by decide +kernel
theorem dX6_set_51 : decode cX6_set 51 = .ok (.getfield 201, 3) := by decide +kernel
theorem dX6_set_54 : decode cX6_set 54 = .ok (.istore_n 3, 1) := by decide +kernel
theorem dX6_set_55 : decode cX6_set 55 = .ok (.aload_n 0, 1) := by decide +kernel
theorem dX6_set_56 : decode cX6_set 56 = .ok (.getfield 12, 3) := by decide +kernel
theorem dX6_set_59 : decode cX6_set 59 = .ok (.iload_n 2, 1) := by decide +kernel
theorem dX6_set_60 : decode cX6_set 60 = .ok (.putfield 201, 3) := by decide +kernel
theorem dX6_set_63 : decode cX6_set 63 = .ok (.aload_n 0, 1) := by decide +kernel
theorem dX6_set_64 : decode cX6_set 64 = .ok (.iconst 1, 1) := by decide +kernel
theorem dX6_set_65 : decode cX6_set 65 = .ok (.putfield 41, 3) := by decide +kernel
theorem dX6_set_68 : decode cX6_set 68 = .ok (.iload_n 3, 1) := by decide +kernel
theorem dX6_set_69 : decode cX6_set 69 = .ok (.ireturn, 1) := by decide +kernel
theorem dX6_set_70 : decode cX6_set 70 = .ok (.bipush (-2), 2) := by decide +kernel
theorem dX6_set_72 : decode cX6_set 72 = .ok (.ireturn, 1) := by decide +kernel
theorem dX6_image_0 : decode cX6_image 0 = .ok (.iload_n 1, 1) := by decide +kernel
theorem dX6_image_1 : decode cX6_image 1 = .ok (.iconst 0, 1) := by decide +kernel
theorem dX6_image_2 : decode cX6_image 2 = .ok (.iconst 1, 1) := by decide +kernel
theorem dX6_image_3 : decode cX6_image 3 = .ok (.invokestatic 49, 3) := by decide +kernel
theorem dX6_image_6 : decode cX6_image 6 = .ok (.ifCond .ne 6, 3) := by decide +kernel
theorem dX6_image_9 : decode cX6_image 9 = .ok (.bipush (-2), 2) := by decide +kernel
theorem dX6_image_11 : decode cX6_image 11 = .ok (.ireturn, 1) := by decide +kernel
theorem dX6_image_12 : decode cX6_image 12 = .ok (.aload_n 0, 1) := by decide +kernel
theorem dX6_image_13 : decode cX6_image 13 = .ok (.getfield 16, 3) := by decide +kernel
theorem dX6_image_16 : decode cX6_image 16 = .ok (.iload_n 1, 1) := by decide +kernel
theorem dX6_image_17 : decode cX6_image 17 = .ok (.aaload, 1) := by decide +kernel
theorem dX6_image_18 : decode cX6_image 18 = .ok (.aload_n 0, 1) := by decide +kernel
theorem dX6_image_19 : decode cX6_image 19 = .ok (.getfield 12, 3) := by decide +kernel
theorem dX6_image_22 : decode cX6_image 22 = .ok (.invokevirtual 210, 3) := by decide +kernel
theorem dX6_image_25 : decode cX6_image 25 = .ok (.aload_n 0, 1) := by decide +kernel
theorem dX6_image_26 : decode cX6_image 26 = .ok (.dup, 1) := by decide +kernel
theorem dX6_image_27 : decode cX6_image 27 = .ok (.getfield 20, 3) := by decide +kernel
theorem dX6_image_30 : decode cX6_image 30 = .ok (.iconst 1, 1) := by decide +kernel
theorem dX6_image_31 : decode cX6_image 31 = .ok (.iload_n 1, 1) := by decide +kernel
theorem dX6_image_32 : decode cX6_image 32 = .ok (.ishl, 1) := by decide +kernel
theorem dX6_image_33 : decode cX6_image 33 = .ok (.ior, 1) := by decide +kernel
theorem dX6_image_34 : decode cX6_image 34 = .ok (.putfield 20, 3) := by decide +kernel
theorem dX6_image_37 : decode cX6_image 37 = .ok (.iconst 1, 1) := by decide +kernel
theorem dX6_image_38 : decode cX6_image 38 = .ok (.ireturn, 1) := by decide +kernel
theorem dX6_restore_0 : decode cX6_restore 0 = .ok (.iload_n 1, 1) := by decide +kernel
theorem dX6_restore_1 : decode cX6_restore 1 = .ok (.iconst 0, 1) := by decide +kernel
theorem dX6_restore_2 : decode cX6_restore 2 = .ok (.iconst 1, 1) := by decide +kernel
theorem dX6_restore_3 : decode cX6_restore 3 = .ok (.invokestatic 49, 3) := by decide +kernel
theorem dX6_restore_6 : decode cX6_restore 6 = .ok (.ifCond .ne 6, 3) := by decide +kernel
theorem dX6_restore_9 : decode cX6_restore 9 = .ok (.bipush (-2), 2) := by decide +kernel
theorem dX6_restore_11 : decode cX6_restore 11 = .ok (.ireturn, 1) := by decide +kernel
theorem dX6_restore_12 : decode cX6_restore 12 = .ok (.aload_n 0, 1) := by decide +kernel
theorem dX6_restore_13 : decode cX6_restore 13 = .ok (.getfield 20, 3) := by decide +kernel
theorem dX6_restore_16 : decode cX6_restore 16 = .ok (.iload_n 1, 1) := by decide +kernel
theorem dX6_restore_17 : decode cX6_restore 17 = .ok (.ishr, 1) := by decide +kernel
theorem dX6_restore_18 : decode cX6_restore 18 = .ok (.iconst 1, 1) := by decide +kernel
theorem dX6_restore_19 : decode cX6_restore 19 = .ok (.iand, 1) := by decide +kernel
theorem dX6_restore_20 : decode cX6_restore 20 = .ok (.ifCond .ne 6, 3) := by decide +kernel
theorem dX6_restore_23 : decode cX6_restore 23 = .ok (.bipush (-3), 2) := by decide +kernel
theorem dX6_restore_25 : decode cX6_restore 25 = .ok (.ireturn, 1) := by decide +kernel
theorem dX6_restore_26 : decode cX6_restore 26 = .ok (.aload_n 0, 1) := by decide +kernel
theorem dX6_restore_27 : decode cX6_restore 27 = .ok (.getfield 12, 3) := by decide +kernel
theorem dX6_restore_30 : decode cX6_restore 30 = .ok (.aload_n 0, 1) := by decide +kernel
theorem dX6_restore_31 : decode cX6_restore 31 = .ok (.getfield 16, 3) := by decide +kernel
theorem dX6_restore_34 : decode cX6_restore 34 = .ok (.iload_n 1, 1) := by decide +kernel
theorem dX6_restore_35 : decode cX6_restore 35 = .ok (.aaload, 1) := by decide +kernel
theorem dX6_restore_36 : decode cX6_restore 36 = .ok (.invokevirtual 210, 3) := by decide +kernel
theorem dX6_restore_39 : decode cX6_restore 39 = .ok (.aload_n 0, 1) := by decide +kernel
theorem dX6_restore_40 : decode cX6_restore 40 = .ok (.iconst 1, 1) := by decide +kernel
theorem dX6_restore_41 : decode cX6_restore 41 = .ok (.putfield 41, 3) := by decide +kernel
theorem dX6_restore_44 : decode cX6_restore 44 = .ok (.iconst 1, 1) := by decide +kernel
theorem dX6_restore_45 : decode cX6_restore 45 = .ok (.ireturn, 1) := by decide +kernel
theorem dX6_count_0 : decode cX6_count 0 = .ok (.iload_n 1, 1) := by decide +kernel
theorem dX6_count_1 : decode cX6_count 1 = .ok (.tableswitch 136 0 12 #[67, 78, 89, 97, 105, 116, 136, 136, 136, 136, 121, 121, 121], 67) := by decide +kernel
theorem dX6_count_68 : decode cX6_count 68 = .ok (.aload_n 0, 1) := by decide +kernel
theorem dX6_count_69 : decode cX6_count 69 = .ok (.getfield 12, 3) := by decide +kernel
theorem dX6_count_72 : decode cX6_count 72 = .ok (.getfield 81, 3) := by decide +kernel
theorem dX6_count_75 : decode cX6_count 75 = .ok (.getfield 94, 3) := by decide +kernel
theorem dX6_count_78 : decode cX6_count 78 = .ok (.ireturn, 1) := by decide +kernel
theorem dX6_count_79 : decode cX6_count 79 = .ok (.aload_n 0, 1) := by decide +kernel
theorem dX6_count_80 : decode cX6_count 80 = .ok (.getfield 12, 3) := by decide +kernel
theorem dX6_count_83 : decode cX6_count 83 = .ok (.getfield 53, 3) := by decide +kernel
theorem dX6_count_86 : decode cX6_count 86 = .ok (.getfield 63, 3) := by decide +kernel
theorem dX6_count_89 : decode cX6_count 89 = .ok (.ireturn, 1) := by decide +kernel
theorem dX6_count_90 : decode cX6_count 90 = .ok (.aload_n 0, 1) := by decide +kernel
theorem dX6_count_91 : decode cX6_count 91 = .ok (.getfield 12, 3) := by decide +kernel
theorem dX6_count_94 : decode cX6_count 94 = .ok (.getfield 207, 3) := by decide +kernel
theorem dX6_count_97 : decode cX6_count 97 = .ok (.ireturn, 1) := by decide +kernel
theorem dX6_count_98 : decode cX6_count 98 = .ok (.aload_n 0, 1) := by decide +kernel
theorem dX6_count_99 : decode cX6_count 99 = .ok (.getfield 12, 3) := by decide +kernel
theorem dX6_count_102 : decode cX6_count 102 = .ok (.getfield 201, 3) := by decide +kernel
theorem dX6_count_105 : decode cX6_count 105 = .ok (.ireturn, 1) := by decide +kernel
theorem dX6_count_106 : decode cX6_count 106 = .ok (.aload_n 0, 1) := by decide +kernel
theorem dX6_count_107 : decode cX6_count 107 = .ok (.getfield 12, 3) := by decide +kernel
theorem dX6_count_110 : decode cX6_count 110 = .ok (.getfield 81, 3) := by decide +kernel
theorem dX6_count_113 : decode cX6_count 113 = .ok (.invokevirtual 214, 3) := by decide +kernel
theorem dX6_count_116 : decode cX6_count 116 = .ok (.ireturn, 1) := by decide +kernel
theorem dX6_count_117 : decode cX6_count 117 = .ok (.aload_n 0, 1) := by decide +kernel
theorem dX6_count_118 : decode cX6_count 118 = .ok (.getfield 20, 3) := by decide +kernel
theorem dX6_count_121 : decode cX6_count 121 = .ok (.ireturn, 1) := by decide +kernel
theorem dX6_count_122 : decode cX6_count 122 = .ok (.aload_n 0, 1) := by decide +kernel
theorem dX6_count_123 : decode cX6_count 123 = .ok (.getfield 12, 3) := by decide +kernel
theorem dX6_count_126 : decode cX6_count 126 = .ok (.getfield 81, 3) := by decide +kernel
theorem dX6_count_129 : decode cX6_count 129 = .ok (.iload_n 1, 1) := by decide +kernel
theorem dX6_count_130 : decode cX6_count 130 = .ok (.bipush 10, 2) := by decide +kernel
theorem dX6_count_132 : decode cX6_count 132 = .ok (.isub, 1) := by decide +kernel
theorem dX6_count_133 : decode cX6_count 133 = .ok (.invokevirtual 217, 3) := by decide +kernel
theorem dX6_count_136 : decode cX6_count 136 = .ok (.ireturn, 1) := by decide +kernel
theorem dX6_count_137 : decode cX6_count 137 = .ok (.bipush (-2), 2) := by decide +kernel
theorem dX6_count_139 : decode cX6_count 139 = .ok (.ireturn, 1) := by decide +kernel
theorem dX6_isWithin_0 : decode cX6_isWithin 0 = .ok (.iload_n 0, 1) := by decide +kernel
theorem dX6_isWithin_1 : decode cX6_isWithin 1 = .ok (.iload_n 1, 1) := by decide +kernel
theorem dX6_isWithin_2 : decode cX6_isWithin 2 = .ok (.if_icmp .lt 12, 3) := by decide +kernel
theorem dX6_isWithin_5 : decode cX6_isWithin 5 = .ok (.iload_n 0, 1) := by decide +kernel
theorem dX6_isWithin_6 : decode cX6_isWithin 6 = .ok (.iload_n 2, 1) := by decide +kernel
theorem dX6_isWithin_7 : decode cX6_isWithin 7 = .ok (.if_icmp .gt 7, 3) := by decide +kernel
theorem dX6_isWithin_10 : decode cX6_isWithin 10 = .ok (.iconst 1, 1) := by decide +kernel
theorem dX6_isWithin_11 : decode cX6_isWithin 11 = .ok (.goto 4, 3) := by decide +kernel
theorem dX6_isWithin_14 : decode cX6_isWithin 14 = .ok (.iconst 0, 1) := by decide +kernel
theorem dX6_isWithin_15 : decode cX6_isWithin 15 = .ok (.ireturn, 1) := by decide +kernel
theorem dX6_isTick_0 : decode cX6_isTick 0 = .ok (.iload_n 0, 1) := by decide +kernel
theorem dX6_isTick_1 : decode cX6_isTick 1 = .ok (.iconst 0, 1) := by decide +kernel
theorem dX6_isTick_2 : decode cX6_isTick 2 = .ok (.sipush 300, 3) := by decide +kernel
theorem dX6_isTick_5 : decode cX6_isTick 5 = .ok (.invokestatic 49, 3) := by decide +kernel
theorem dX6_isTick_8 : decode cX6_isTick 8 = .ok (.ireturn, 1) := by decide +kernel
theorem dX6_isArm_0 : decode cX6_isArm 0 = .ok (.iload_n 0, 1) := by decide +kernel
theorem dX6_isArm_1 : decode cX6_isArm 1 = .ok (.iconst 0, 1) := by decide +kernel
theorem dX6_isArm_2 : decode cX6_isArm 2 = .ok (.iconst 3, 1) := by decide +kernel
theorem dX6_isArm_3 : decode cX6_isArm 3 = .ok (.invokestatic 49, 3) := by decide +kernel
theorem dX6_isArm_6 : decode cX6_isArm 6 = .ok (.ireturn, 1) := by decide +kernel
theorem dX6_isThing_0 : decode cX6_isThing 0 = .ok (.iload_n 1, 1) := by decide +kernel
theorem dX6_isThing_1 : decode cX6_isThing 1 = .ok (.iconst 0, 1) := by decide +kernel
theorem dX6_isThing_2 : decode cX6_isThing 2 = .ok (.aload_n 0, 1) := by decide +kernel
theorem dX6_isThing_3 : decode cX6_isThing 3 = .ok (.getfield 12, 3) := by decide +kernel
theorem dX6_isThing_6 : decode cX6_isThing 6 = .ok (.getfield 81, 3) := by decide +kernel
theorem dX6_isThing_9 : decode cX6_isThing 9 = .ok (.getfield 94, 3) := by decide +kernel
theorem dX6_isThing_12 : decode cX6_isThing 12 = .ok (.iconst 1, 1) := by decide +kernel
theorem dX6_isThing_13 : decode cX6_isThing 13 = .ok (.isub, 1) := by decide +kernel
theorem dX6_isThing_14 : decode cX6_isThing 14 = .ok (.invokestatic 49, 3) := by decide +kernel
theorem dX6_isThing_17 : decode cX6_isThing 17 = .ok (.ireturn, 1) := by decide +kernel
theorem dX6_freshPlan_0 : decode cX6_freshPlan 0 = .ok (.aload_n 0, 1) := by decide +kernel
theorem dX6_freshPlan_1 : decode cX6_freshPlan 1 = .ok (.getfield 41, 3) := by decide +kernel
theorem dX6_freshPlan_4 : decode cX6_freshPlan 4 = .ok (.ifCond .eq 42, 3) := by decide +kernel
theorem dX6_freshPlan_7 : decode cX6_freshPlan 7 = .ok (.aload_n 0, 1) := by decide +kernel
theorem dX6_freshPlan_8 : decode cX6_freshPlan 8 = .ok (.getfield 27, 3) := by decide +kernel
theorem dX6_freshPlan_11 : decode cX6_freshPlan 11 = .ok (.aload_n 0, 1) := by decide +kernel
theorem dX6_freshPlan_12 : decode cX6_freshPlan 12 = .ok (.getfield 12, 3) := by decide +kernel
theorem dX6_freshPlan_15 : decode cX6_freshPlan 15 = .ok (.iconst (-1), 1) := by decide +kernel
theorem dX6_freshPlan_16 : decode cX6_freshPlan 16 = .ok (.invokevirtual 178, 3) := by decide +kernel
theorem dX6_freshPlan_19 : decode cX6_freshPlan 19 = .ok (.aload_n 0, 1) := by decide +kernel
theorem dX6_freshPlan_20 : decode cX6_freshPlan 20 = .ok (.getfield 27, 3) := by decide +kernel
theorem dX6_freshPlan_23 : decode cX6_freshPlan 23 = .ok (.invokevirtual 220, 3) := by decide +kernel
theorem dX6_freshPlan_26 : decode cX6_freshPlan 26 = .ok (.aload_n 0, 1) := by decide +kernel
theorem dX6_freshPlan_27 : decode cX6_freshPlan 27 = .ok (.getfield 37, 3) := by decide +kernel
theorem dX6_freshPlan_30 : decode cX6_freshPlan 30 = .ok (.aload_n 0, 1) := by decide +kernel
theorem dX6_freshPlan_31 : decode cX6_freshPlan 31 = .ok (.getfield 27, 3) := by decide +kernel
theorem dX6_freshPlan_34 : decode cX6_freshPlan 34 = .ok (.aload_n 0, 1) := by decide +kernel
theorem dX6_freshPlan_35 : decode cX6_freshPlan 35 = .ok (.getfield 12, 3) := by decide +kernel
theorem dX6_freshPlan_38 : decode cX6_freshPlan 38 = .ok (.invokevirtual 223, 3) := by decide +kernel
theorem dX6_freshPlan_41 : decode cX6_freshPlan 41 = .ok (.aload_n 0, 1) := by decide +kernel
theorem dX6_freshPlan_42 : decode cX6_freshPlan 42 = .ok (.iconst 0, 1) := by decide +kernel
theorem dX6_freshPlan_43 : decode cX6_freshPlan 43 = .ok (.putfield 41, 3) := by decide +kernel
theorem dX6_freshPlan_46 : decode cX6_freshPlan 46 = .ok (.aload_n 0, 1) := by decide +kernel
theorem dX6_freshPlan_47 : decode cX6_freshPlan 47 = .ok (.getfield 27, 3) := by decide +kernel
theorem dX6_freshPlan_50 : decode cX6_freshPlan 50 = .ok (.areturn, 1) := by decide +kernel
theorem dX7_init_0 : decode cX7_init 0 = .ok (.aload_n 0, 1) := by decide +kernel
theorem dX7_init_1 : decode cX7_init 1 = .ok (.invokespecial 1, 3) := by decide +kernel
theorem dX7_init_4 : decode cX7_init 4 = .ok (.aload_n 0, 1) := by decide +kernel
theorem dX7_init_5 : decode cX7_init 5 = .ok (.sipush 6424, 3) := by decide +kernel
theorem dX7_init_8 : decode cX7_init 8 = .ok (.newarray .int, 2) := by decide +kernel
theorem dX7_init_10 : decode cX7_init 10 = .ok (.putfield 7, 3) := by decide +kernel
theorem dX7_init_13 : decode cX7_init 13 = .ok (.aload_n 0, 1) := by decide +kernel
theorem dX7_init_14 : decode cX7_init 14 = .ok (.sipush 12848, 3) := by decide +kernel
theorem dX7_init_17 : decode cX7_init 17 = .ok (.newarray .int, 2) := by decide +kernel
theorem dX7_init_19 : decode cX7_init 19 = .ok (.putfield 13, 3) := by decide +kernel
theorem dX7_init_22 : decode cX7_init 22 = .ok (.aload_n 0, 1) := by decide +kernel
theorem dX7_init_23 : decode cX7_init 23 = .ok (.iconst 2, 1) := by decide +kernel
theorem dX7_init_24 : decode cX7_init 24 = .ok (.newarray .boolean, 2) := by decide +kernel
theorem dX7_init_26 : decode cX7_init 26 = .ok (.putfield 16, 3) := by decide +kernel
theorem dX7_init_29 : decode cX7_init 29 = .ok (.aload_n 0, 1) := by decide +kernel
theorem dX7_init_30 : decode cX7_init 30 = .ok (.sipush 301, 3) := by decide +kernel
theorem dX7_init_33 : decode cX7_init 33 = .ok (.newarray .int, 2) := by decide +kernel
theorem dX7_init_35 : decode cX7_init 35 = .ok (.putfield 20, 3) := by decide +kernel
theorem dX7_init_38 : decode cX7_init 38 = .ok (.aload_n 0, 1) := by decide +kernel
theorem dX7_init_39 : decode cX7_init 39 = .ok (.sipush 6020, 3) := by decide +kernel
theorem dX7_init_42 : decode cX7_init 42 = .ok (.newarray .int, 2) := by decide +kernel
theorem dX7_init_44 : decode cX7_init 44 = .ok (.putfield 23, 3) := by decide +kernel
theorem dX7_init_47 : decode cX7_init 47 = .ok (.aload_n 0, 1) := by decide +kernel
theorem dX7_init_48 : decode cX7_init 48 = .ok (.sipush 1204, 3) := by decide +kernel
theorem dX7_init_51 : decode cX7_init 51 = .ok (.newarray .int, 2) := by decide +kernel
theorem dX7_init_53 : decode cX7_init 53 = .ok (.putfield 26, 3) := by decide +kernel
theorem dX7_init_56 : decode cX7_init 56 = .ok (.aload_n 0, 1) := by decide +kernel
theorem dX7_init_57 : decode cX7_init 57 = .ok (.sipush 1204, 3) := by decide +kernel
theorem dX7_init_60 : decode cX7_init 60 = .ok (.newarray .boolean, 2) := by decide +kernel
theorem dX7_init_62 : decode cX7_init 62 = .ok (.putfield 29, 3) := by decide +kernel
theorem dX7_init_65 : decode cX7_init 65 = .ok (.aload_n 0, 1) := by decide +kernel
theorem dX7_init_66 : decode cX7_init 66 = .ok (.bipush 20, 2) := by decide +kernel
theorem dX7_init_68 : decode cX7_init 68 = .ok (.newarray .boolean, 2) := by decide +kernel
theorem dX7_init_70 : decode cX7_init 70 = .ok (.putfield 32, 3) := by decide +kernel
theorem dX7_init_73 : decode cX7_init 73 = .ok (.aload_n 0, 1) := by decide +kernel
theorem dX7_init_74 : decode cX7_init 74 = .ok (.bipush 20, 2) := by decide +kernel
theorem dX7_init_76 : decode cX7_init 76 = .ok (.newarray .int, 2) := by decide +kernel
theorem dX7_init_78 : decode cX7_init 78 = .ok (.putfield 35, 3) := by decide +kernel
theorem dX7_init_81 : decode cX7_init 81 = .ok (.aload_n 0, 1) := by decide +kernel
theorem dX7_init_82 : decode cX7_init 82 = .ok (.sipush 1204, 3) := by decide +kernel
theorem dX7_init_85 : decode cX7_init 85 = .ok (.newarray .int, 2) := by decide +kernel
theorem dX7_init_87 : decode cX7_init 87 = .ok (.putfield 38, 3) := by decide +kernel
theorem dX7_init_90 : decode cX7_init 90 = .ok (.aload_n 0, 1) := by decide +kernel
theorem dX7_init_91 : decode cX7_init 91 = .ok (.bipush 20, 2) := by decide +kernel
theorem dX7_init_93 : decode cX7_init 93 = .ok (.newarray .int, 2) := by decide +kernel
theorem dX7_init_95 : decode cX7_init 95 = .ok (.putfield 41, 3) := by decide +kernel
theorem dX7_init_98 : decode cX7_init 98 = .ok (.aload_n 0, 1) := by decide +kernel
theorem dX7_init_99 : decode cX7_init 99 = .ok (.bipush 20, 2) := by decide +kernel
theorem dX7_init_101 : decode cX7_init 101 = .ok (.newarray .int, 2) := by decide +kernel
theorem dX7_init_103 : decode cX7_init 103 = .ok (.putfield 44, 3) := by decide +kernel
theorem dX7_init_106 : decode cX7_init 106 = .ok (.aload_n 0, 1) := by decide +kernel
theorem dX7_init_107 : decode cX7_init 107 = .ok (.bipush 20, 2) := by decide +kernel
theorem dX7_init_109 : decode cX7_init 109 = .ok (.newarray .int, 2) := by decide +kernel
theorem dX7_init_111 : decode cX7_init 111 = .ok (.putfield 47, 3) := by decide +kernel
theorem dX7_init_114 : decode cX7_init 114 = .ok (.aload_n 0, 1) := by decide +kernel
theorem dX7_init_115 : decode cX7_init 115 = .ok (.bipush 18, 2) := by decide +kernel
theorem dX7_init_117 : decode cX7_init 117 = .ok (.newarray .int, 2) := by decide +kernel
theorem dX7_init_119 : decode cX7_init 119 = .ok (.putfield 50, 3) := by decide +kernel
theorem dX7_init_122 : decode cX7_init 122 = .ok (.aload_n 0, 1) := by decide +kernel
theorem dX7_init_123 : decode cX7_init 123 = .ok (.bipush 20, 2) := by decide +kernel
theorem dX7_init_125 : decode cX7_init 125 = .ok (.newarray .int, 2) := by decide +kernel
theorem dX7_init_127 : decode cX7_init 127 = .ok (.putfield 53, 3) := by decide +kernel
theorem dX7_init_130 : decode cX7_init 130 = .ok (.iconst 0, 1) := by decide +kernel
theorem dX7_init_131 : decode cX7_init 131 = .ok (.istore_n 1, 1) := by decide +kernel
theorem dX7_init_132 : decode cX7_init 132 = .ok (.iload_n 1, 1) := by decide +kernel
theorem dX7_init_133 : decode cX7_init 133 = .ok (.sipush 301, 3) := by decide +kernel
theorem dX7_init_136 : decode cX7_init 136 = .ok (.if_icmp .ge 27, 3) := by decide +kernel
theorem dX7_init_139 : decode cX7_init 139 = .ok (.aload_n 0, 1) := by decide +kernel
theorem dX7_init_140 : decode cX7_init 140 = .ok (.getfield 7, 3) := by decide +kernel
theorem dX7_init_143 : decode cX7_init 143 = .ok (.iconst 0, 1) := by decide +kernel
theorem dX7_init_144 : decode cX7_init 144 = .ok (.iload_n 1, 1) := by decide +kernel
theorem dX7_init_145 : decode cX7_init 145 = .ok (.iadd, 1) := by decide +kernel
theorem dX7_init_146 : decode cX7_init 146 = .ok (.iload_n 1, 1) := by decide +kernel
theorem dX7_init_147 : decode cX7_init 147 = .ok (.ifCond .ne 7, 3) := by decide +kernel
theorem dX7_init_150 : decode cX7_init 150 = .ok (.iconst 2, 1) := by decide +kernel
theorem dX7_init_151 : decode cX7_init 151 = .ok (.goto 5, 3) := by decide +kernel
theorem dX7_init_154 : decode cX7_init 154 = .ok (.bipush (-6), 2) := by decide +kernel
theorem dX7_init_156 : decode cX7_init 156 = .ok (.iastore, 1) := by decide +kernel
theorem dX7_init_157 : decode cX7_init 157 = .ok (.iinc 1 1, 3) := by decide +kernel
theorem dX7_init_160 : decode cX7_init 160 = .ok (.goto (-28), 3) := by decide +kernel
theorem dX7_init_163 : decode cX7_init 163 = .ok (.iconst 0, 1) := by decide +kernel
theorem dX7_init_164 : decode cX7_init 164 = .ok (.istore_n 1, 1) := by decide +kernel
theorem dX7_init_165 : decode cX7_init 165 = .ok (.iload_n 1, 1) := by decide +kernel
theorem dX7_init_166 : decode cX7_init 166 = .ok (.iconst 4, 1) := by decide +kernel
theorem dX7_init_167 : decode cX7_init 167 = .ok (.if_icmp .ge 67, 3) := by decide +kernel
theorem dX7_init_170 : decode cX7_init 170 = .ok (.aload_n 0, 1) := by decide +kernel
theorem dX7_init_171 : decode cX7_init 171 = .ok (.getfield 7, 3) := by decide +kernel
theorem dX7_init_174 : decode cX7_init 174 = .ok (.sipush 6401, 3) := by decide +kernel
theorem dX7_init_177 : decode cX7_init 177 = .ok (.iload_n 1, 1) := by decide +kernel
theorem dX7_init_178 : decode cX7_init 178 = .ok (.iadd, 1) := by decide +kernel
theorem dX7_init_179 : decode cX7_init 179 = .ok (.bipush 100, 2) := by decide +kernel
theorem dX7_init_181 : decode cX7_init 181 = .ok (.iload_n 1, 1) := by decide +kernel
theorem dX7_init_182 : decode cX7_init 182 = .ok (.imul, 1) := by decide +kernel
theorem dX7_init_183 : decode cX7_init 183 = .ok (.bipush 100, 2) := by decide +kernel
theorem dX7_init_185 : decode cX7_init 185 = .ok (.iadd, 1) := by decide +kernel
theorem dX7_init_186 : decode cX7_init 186 = .ok (.iastore, 1) := by decide +kernel
theorem dX7_init_187 : decode cX7_init 187 = .ok (.aload_n 0, 1) := by decide +kernel
theorem dX7_init_188 : decode cX7_init 188 = .ok (.getfield 7, 3) := by decide +kernel
theorem dX7_init_191 : decode cX7_init 191 = .ok (.sipush 6405, 3) := by decide +kernel
theorem dX7_init_194 : decode cX7_init 194 = .ok (.iload_n 1, 1) := by decide +kernel
theorem dX7_init_195 : decode cX7_init 195 = .ok (.iadd, 1) := by decide +kernel
theorem dX7_init_196 : decode cX7_init 196 = .ok (.bipush 100, 2) := by decide +kernel
theorem dX7_init_198 : decode cX7_init 198 = .ok (.iload_n 1, 1) := by decide +kernel
theorem dX7_init_199 : decode cX7_init 199 = .ok (.imul, 1) := by decide +kernel
theorem dX7_init_200 : decode cX7_init 200 = .ok (.sipush 160, 3) := by decide +kernel
theorem dX7_init_203 : decode cX7_init 203 = .ok (.iadd, 1) := by decide +kernel
theorem dX7_init_204 : decode cX7_init 204 = .ok (.iastore, 1) := by decide +kernel
theorem dX7_init_205 : decode cX7_init 205 = .ok (.aload_n 0, 1) := by decide +kernel
theorem dX7_init_206 : decode cX7_init 206 = .ok (.getfield 7, 3) := by decide +kernel
theorem dX7_init_209 : decode cX7_init 209 = .ok (.sipush 6409, 3) := by decide +kernel
theorem dX7_init_212 : decode cX7_init 212 = .ok (.iload_n 1, 1) := by decide +kernel
theorem dX7_init_213 : decode cX7_init 213 = .ok (.iadd, 1) := by decide +kernel
theorem dX7_init_214 : decode cX7_init 214 = .ok (.iconst 5, 1) := by decide +kernel
theorem dX7_init_215 : decode cX7_init 215 = .ok (.iastore, 1) := by decide +kernel
theorem dX7_init_216 : decode cX7_init 216 = .ok (.aload_n 0, 1) := by decide +kernel
theorem dX7_init_217 : decode cX7_init 217 = .ok (.getfield 7, 3) := by decide +kernel
theorem dX7_init_220 : decode cX7_init 220 = .ok (.sipush 6417, 3) := by decide +kernel
theorem dX7_init_223 : decode cX7_init 223 = .ok (.iload_n 1, 1) := by decide +kernel
theorem dX7_init_224 : decode cX7_init 224 = .ok (.iadd, 1) := by decide +kernel
theorem dX7_init_225 : decode cX7_init 225 = .ok (.bipush 15, 2) := by decide +kernel
theorem dX7_init_227 : decode cX7_init 227 = .ok (.iastore, 1) := by decide +kernel
theorem dX7_init_228 : decode cX7_init 228 = .ok (.iinc 1 1, 3) := by decide +kernel
theorem dX7_init_231 : decode cX7_init 231 = .ok (.goto (-66), 3) := by decide +kernel
theorem dX7_init_234 : decode cX7_init 234 = .ok (.aload_n 0, 1) := by decide +kernel
theorem dX7_init_235 : decode cX7_init 235 = .ok (.getfield 7, 3) := by decide +kernel
theorem dX7_init_238 : decode cX7_init 238 = .ok (.sipush 6421, 3) := by decide +kernel
theorem dX7_init_241 : decode cX7_init 241 = .ok (.iconst 3, 1) := by decide +kernel
theorem dX7_init_242 : decode cX7_init 242 = .ok (.iastore, 1) := by decide +kernel
theorem dX7_init_243 : decode cX7_init 243 = .ok (.aload_n 0, 1) := by decide +kernel
theorem dX7_init_244 : decode cX7_init 244 = .ok (.getfield 7, 3) := by decide +kernel
theorem dX7_init_247 : decode cX7_init 247 = .ok (.sipush 6422, 3) := by decide +kernel
theorem dX7_init_250 : decode cX7_init 250 = .ok (.iconst 2, 1) := by decide +kernel
theorem dX7_init_251 : decode cX7_init 251 = .ok (.iastore, 1) := by decide +kernel
theorem dX7_init_252 : decode cX7_init 252 = .ok (.return_, 1) := by decide +kernel
theorem dX7_in_0 : decode cX7_in 0 = .ok (.iload_n 0, 1) := by decide +kernel
theorem dX7_in_1 : decode cX7_in 1 = .ok (.iload_n 1, 1) := by decide +kernel
theorem dX7_in_2 : decode cX7_in 2 = .ok (.if_icmp .lt 12, 3) := by decide +kernel
theorem dX7_in_5 : decode cX7_in 5 = .ok (.iload_n 0, 1) := by decide +kernel
theorem dX7_in_6 : decode cX7_in 6 = .ok (.iload_n 2, 1) := by decide +kernel
theorem dX7_in_7 : decode cX7_in 7 = .ok (.if_icmp .gt 7, 3) := by decide +kernel
theorem dX7_in_10 : decode cX7_in 10 = .ok (.iconst 1, 1) := by decide +kernel
theorem dX7_in_11 : decode cX7_in 11 = .ok (.goto 4, 3) := by decide +kernel
theorem dX7_in_14 : decode cX7_in 14 = .ok (.iconst 0, 1) := by decide +kernel
theorem dX7_in_15 : decode cX7_in 15 = .ok (.ireturn, 1) := by decide +kernel
theorem dX7_isTick_0 : decode cX7_isTick 0 = .ok (.iload_n 0, 1) := by decide +kernel
theorem dX7_isTick_1 : decode cX7_isTick 1 = .ok (.iconst 0, 1) := by decide +kernel
theorem dX7_isTick_2 : decode cX7_isTick 2 = .ok (.sipush 300, 3) := by decide +kernel
theorem dX7_isTick_5 : decode cX7_isTick 5 = .ok (.invokestatic 56, 3) := by decide +kernel
theorem dX7_isTick_8 : decode cX7_isTick 8 = .ok (.ireturn, 1) := by decide +kernel
theorem dX7_isThing_0 : decode cX7_isThing 0 = .ok (.iload_n 1, 1) := by decide +kernel
theorem dX7_isThing_1 : decode cX7_isThing 1 = .ok (.iconst 0, 1) := by decide +kernel
theorem dX7_isThing_2 : decode cX7_isThing 2 = .ok (.aload_n 0, 1) := by decide +kernel
theorem dX7_isThing_3 : decode cX7_isThing 3 = .ok (.getfield 7, 3) := by decide +kernel
theorem dX7_isThing_6 : decode cX7_isThing 6 = .ok (.sipush 6423, 3) := by decide +kernel
theorem dX7_isThing_9 : decode cX7_isThing 9 = .ok (.iaload, 1) := by decide +kernel
theorem dX7_isThing_10 : decode cX7_isThing 10 = .ok (.iconst 1, 1) := by decide +kernel
theorem dX7_isThing_11 : decode cX7_isThing 11 = .ok (.isub, 1) := by decide +kernel
theorem dX7_isThing_12 : decode cX7_isThing 12 = .ok (.invokestatic 56, 3) := by decide +kernel
theorem dX7_isThing_15 : decode cX7_isThing 15 = .ok (.ireturn, 1) := by decide +kernel
end
section
theorem dX7_isArm_0 : decode cX7_isArm 0 = .ok (.iload_n 0, 1) := by decide +kernel
theorem dX7_isArm_1 : decode cX7_isArm 1 = .ok (.iconst 0, 1) := by decide +kernel
theorem dX7_isArm_2 : decode cX7_isArm 2 = .ok (.iconst 3, 1) := by decide +kernel
theorem dX7_isArm_3 : decode cX7_isArm 3 = .ok (.invokestatic 56, 3) := by decide +kernel
theorem dX7_isArm_6 : decode cX7_isArm 6 = .ok (.ireturn, 1) := by decide +kernel
theorem dX7_size_0 : decode cX7_size 0 = .ok (.iload_n 0, 1) := by decide +kernel
theorem dX7_size_1 : decode cX7_size 1 = .ok (.ifCond .ge 8, 3) := by decide +kernel
theorem dX7_size_4 : decode cX7_size 4 = .ok (.iload_n 0, 1) := by decide +kernel
theorem dX7_size_5 : decode cX7_size 5 = .ok (.ineg, 1) := by decide +kernel
theorem dX7_size_6 : decode cX7_size 6 = .ok (.goto 4, 3) := by decide +kernel
theorem dX7_size_9 : decode cX7_size 9 = .ok (.iload_n 0, 1) := by decide +kernel
theorem dX7_size_10 : decode cX7_size 10 = .ok (.ireturn, 1) := by decide +kernel
theorem dX7_changes_0 : decode cX7_changes 0 = .ok (.iconst 0, 1) := by decide +kernel
theorem dX7_changes_1 : decode cX7_changes 1 = .ok (.istore_n 1, 1) := by decide +kernel
theorem dX7_changes_2 : decode cX7_changes 2 = .ok (.iconst 1, 1) := by decide +kernel
theorem dX7_changes_3 : decode cX7_changes 3 = .ok (.istore_n 2, 1) := by decide +kernel
theorem dX7_changes_4 : decode cX7_changes 4 = .ok (.iload_n 2, 1) := by decide +kernel
theorem dX7_changes_5 : decode cX7_changes 5 = .ok (.sipush 301, 3) := by decide +kernel
theorem dX7_changes_8 : decode cX7_changes 8 = .ok (.if_icmp .ge 28, 3) := by decide +kernel
theorem dX7_changes_11 : decode cX7_changes 11 = .ok (.iload_n 1, 1) := by decide +kernel
theorem dX7_changes_12 : decode cX7_changes 12 = .ok (.aload_n 0, 1) := by decide +kernel
theorem dX7_changes_13 : decode cX7_changes 13 = .ok (.getfield 7, 3) := by decide +kernel
theorem dX7_changes_16 : decode cX7_changes 16 = .ok (.iconst 0, 1) := by decide +kernel
theorem dX7_changes_17 : decode cX7_changes 17 = .ok (.iload_n 2, 1) := by decide +kernel
theorem dX7_changes_18 : decode cX7_changes 18 = .ok (.iadd, 1) := by decide +kernel
theorem dX7_changes_19 : decode cX7_changes 19 = .ok (.iaload, 1) := by decide +kernel
theorem dX7_changes_20 : decode cX7_changes 20 = .ok (.ifCond .lt 7, 3) := by decide +kernel
theorem dX7_changes_23 : decode cX7_changes 23 = .ok (.iconst 1, 1) := by decide +kernel
theorem dX7_changes_24 : decode cX7_changes 24 = .ok (.goto 4, 3) := by decide +kernel
theorem dX7_changes_27 : decode cX7_changes 27 = .ok (.iconst 0, 1) := by decide +kernel
theorem dX7_changes_28 : decode cX7_changes 28 = .ok (.iadd, 1) := by decide +kernel
theorem dX7_changes_29 : decode cX7_changes 29 = .ok (.istore_n 1, 1) := by decide +kernel
theorem dX7_changes_30 : decode cX7_changes 30 = .ok (.iinc 2 1, 3) := by decide +kernel
theorem dX7_changes_33 : decode cX7_changes 33 = .ok (.goto (-29), 3) := by decide +kernel
theorem dX7_changes_36 : decode cX7_changes 36 = .ok (.iload_n 1, 1) := by decide +kernel
theorem dX7_changes_37 : decode cX7_changes 37 = .ok (.ireturn, 1) := by decide +kernel
theorem dX7_speedAt_0 : decode cX7_speedAt 0 = .ok (.iload_n 1, 1) := by decide +kernel
theorem dX7_speedAt_1 : decode cX7_speedAt 1 = .ok (.istore_n 2, 1) := by decide +kernel
theorem dX7_speedAt_2 : decode cX7_speedAt 2 = .ok (.aload_n 0, 1) := by decide +kernel
theorem dX7_speedAt_3 : decode cX7_speedAt 3 = .ok (.getfield 7, 3) := by decide +kernel
theorem dX7_speedAt_6 : decode cX7_speedAt 6 = .ok (.iconst 0, 1) := by decide +kernel
theorem dX7_speedAt_7 : decode cX7_speedAt 7 = .ok (.iload_n 2, 1) := by decide +kernel
theorem dX7_speedAt_8 : decode cX7_speedAt 8 = .ok (.iadd, 1) := by decide +kernel
theorem dX7_speedAt_9 : decode cX7_speedAt 9 = .ok (.iaload, 1) := by decide +kernel
theorem dX7_speedAt_10 : decode cX7_speedAt 10 = .ok (.ifCond .ge 9, 3) := by decide +kernel
theorem dX7_speedAt_13 : decode cX7_speedAt 13 = .ok (.iinc 2 (-1), 3) := by decide +kernel
theorem dX7_speedAt_16 : decode cX7_speedAt 16 = .ok (.goto (-14), 3) := by decide +kernel
theorem dX7_speedAt_19 : decode cX7_speedAt 19 = .ok (.aload_n 0, 1) := by decide +kernel
theorem dX7_speedAt_20 : decode cX7_speedAt 20 = .ok (.getfield 7, 3) := by decide +kernel
theorem dX7_speedAt_23 : decode cX7_speedAt 23 = .ok (.iconst 0, 1) := by decide +kernel
theorem dX7_speedAt_24 : decode cX7_speedAt 24 = .ok (.iload_n 2, 1) := by decide +kernel
theorem dX7_speedAt_25 : decode cX7_speedAt 25 = .ok (.iadd, 1) := by decide +kernel
theorem dX7_speedAt_26 : decode cX7_speedAt 26 = .ok (.iaload, 1) := by decide +kernel
theorem dX7_speedAt_27 : decode cX7_speedAt 27 = .ok (.ireturn, 1) := by decide +kernel
theorem dX7_speed_0 : decode cX7_speed 0 = .ok (.iload_n 1, 1) := by decide +kernel
theorem dX7_speed_1 : decode cX7_speed 1 = .ok (.invokestatic 60, 3) := by decide +kernel
theorem dX7_speed_4 : decode cX7_speed 4 = .ok (.ifCond .eq 13, 3) := by decide +kernel
theorem dX7_speed_7 : decode cX7_speed 7 = .ok (.iload_n 2, 1) := by decide +kernel
theorem dX7_speed_8 : decode cX7_speed 8 = .ok (.iconst 0, 1) := by decide +kernel
theorem dX7_speed_9 : decode cX7_speed 9 = .ok (.bipush 9, 2) := by decide +kernel
theorem dX7_speed_11 : decode cX7_speed 11 = .ok (.invokestatic 56, 3) := by decide +kernel
theorem dX7_speed_14 : decode cX7_speed 14 = .ok (.ifCond .ne 6, 3) := by decide +kernel
theorem dX7_speed_17 : decode cX7_speed 17 = .ok (.bipush (-2), 2) := by decide +kernel
theorem dX7_speed_19 : decode cX7_speed 19 = .ok (.ireturn, 1) := by decide +kernel
theorem dX7_speed_20 : decode cX7_speed 20 = .ok (.aload_n 0, 1) := by decide +kernel
theorem dX7_speed_21 : decode cX7_speed 21 = .ok (.getfield 7, 3) := by decide +kernel
theorem dX7_speed_24 : decode cX7_speed 24 = .ok (.iconst 0, 1) := by decide +kernel
theorem dX7_speed_25 : decode cX7_speed 25 = .ok (.iload_n 1, 1) := by decide +kernel
theorem dX7_speed_26 : decode cX7_speed 26 = .ok (.iadd, 1) := by decide +kernel
theorem dX7_speed_27 : decode cX7_speed 27 = .ok (.iaload, 1) := by decide +kernel
theorem dX7_speed_28 : decode cX7_speed 28 = .ok (.ifCond .ge 15, 3) := by decide +kernel
theorem dX7_speed_31 : decode cX7_speed 31 = .ok (.aload_n 0, 1) := by decide +kernel
theorem dX7_speed_32 : decode cX7_speed 32 = .ok (.invokevirtual 64, 3) := by decide +kernel
theorem dX7_speed_35 : decode cX7_speed 35 = .ok (.bipush 8, 2) := by decide +kernel
theorem dX7_speed_37 : decode cX7_speed 37 = .ok (.if_icmp .ne 6, 3) := by decide +kernel
theorem dX7_speed_40 : decode cX7_speed 40 = .ok (.bipush (-4), 2) := by decide +kernel
theorem dX7_speed_42 : decode cX7_speed 42 = .ok (.ireturn, 1) := by decide +kernel
theorem dX7_speed_43 : decode cX7_speed 43 = .ok (.aload_n 0, 1) := by decide +kernel
theorem dX7_speed_44 : decode cX7_speed 44 = .ok (.iload_n 1, 1) := by decide +kernel
theorem dX7_speed_45 : decode cX7_speed 45 = .ok (.invokevirtual 68, 3) := by decide +kernel
theorem dX7_speed_48 : decode cX7_speed 48 = .ok (.istore_n 3, 1) := by decide +kernel
theorem dX7_speed_49 : decode cX7_speed 49 = .ok (.aload_n 0, 1) := by decide +kernel
theorem dX7_speed_50 : decode cX7_speed 50 = .ok (.getfield 7, 3) := by decide +kernel
theorem dX7_speed_53 : decode cX7_speed 53 = .ok (.iconst 0, 1) := by decide +kernel
theorem dX7_speed_54 : decode cX7_speed 54 = .ok (.iload_n 1, 1) := by decide +kernel
theorem dX7_speed_55 : decode cX7_speed 55 = .ok (.iadd, 1) := by decide +kernel
theorem dX7_speed_56 : decode cX7_speed 56 = .ok (.iload_n 2, 1) := by decide +kernel
theorem dX7_speed_57 : decode cX7_speed 57 = .ok (.iastore, 1) := by decide +kernel
theorem dX7_speed_58 : decode cX7_speed 58 = .ok (.iload_n 3, 1) := by decide +kernel
theorem dX7_speed_59 : decode cX7_speed 59 = .ok (.ireturn, 1) := by decide +kernel
theorem dX7_level_0 : decode cX7_level 0 = .ok (.iload_n 1, 1) := by decide +kernel
theorem dX7_level_1 : decode cX7_level 1 = .ok (.iconst 1, 1) := by decide +kernel
theorem dX7_level_2 : decode cX7_level 2 = .ok (.sipush 300, 3) := by decide +kernel
theorem dX7_level_5 : decode cX7_level 5 = .ok (.invokestatic 56, 3) := by decide +kernel
theorem dX7_level_8 : decode cX7_level 8 = .ok (.ifCond .ne 6, 3) := by decide +kernel
theorem dX7_level_11 : decode cX7_level 11 = .ok (.bipush (-2), 2) := by decide +kernel
theorem dX7_level_13 : decode cX7_level 13 = .ok (.ireturn, 1) := by decide +kernel
theorem dX7_level_14 : decode cX7_level 14 = .ok (.aload_n 0, 1) := by decide +kernel
theorem dX7_level_15 : decode cX7_level 15 = .ok (.getfield 7, 3) := by decide +kernel
theorem dX7_level_18 : decode cX7_level 18 = .ok (.iconst 0, 1) := by decide +kernel
theorem dX7_level_19 : decode cX7_level 19 = .ok (.iload_n 1, 1) := by decide +kernel
theorem dX7_level_20 : decode cX7_level 20 = .ok (.iadd, 1) := by decide +kernel
theorem dX7_level_21 : decode cX7_level 21 = .ok (.iaload, 1) := by decide +kernel
theorem dX7_level_22 : decode cX7_level 22 = .ok (.ifCond .ge 6, 3) := by decide +kernel
theorem dX7_level_25 : decode cX7_level 25 = .ok (.bipush (-5), 2) := by decide +kernel
theorem dX7_level_27 : decode cX7_level 27 = .ok (.ireturn, 1) := by decide +kernel
theorem dX7_level_28 : decode cX7_level 28 = .ok (.aload_n 0, 1) := by decide +kernel
theorem dX7_level_29 : decode cX7_level 29 = .ok (.getfield 7, 3) := by decide +kernel
theorem dX7_level_32 : decode cX7_level 32 = .ok (.iconst 0, 1) := by decide +kernel
theorem dX7_level_33 : decode cX7_level 33 = .ok (.iload_n 1, 1) := by decide +kernel
theorem dX7_level_34 : decode cX7_level 34 = .ok (.iadd, 1) := by decide +kernel
theorem dX7_level_35 : decode cX7_level 35 = .ok (.bipush (-6), 2) := by decide +kernel
theorem dX7_level_37 : decode cX7_level 37 = .ok (.iastore, 1) := by decide +kernel
theorem dX7_level_38 : decode cX7_level 38 = .ok (.aload_n 0, 1) := by decide +kernel
theorem dX7_level_39 : decode cX7_level 39 = .ok (.invokevirtual 64, 3) := by decide +kernel
theorem dX7_level_42 : decode cX7_level 42 = .ok (.ireturn, 1) := by decide +kernel
theorem dX7_layGone_0 : decode cX7_layGone 0 = .ok (.aload_n 0, 1) := by decide +kernel
theorem dX7_layGone_1 : decode cX7_layGone 1 = .ok (.getfield 20, 3) := by decide +kernel
theorem dX7_layGone_4 : decode cX7_layGone 4 = .ok (.iconst 0, 1) := by decide +kernel
theorem dX7_layGone_5 : decode cX7_layGone 5 = .ok (.iconst 0, 1) := by decide +kernel
theorem dX7_layGone_6 : decode cX7_layGone 6 = .ok (.iastore, 1) := by decide +kernel
theorem dX7_layGone_7 : decode cX7_layGone 7 = .ok (.iconst 1, 1) := by decide +kernel
theorem dX7_layGone_8 : decode cX7_layGone 8 = .ok (.istore_n 1, 1) := by decide +kernel
theorem dX7_layGone_9 : decode cX7_layGone 9 = .ok (.iload_n 1, 1) := by decide +kernel
theorem dX7_layGone_10 : decode cX7_layGone 10 = .ok (.sipush 301, 3) := by decide +kernel
theorem dX7_layGone_13 : decode cX7_layGone 13 = .ok (.if_icmp .ge 31, 3) := by decide +kernel
theorem dX7_layGone_16 : decode cX7_layGone 16 = .ok (.aload_n 0, 1) := by decide +kernel
theorem dX7_layGone_17 : decode cX7_layGone 17 = .ok (.getfield 20, 3) := by decide +kernel
theorem dX7_layGone_20 : decode cX7_layGone 20 = .ok (.iload_n 1, 1) := by decide +kernel
theorem dX7_layGone_21 : decode cX7_layGone 21 = .ok (.aload_n 0, 1) := by decide +kernel
theorem dX7_layGone_22 : decode cX7_layGone 22 = .ok (.getfield 20, 3) := by decide +kernel
theorem dX7_layGone_25 : decode cX7_layGone 25 = .ok (.iload_n 1, 1) := by decide +kernel
theorem dX7_layGone_26 : decode cX7_layGone 26 = .ok (.iconst 1, 1) := by decide +kernel
theorem dX7_layGone_27 : decode cX7_layGone 27 = .ok (.isub, 1) := by decide +kernel
theorem dX7_layGone_28 : decode cX7_layGone 28 = .ok (.iaload, 1) := by decide +kernel
theorem dX7_layGone_29 : decode cX7_layGone 29 = .ok (.aload_n 0, 1) := by decide +kernel
theorem dX7_layGone_30 : decode cX7_layGone 30 = .ok (.iload_n 1, 1) := by decide +kernel
theorem dX7_layGone_31 : decode cX7_layGone 31 = .ok (.iconst 1, 1) := by decide +kernel
theorem dX7_layGone_32 : decode cX7_layGone 32 = .ok (.isub, 1) := by decide +kernel
theorem dX7_layGone_33 : decode cX7_layGone 33 = .ok (.invokevirtual 68, 3) := by decide +kernel
theorem dX7_layGone_36 : decode cX7_layGone 36 = .ok (.iadd, 1) := by decide +kernel
theorem dX7_layGone_37 : decode cX7_layGone 37 = .ok (.iastore, 1) := by decide +kernel
theorem dX7_layGone_38 : decode cX7_layGone 38 = .ok (.iinc 1 1, 3) := by decide +kernel
theorem dX7_layGone_41 : decode cX7_layGone 41 = .ok (.goto (-32), 3) := by decide +kernel
theorem dX7_layGone_44 : decode cX7_layGone 44 = .ok (.return_, 1) := by decide +kernel
theorem dX7_gone_0 : decode cX7_gone 0 = .ok (.iload_n 1, 1) := by decide +kernel
theorem dX7_gone_1 : decode cX7_gone 1 = .ok (.invokestatic 60, 3) := by decide +kernel
theorem dX7_gone_4 : decode cX7_gone 4 = .ok (.ifCond .ne 6, 3) := by decide +kernel
theorem dX7_gone_7 : decode cX7_gone 7 = .ok (.bipush (-2), 2) := by decide +kernel
theorem dX7_gone_9 : decode cX7_gone 9 = .ok (.ireturn, 1) := by decide +kernel
theorem dX7_gone_10 : decode cX7_gone 10 = .ok (.aload_n 0, 1) := by decide +kernel
theorem dX7_gone_11 : decode cX7_gone 11 = .ok (.invokevirtual 72, 3) := by decide +kernel
theorem dX7_gone_14 : decode cX7_gone 14 = .ok (.aload_n 0, 1) := by decide +kernel
theorem dX7_gone_15 : decode cX7_gone 15 = .ok (.getfield 20, 3) := by decide +kernel
theorem dX7_gone_18 : decode cX7_gone 18 = .ok (.iload_n 1, 1) := by decide +kernel
theorem dX7_gone_19 : decode cX7_gone 19 = .ok (.iaload, 1) := by decide +kernel
theorem dX7_gone_20 : decode cX7_gone 20 = .ok (.ireturn, 1) := by decide +kernel
theorem dX7_placeOf_0 : decode cX7_placeOf 0 = .ok (.aload_n 0, 1) := by decide +kernel
theorem dX7_placeOf_1 : decode cX7_placeOf 1 = .ok (.getfield 7, 3) := by decide +kernel
theorem dX7_placeOf_4 : decode cX7_placeOf 4 = .ok (.sipush 341, 3) := by decide +kernel
theorem dX7_placeOf_7 : decode cX7_placeOf 7 = .ok (.iload_n 1, 1) := by decide +kernel
theorem dX7_placeOf_8 : decode cX7_placeOf 8 = .ok (.iadd, 1) := by decide +kernel
theorem dX7_placeOf_9 : decode cX7_placeOf 9 = .ok (.iaload, 1) := by decide +kernel
theorem dX7_placeOf_10 : decode cX7_placeOf 10 = .ok (.aload_n 0, 1) := by decide +kernel
theorem dX7_placeOf_11 : decode cX7_placeOf 11 = .ok (.getfield 20, 3) := by decide +kernel
theorem dX7_placeOf_14 : decode cX7_placeOf 14 = .ok (.iload_n 2, 1) := by decide +kernel
theorem dX7_placeOf_15 : decode cX7_placeOf 15 = .ok (.iaload, 1) := by decide +kernel
theorem dX7_placeOf_16 : decode cX7_placeOf 16 = .ok (.iadd, 1) := by decide +kernel
theorem dX7_placeOf_17 : decode cX7_placeOf 17 = .ok (.aload_n 0, 1) := by decide +kernel
theorem dX7_placeOf_18 : decode cX7_placeOf 18 = .ok (.getfield 20, 3) := by decide +kernel
theorem dX7_placeOf_21 : decode cX7_placeOf 21 = .ok (.aload_n 0, 1) := by decide +kernel
theorem dX7_placeOf_22 : decode cX7_placeOf 22 = .ok (.getfield 7, 3) := by decide +kernel
theorem dX7_placeOf_25 : decode cX7_placeOf 25 = .ok (.sipush 301, 3) := by decide +kernel
theorem dX7_placeOf_28 : decode cX7_placeOf 28 = .ok (.iload_n 1, 1) := by decide +kernel
theorem dX7_placeOf_29 : decode cX7_placeOf 29 = .ok (.iadd, 1) := by decide +kernel
theorem dX7_placeOf_30 : decode cX7_placeOf 30 = .ok (.iaload, 1) := by decide +kernel
theorem dX7_placeOf_31 : decode cX7_placeOf 31 = .ok (.iaload, 1) := by decide +kernel
theorem dX7_placeOf_32 : decode cX7_placeOf 32 = .ok (.isub, 1) := by decide +kernel
theorem dX7_placeOf_33 : decode cX7_placeOf 33 = .ok (.ireturn, 1) := by decide +kernel
theorem dX7_wasSeen_0 : decode cX7_wasSeen 0 = .ok (.aload_n 0, 1) := by decide +kernel
theorem dX7_wasSeen_1 : decode cX7_wasSeen 1 = .ok (.getfield 7, 3) := by decide +kernel
theorem dX7_wasSeen_4 : decode cX7_wasSeen 4 = .ok (.sipush 381, 3) := by decide +kernel
theorem dX7_wasSeen_7 : decode cX7_wasSeen 7 = .ok (.sipush 301, 3) := by decide +kernel
theorem dX7_wasSeen_10 : decode cX7_wasSeen 10 = .ok (.iload_n 1, 1) := by decide +kernel
theorem dX7_wasSeen_11 : decode cX7_wasSeen 11 = .ok (.imul, 1) := by decide +kernel
theorem dX7_wasSeen_12 : decode cX7_wasSeen 12 = .ok (.iadd, 1) := by decide +kernel
theorem dX7_wasSeen_13 : decode cX7_wasSeen 13 = .ok (.iload_n 2, 1) := by decide +kernel
theorem dX7_wasSeen_14 : decode cX7_wasSeen 14 = .ok (.iadd, 1) := by decide +kernel
theorem dX7_wasSeen_15 : decode cX7_wasSeen 15 = .ok (.iaload, 1) := by decide +kernel
theorem dX7_wasSeen_16 : decode cX7_wasSeen 16 = .ok (.iconst 1, 1) := by decide +kernel
theorem dX7_wasSeen_17 : decode cX7_wasSeen 17 = .ok (.if_icmp .ne 7, 3) := by decide +kernel
theorem dX7_wasSeen_20 : decode cX7_wasSeen 20 = .ok (.iconst 1, 1) := by decide +kernel
theorem dX7_wasSeen_21 : decode cX7_wasSeen 21 = .ok (.goto 4, 3) := by decide +kernel
theorem dX7_wasSeen_24 : decode cX7_wasSeen 24 = .ok (.iconst 0, 1) := by decide +kernel
theorem dX7_wasSeen_25 : decode cX7_wasSeen 25 = .ok (.ireturn, 1) := by decide +kernel
theorem dX7_see_0 : decode cX7_see 0 = .ok (.iload_n 1, 1) := by decide +kernel
theorem dX7_see_1 : decode cX7_see 1 = .ok (.invokestatic 60, 3) := by decide +kernel
theorem dX7_see_4 : decode cX7_see 4 = .ok (.ifCond .eq 32, 3) := by decide +kernel
theorem dX7_see_7 : decode cX7_see 7 = .ok (.iload_n 2, 1) := by decide +kernel
theorem dX7_see_8 : decode cX7_see 8 = .ok (.iconst 0, 1) := by decide +kernel
theorem dX7_see_9 : decode cX7_see 9 = .ok (.iconst 3, 1) := by decide +kernel
theorem dX7_see_10 : decode cX7_see 10 = .ok (.invokestatic 56, 3) := by decide +kernel
theorem dX7_see_13 : decode cX7_see 13 = .ok (.ifCond .eq 23, 3) := by decide +kernel
theorem dX7_see_16 : decode cX7_see 16 = .ok (.iload_n 3, 1) := by decide +kernel
theorem dX7_see_17 : decode cX7_see 17 = .ok (.iconst 0, 1) := by decide +kernel
theorem dX7_see_18 : decode cX7_see 18 = .ok (.bipush 60, 2) := by decide +kernel
theorem dX7_see_20 : decode cX7_see 20 = .ok (.invokestatic 56, 3) := by decide +kernel
theorem dX7_see_23 : decode cX7_see 23 = .ok (.ifCond .eq 13, 3) := by decide +kernel
theorem dX7_see_26 : decode cX7_see 26 = .ok (.iload 4, 2) := by decide +kernel
theorem dX7_see_28 : decode cX7_see 28 = .ok (.iconst 0, 1) := by decide +kernel
theorem dX7_see_29 : decode cX7_see 29 = .ok (.iconst 2, 1) := by decide +kernel
theorem dX7_see_30 : decode cX7_see 30 = .ok (.invokestatic 56, 3) := by decide +kernel
theorem dX7_see_33 : decode cX7_see 33 = .ok (.ifCond .ne 6, 3) := by decide +kernel
theorem dX7_see_36 : decode cX7_see 36 = .ok (.bipush (-2), 2) := by decide +kernel
theorem dX7_see_38 : decode cX7_see 38 = .ok (.ireturn, 1) := by decide +kernel
theorem dX7_see_39 : decode cX7_see 39 = .ok (.aload_n 0, 1) := by decide +kernel
theorem dX7_see_40 : decode cX7_see 40 = .ok (.invokevirtual 72, 3) := by decide +kernel
theorem dX7_see_43 : decode cX7_see 43 = .ok (.bipush (-6), 2) := by decide +kernel
theorem dX7_see_45 : decode cX7_see 45 = .ok (.istore 5, 2) := by decide +kernel
theorem dX7_see_47 : decode cX7_see 47 = .ok (.aload_n 0, 1) := by decide +kernel
theorem dX7_see_48 : decode cX7_see 48 = .ok (.getfield 7, 3) := by decide +kernel
theorem dX7_see_51 : decode cX7_see 51 = .ok (.sipush 6421, 3) := by decide +kernel
theorem dX7_see_54 : decode cX7_see 54 = .ok (.iaload, 1) := by decide +kernel
theorem dX7_see_55 : decode cX7_see 55 = .ok (.iconst 1, 1) := by decide +kernel
theorem dX7_see_56 : decode cX7_see 56 = .ok (.iadd, 1) := by decide +kernel
theorem dX7_see_57 : decode cX7_see 57 = .ok (.istore 6, 2) := by decide +kernel
theorem dX7_see_59 : decode cX7_see 59 = .ok (.iconst 0, 1) := by decide +kernel
theorem dX7_see_60 : decode cX7_see 60 = .ok (.istore 7, 2) := by decide +kernel
theorem dX7_see_62 : decode cX7_see 62 = .ok (.iload 7, 2) := by decide +kernel
theorem dX7_see_64 : decode cX7_see 64 = .ok (.aload_n 0, 1) := by decide +kernel
theorem dX7_see_65 : decode cX7_see 65 = .ok (.getfield 7, 3) := by decide +kernel
theorem dX7_see_68 : decode cX7_see 68 = .ok (.sipush 6423, 3) := by decide +kernel
theorem dX7_see_71 : decode cX7_see 71 = .ok (.iaload, 1) := by decide +kernel
theorem dX7_see_72 : decode cX7_see 72 = .ok (.if_icmp .ge 79, 3) := by decide +kernel
theorem dX7_see_75 : decode cX7_see 75 = .ok (.aload_n 0, 1) := by decide +kernel
theorem dX7_see_76 : decode cX7_see 76 = .ok (.iload 7, 2) := by decide +kernel
theorem dX7_see_78 : decode cX7_see 78 = .ok (.iload_n 1, 1) := by decide +kernel
theorem dX7_see_79 : decode cX7_see 79 = .ok (.invokevirtual 75, 3) := by decide +kernel
theorem dX7_see_82 : decode cX7_see 82 = .ok (.iload_n 3, 1) := by decide +kernel
theorem dX7_see_83 : decode cX7_see 83 = .ok (.isub, 1) := by decide +kernel
theorem dX7_see_84 : decode cX7_see 84 = .ok (.invokestatic 79, 3) := by decide +kernel
theorem dX7_see_87 : decode cX7_see 87 = .ok (.istore 8, 2) := by decide +kernel
theorem dX7_see_89 : decode cX7_see 89 = .ok (.aload_n 0, 1) := by decide +kernel
theorem dX7_see_90 : decode cX7_see 90 = .ok (.getfield 7, 3) := by decide +kernel
theorem dX7_see_93 : decode cX7_see 93 = .ok (.sipush 321, 3) := by decide +kernel
theorem dX7_see_96 : decode cX7_see 96 = .ok (.iload 7, 2) := by decide +kernel
theorem dX7_see_98 : decode cX7_see 98 = .ok (.iadd, 1) := by decide +kernel
theorem dX7_see_99 : decode cX7_see 99 = .ok (.iaload, 1) := by decide +kernel
theorem dX7_see_100 : decode cX7_see 100 = .ok (.iload_n 2, 1) := by decide +kernel
theorem dX7_see_101 : decode cX7_see 101 = .ok (.if_icmp .ne 44, 3) := by decide +kernel
theorem dX7_see_104 : decode cX7_see 104 = .ok (.aload_n 0, 1) := by decide +kernel
theorem dX7_see_105 : decode cX7_see 105 = .ok (.getfield 7, 3) := by decide +kernel
theorem dX7_see_108 : decode cX7_see 108 = .ok (.sipush 361, 3) := by decide +kernel
theorem dX7_see_111 : decode cX7_see 111 = .ok (.iload 7, 2) := by decide +kernel
theorem dX7_see_113 : decode cX7_see 113 = .ok (.iadd, 1) := by decide +kernel
theorem dX7_see_114 : decode cX7_see 114 = .ok (.iaload, 1) := by decide +kernel
theorem dX7_see_115 : decode cX7_see 115 = .ok (.iload 4, 2) := by decide +kernel
theorem dX7_see_117 : decode cX7_see 117 = .ok (.if_icmp .ne 28, 3) := by decide +kernel
theorem dX7_see_120 : decode cX7_see 120 = .ok (.aload_n 0, 1) := by decide +kernel
theorem dX7_see_121 : decode cX7_see 121 = .ok (.iload 7, 2) := by decide +kernel
theorem dX7_see_123 : decode cX7_see 123 = .ok (.iload_n 1, 1) := by decide +kernel
theorem dX7_see_124 : decode cX7_see 124 = .ok (.invokevirtual 82, 3) := by decide +kernel
theorem dX7_see_127 : decode cX7_see 127 = .ok (.ifCond .ne 18, 3) := by decide +kernel
theorem dX7_see_130 : decode cX7_see 130 = .ok (.iload 8, 2) := by decide +kernel
theorem dX7_see_132 : decode cX7_see 132 = .ok (.iload 6, 2) := by decide +kernel
theorem dX7_see_134 : decode cX7_see 134 = .ok (.if_icmp .ge 11, 3) := by decide +kernel
theorem dX7_see_137 : decode cX7_see 137 = .ok (.iload 7, 2) := by decide +kernel
theorem dX7_see_139 : decode cX7_see 139 = .ok (.istore 5, 2) := by decide +kernel
theorem dX7_see_141 : decode cX7_see 141 = .ok (.iload 8, 2) := by decide +kernel
theorem dX7_see_143 : decode cX7_see 143 = .ok (.istore 6, 2) := by decide +kernel
theorem dX7_see_145 : decode cX7_see 145 = .ok (.iinc 7 1, 3) := by decide +kernel
theorem dX7_see_148 : decode cX7_see 148 = .ok (.goto (-86), 3) := by decide +kernel
theorem dX7_see_151 : decode cX7_see 151 = .ok (.iload 5, 2) := by decide +kernel
theorem dX7_see_153 : decode cX7_see 153 = .ok (.ifCond .ge 120, 3) := by decide +kernel
theorem dX7_see_156 : decode cX7_see 156 = .ok (.aload_n 0, 1) := by decide +kernel
theorem dX7_see_157 : decode cX7_see 157 = .ok (.getfield 7, 3) := by decide +kernel
theorem dX7_see_160 : decode cX7_see 160 = .ok (.sipush 6423, 3) := by decide +kernel
theorem dX7_see_163 : decode cX7_see 163 = .ok (.iaload, 1) := by decide +kernel
theorem dX7_see_164 : decode cX7_see 164 = .ok (.istore 5, 2) := by decide +kernel
theorem dX7_see_166 : decode cX7_see 166 = .ok (.iload 5, 2) := by decide +kernel
theorem dX7_see_168 : decode cX7_see 168 = .ok (.bipush 20, 2) := by decide +kernel
theorem dX7_see_170 : decode cX7_see 170 = .ok (.if_icmp .ne 6, 3) := by decide +kernel
theorem dX7_see_173 : decode cX7_see 173 = .ok (.bipush (-4), 2) := by decide +kernel
theorem dX7_see_175 : decode cX7_see 175 = .ok (.ireturn, 1) := by decide +kernel
theorem dX7_see_176 : decode cX7_see 176 = .ok (.aload_n 0, 1) := by decide +kernel
theorem dX7_see_177 : decode cX7_see 177 = .ok (.getfield 7, 3) := by decide +kernel
theorem dX7_see_180 : decode cX7_see 180 = .ok (.sipush 301, 3) := by decide +kernel
theorem dX7_see_183 : decode cX7_see 183 = .ok (.iload 5, 2) := by decide +kernel
theorem dX7_see_185 : decode cX7_see 185 = .ok (.iadd, 1) := by decide +kernel
theorem dX7_see_186 : decode cX7_see 186 = .ok (.iload_n 1, 1) := by decide +kernel
theorem dX7_see_187 : decode cX7_see 187 = .ok (.iastore, 1) := by decide +kernel
theorem dX7_see_188 : decode cX7_see 188 = .ok (.aload_n 0, 1) := by decide +kernel
theorem dX7_see_189 : decode cX7_see 189 = .ok (.getfield 7, 3) := by decide +kernel
theorem dX7_see_192 : decode cX7_see 192 = .ok (.sipush 321, 3) := by decide +kernel
theorem dX7_see_195 : decode cX7_see 195 = .ok (.iload 5, 2) := by decide +kernel
theorem dX7_see_197 : decode cX7_see 197 = .ok (.iadd, 1) := by decide +kernel
theorem dX7_see_198 : decode cX7_see 198 = .ok (.iload_n 2, 1) := by decide +kernel
theorem dX7_see_199 : decode cX7_see 199 = .ok (.iastore, 1) := by decide +kernel
theorem dX7_see_200 : decode cX7_see 200 = .ok (.aload_n 0, 1) := by decide +kernel
theorem dX7_see_201 : decode cX7_see 201 = .ok (.getfield 7, 3) := by decide +kernel
theorem dX7_see_204 : decode cX7_see 204 = .ok (.sipush 341, 3) := by decide +kernel
theorem dX7_see_207 : decode cX7_see 207 = .ok (.iload 5, 2) := by decide +kernel
theorem dX7_see_209 : decode cX7_see 209 = .ok (.iadd, 1) := by decide +kernel
theorem dX7_see_210 : decode cX7_see 210 = .ok (.iload_n 3, 1) := by decide +kernel
theorem dX7_see_211 : decode cX7_see 211 = .ok (.iastore, 1) := by decide +kernel
theorem dX7_see_212 : decode cX7_see 212 = .ok (.aload_n 0, 1) := by decide +kernel
theorem dX7_see_213 : decode cX7_see 213 = .ok (.getfield 7, 3) := by decide +kernel
theorem dX7_see_216 : decode cX7_see 216 = .ok (.sipush 361, 3) := by decide +kernel
theorem dX7_see_219 : decode cX7_see 219 = .ok (.iload 5, 2) := by decide +kernel
theorem dX7_see_221 : decode cX7_see 221 = .ok (.iadd, 1) := by decide +kernel
theorem dX7_see_222 : decode cX7_see 222 = .ok (.iload 4, 2) := by decide +kernel
theorem dX7_see_224 : decode cX7_see 224 = .ok (.iastore, 1) := by decide +kernel
theorem dX7_see_225 : decode cX7_see 225 = .ok (.iconst 0, 1) := by decide +kernel
theorem dX7_see_226 : decode cX7_see 226 = .ok (.istore 7, 2) := by decide +kernel
theorem dX7_see_228 : decode cX7_see 228 = .ok (.iload 7, 2) := by decide +kernel
theorem dX7_see_230 : decode cX7_see 230 = .ok (.sipush 301, 3) := by decide +kernel
theorem dX7_see_233 : decode cX7_see 233 = .ok (.if_icmp .ge 28, 3) := by decide +kernel
theorem dX7_see_236 : decode cX7_see 236 = .ok (.aload_n 0, 1) := by decide +kernel
theorem dX7_see_237 : decode cX7_see 237 = .ok (.getfield 7, 3) := by decide +kernel
theorem dX7_see_240 : decode cX7_see 240 = .ok (.sipush 381, 3) := by decide +kernel
theorem dX7_see_243 : decode cX7_see 243 = .ok (.sipush 301, 3) := by decide +kernel
theorem dX7_see_246 : decode cX7_see 246 = .ok (.iload 5, 2) := by decide +kernel
theorem dX7_see_248 : decode cX7_see 248 = .ok (.imul, 1) := by decide +kernel
theorem dX7_see_249 : decode cX7_see 249 = .ok (.iadd, 1) := by decide +kernel
theorem dX7_see_250 : decode cX7_see 250 = .ok (.iload 7, 2) := by decide +kernel
theorem dX7_see_252 : decode cX7_see 252 = .ok (.iadd, 1) := by decide +kernel
theorem dX7_see_253 : decode cX7_see 253 = .ok (.iconst 0, 1) := by decide +kernel
theorem dX7_see_254 : decode cX7_see 254 = .ok (.iastore, 1) := by decide +kernel
theorem dX7_see_255 : decode cX7_see 255 = .ok (.iinc 7 1, 3) := by decide +kernel
theorem dX7_see_258 : decode cX7_see 258 = .ok (.goto (-30), 3) := by decide +kernel
theorem dX7_see_261 : decode cX7_see 261 = .ok (.aload_n 0, 1) := by decide +kernel
theorem dX7_see_262 : decode cX7_see 262 = .ok (.getfield 7, 3) := by decide +kernel
theorem dX7_see_265 : decode cX7_see 265 = .ok (.sipush 6423, 3) := by decide +kernel
theorem dX7_see_268 : decode cX7_see 268 = .ok (.dup2, 1) := by decide +kernel
theorem dX7_see_269 : decode cX7_see 269 = .ok (.iaload, 1) := by decide +kernel
theorem dX7_see_270 : decode cX7_see 270 = .ok (.iconst 1, 1) := by decide +kernel
theorem dX7_see_271 : decode cX7_see 271 = .ok (.iadd, 1) := by decide +kernel
theorem dX7_see_272 : decode cX7_see 272 = .ok (.iastore, 1) := by decide +kernel
theorem dX7_see_273 : decode cX7_see 273 = .ok (.aload_n 0, 1) := by decide +kernel
theorem dX7_see_274 : decode cX7_see 274 = .ok (.getfield 7, 3) := by decide +kernel
theorem dX7_see_277 : decode cX7_see 277 = .ok (.sipush 381, 3) := by decide +kernel
theorem dX7_see_280 : decode cX7_see 280 = .ok (.sipush 301, 3) := by decide +kernel
theorem dX7_see_283 : decode cX7_see 283 = .ok (.iload 5, 2) := by decide +kernel
theorem dX7_see_285 : decode cX7_see 285 = .ok (.imul, 1) := by decide +kernel
theorem dX7_see_286 : decode cX7_see 286 = .ok (.iadd, 1) := by decide +kernel
theorem dX7_see_287 : decode cX7_see 287 = .ok (.iload_n 1, 1) := by decide +kernel
theorem dX7_see_288 : decode cX7_see 288 = .ok (.iadd, 1) := by decide +kernel
theorem dX7_see_289 : decode cX7_see 289 = .ok (.iconst 1, 1) := by decide +kernel
theorem dX7_see_290 : decode cX7_see 290 = .ok (.iastore, 1) := by decide +kernel
theorem dX7_see_291 : decode cX7_see 291 = .ok (.iload 5, 2) := by decide +kernel
theorem dX7_see_293 : decode cX7_see 293 = .ok (.ireturn, 1) := by decide +kernel
theorem dX7_drop_0 : decode cX7_drop 0 = .ok (.aload_n 0, 1) := by decide +kernel
theorem dX7_drop_1 : decode cX7_drop 1 = .ok (.iload_n 1, 1) := by decide +kernel
theorem dX7_drop_2 : decode cX7_drop 2 = .ok (.invokevirtual 86, 3) := by decide +kernel
theorem dX7_drop_5 : decode cX7_drop 5 = .ok (.ifCond .ne 5, 3) := by decide +kernel
theorem dX7_drop_8 : decode cX7_drop 8 = .ok (.iconst (-1), 1) := by decide +kernel
theorem dX7_drop_9 : decode cX7_drop 9 = .ok (.ireturn, 1) := by decide +kernel
theorem dX7_drop_10 : decode cX7_drop 10 = .ok (.aload_n 0, 1) := by decide +kernel
theorem dX7_drop_11 : decode cX7_drop 11 = .ok (.getfield 7, 3) := by decide +kernel
theorem dX7_drop_14 : decode cX7_drop 14 = .ok (.sipush 6423, 3) := by decide +kernel
theorem dX7_drop_17 : decode cX7_drop 17 = .ok (.dup2, 1) := by decide +kernel
theorem dX7_drop_18 : decode cX7_drop 18 = .ok (.iaload, 1) := by decide +kernel
theorem dX7_drop_19 : decode cX7_drop 19 = .ok (.iconst 1, 1) := by decide +kernel
theorem dX7_drop_20 : decode cX7_drop 20 = .ok (.isub, 1) := by decide +kernel
theorem dX7_drop_21 : decode cX7_drop 21 = .ok (.iastore, 1) := by decide +kernel
theorem dX7_drop_22 : decode cX7_drop 22 = .ok (.iload_n 1, 1) := by decide +kernel
theorem dX7_drop_23 : decode cX7_drop 23 = .ok (.istore_n 2, 1) := by decide +kernel
theorem dX7_drop_24 : decode cX7_drop 24 = .ok (.iload_n 2, 1) := by decide +kernel
theorem dX7_drop_25 : decode cX7_drop 25 = .ok (.aload_n 0, 1) := by decide +kernel
theorem dX7_drop_26 : decode cX7_drop 26 = .ok (.getfield 7, 3) := by decide +kernel
theorem dX7_drop_29 : decode cX7_drop 29 = .ok (.sipush 6423, 3) := by decide +kernel
theorem dX7_drop_32 : decode cX7_drop 32 = .ok (.iaload, 1) := by decide +kernel
theorem dX7_drop_33 : decode cX7_drop 33 = .ok (.if_icmp .ge 95, 3) := by decide +kernel
theorem dX7_drop_36 : decode cX7_drop 36 = .ok (.sipush 301, 3) := by decide +kernel
theorem dX7_drop_39 : decode cX7_drop 39 = .ok (.istore_n 3, 1) := by decide +kernel
theorem dX7_drop_40 : decode cX7_drop 40 = .ok (.iload_n 3, 1) := by decide +kernel
theorem dX7_drop_41 : decode cX7_drop 41 = .ok (.sipush 361, 3) := by decide +kernel
theorem dX7_drop_44 : decode cX7_drop 44 = .ok (.if_icmp .gt 27, 3) := by decide +kernel
theorem dX7_drop_47 : decode cX7_drop 47 = .ok (.aload_n 0, 1) := by decide +kernel
theorem dX7_drop_48 : decode cX7_drop 48 = .ok (.getfield 7, 3) := by decide +kernel
theorem dX7_drop_51 : decode cX7_drop 51 = .ok (.iload_n 3, 1) := by decide +kernel
theorem dX7_drop_52 : decode cX7_drop 52 = .ok (.iload_n 2, 1) := by decide +kernel
theorem dX7_drop_53 : decode cX7_drop 53 = .ok (.iadd, 1) := by decide +kernel
theorem dX7_drop_54 : decode cX7_drop 54 = .ok (.aload_n 0, 1) := by decide +kernel
theorem dX7_drop_55 : decode cX7_drop 55 = .ok (.getfield 7, 3) := by decide +kernel
theorem dX7_drop_58 : decode cX7_drop 58 = .ok (.iload_n 3, 1) := by decide +kernel
theorem dX7_drop_59 : decode cX7_drop 59 = .ok (.iload_n 2, 1) := by decide +kernel
theorem dX7_drop_60 : decode cX7_drop 60 = .ok (.iadd, 1) := by decide +kernel
theorem dX7_drop_61 : decode cX7_drop 61 = .ok (.iconst 1, 1) := by decide +kernel
theorem dX7_drop_62 : decode cX7_drop 62 = .ok (.iadd, 1) := by decide +kernel
theorem dX7_drop_63 : decode cX7_drop 63 = .ok (.iaload, 1) := by decide +kernel
theorem dX7_drop_64 : decode cX7_drop 64 = .ok (.iastore, 1) := by decide +kernel
theorem dX7_drop_65 : decode cX7_drop 65 = .ok (.iinc 3 20, 3) := by decide +kernel
theorem dX7_drop_68 : decode cX7_drop 68 = .ok (.goto (-28), 3) := by decide +kernel
theorem dX7_drop_71 : decode cX7_drop 71 = .ok (.iconst 0, 1) := by decide +kernel
theorem dX7_drop_72 : decode cX7_drop 72 = .ok (.istore_n 3, 1) := by decide +kernel
theorem dX7_drop_73 : decode cX7_drop 73 = .ok (.iload_n 3, 1) := by decide +kernel
theorem dX7_drop_74 : decode cX7_drop 74 = .ok (.sipush 301, 3) := by decide +kernel
theorem dX7_drop_77 : decode cX7_drop 77 = .ok (.if_icmp .ge 45, 3) := by decide +kernel
theorem dX7_drop_80 : decode cX7_drop 80 = .ok (.aload_n 0, 1) := by decide +kernel
theorem dX7_drop_81 : decode cX7_drop 81 = .ok (.getfield 7, 3) := by decide +kernel
theorem dX7_drop_84 : decode cX7_drop 84 = .ok (.sipush 381, 3) := by decide +kernel
theorem dX7_drop_87 : decode cX7_drop 87 = .ok (.sipush 301, 3) := by decide +kernel
theorem dX7_drop_90 : decode cX7_drop 90 = .ok (.iload_n 2, 1) := by decide +kernel
theorem dX7_drop_91 : decode cX7_drop 91 = .ok (.imul, 1) := by decide +kernel
theorem dX7_drop_92 : decode cX7_drop 92 = .ok (.iadd, 1) := by decide +kernel
theorem dX7_drop_93 : decode cX7_drop 93 = .ok (.iload_n 3, 1) := by decide +kernel
theorem dX7_drop_94 : decode cX7_drop 94 = .ok (.iadd, 1) := by decide +kernel
theorem dX7_drop_95 : decode cX7_drop 95 = .ok (.aload_n 0, 1) := by decide +kernel
theorem dX7_drop_96 : decode cX7_drop 96 = .ok (.getfield 7, 3) := by decide +kernel
theorem dX7_drop_99 : decode cX7_drop 99 = .ok (.sipush 381, 3) := by decide +kernel
theorem dX7_drop_102 : decode cX7_drop 102 = .ok (.sipush 301, 3) := by decide +kernel
theorem dX7_drop_105 : decode cX7_drop 105 = .ok (.iload_n 2, 1) := by decide +kernel
theorem dX7_drop_106 : decode cX7_drop 106 = .ok (.imul, 1) := by decide +kernel
theorem dX7_drop_107 : decode cX7_drop 107 = .ok (.iadd, 1) := by decide +kernel
theorem dX7_drop_108 : decode cX7_drop 108 = .ok (.sipush 301, 3) := by decide +kernel
theorem dX7_drop_111 : decode cX7_drop 111 = .ok (.iadd, 1) := by decide +kernel
theorem dX7_drop_112 : decode cX7_drop 112 = .ok (.iload_n 3, 1) := by decide +kernel
theorem dX7_drop_113 : decode cX7_drop 113 = .ok (.iadd, 1) := by decide +kernel
theorem dX7_drop_114 : decode cX7_drop 114 = .ok (.iaload, 1) := by decide +kernel
theorem dX7_drop_115 : decode cX7_drop 115 = .ok (.iastore, 1) := by decide +kernel
theorem dX7_drop_116 : decode cX7_drop 116 = .ok (.iinc 3 1, 3) := by decide +kernel
theorem dX7_drop_119 : decode cX7_drop 119 = .ok (.goto (-46), 3) := by decide +kernel
theorem dX7_drop_122 : decode cX7_drop 122 = .ok (.iinc 2 1, 3) := by decide +kernel
theorem dX7_drop_125 : decode cX7_drop 125 = .ok (.goto (-101), 3) := by decide +kernel
theorem dX7_drop_128 : decode cX7_drop 128 = .ok (.aload_n 0, 1) := by decide +kernel
theorem dX7_drop_129 : decode cX7_drop 129 = .ok (.getfield 7, 3) := by decide +kernel
theorem dX7_drop_132 : decode cX7_drop 132 = .ok (.sipush 6423, 3) := by decide +kernel
theorem dX7_drop_135 : decode cX7_drop 135 = .ok (.iaload, 1) := by decide +kernel
theorem dX7_drop_136 : decode cX7_drop 136 = .ok (.ireturn, 1) := by decide +kernel
theorem dX7_place_0 : decode cX7_place 0 = .ok (.aload_n 0, 1) := by decide +kernel
theorem dX7_place_1 : decode cX7_place 1 = .ok (.iload_n 1, 1) := by decide +kernel
theorem dX7_place_2 : decode cX7_place 2 = .ok (.invokevirtual 86, 3) := by decide +kernel
theorem dX7_place_5 : decode cX7_place 5 = .ok (.ifCond .ne 5, 3) := by decide +kernel
theorem dX7_place_8 : decode cX7_place 8 = .ok (.iconst (-1), 1) := by decide +kernel
theorem dX7_place_9 : decode cX7_place 9 = .ok (.ireturn, 1) := by decide +kernel
theorem dX7_place_10 : decode cX7_place 10 = .ok (.iload_n 2, 1) := by decide +kernel
theorem dX7_place_11 : decode cX7_place 11 = .ok (.invokestatic 60, 3) := by decide +kernel
theorem dX7_place_14 : decode cX7_place 14 = .ok (.ifCond .ne 6, 3) := by decide +kernel
theorem dX7_place_17 : decode cX7_place 17 = .ok (.bipush (-2), 2) := by decide +kernel
theorem dX7_place_19 : decode cX7_place 19 = .ok (.ireturn, 1) := by decide +kernel
theorem dX7_place_20 : decode cX7_place 20 = .ok (.aload_n 0, 1) := by decide +kernel
theorem dX7_place_21 : decode cX7_place 21 = .ok (.invokevirtual 72, 3) := by decide +kernel
theorem dX7_place_24 : decode cX7_place 24 = .ok (.sipush 10000, 3) := by decide +kernel
theorem dX7_place_27 : decode cX7_place 27 = .ok (.aload_n 0, 1) := by decide +kernel
theorem dX7_place_28 : decode cX7_place 28 = .ok (.iload_n 1, 1) := by decide +kernel
theorem dX7_place_29 : decode cX7_place 29 = .ok (.iload_n 2, 1) := by decide +kernel
theorem dX7_place_30 : decode cX7_place 30 = .ok (.invokevirtual 75, 3) := by decide +kernel
theorem dX7_place_33 : decode cX7_place 33 = .ok (.iadd, 1) := by decide +kernel
theorem dX7_place_34 : decode cX7_place 34 = .ok (.ireturn, 1) := by decide +kernel
theorem dX7_seenOf_0 : decode cX7_seenOf 0 = .ok (.iconst 0, 1) := by decide +kernel
theorem dX7_seenOf_1 : decode cX7_seenOf 1 = .ok (.istore_n 2, 1) := by decide +kernel
theorem dX7_seenOf_2 : decode cX7_seenOf 2 = .ok (.iconst 0, 1) := by decide +kernel
theorem dX7_seenOf_3 : decode cX7_seenOf 3 = .ok (.istore_n 3, 1) := by decide +kernel
theorem dX7_seenOf_4 : decode cX7_seenOf 4 = .ok (.iload_n 3, 1) := by decide +kernel
theorem dX7_seenOf_5 : decode cX7_seenOf 5 = .ok (.sipush 301, 3) := by decide +kernel
theorem dX7_seenOf_8 : decode cX7_seenOf 8 = .ok (.if_icmp .ge 26, 3) := by decide +kernel
theorem dX7_seenOf_11 : decode cX7_seenOf 11 = .ok (.iload_n 2, 1) := by decide +kernel
theorem dX7_seenOf_12 : decode cX7_seenOf 12 = .ok (.aload_n 0, 1) := by decide +kernel
theorem dX7_seenOf_13 : decode cX7_seenOf 13 = .ok (.iload_n 1, 1) := by decide +kernel
theorem dX7_seenOf_14 : decode cX7_seenOf 14 = .ok (.iload_n 3, 1) := by decide +kernel
theorem dX7_seenOf_15 : decode cX7_seenOf 15 = .ok (.invokevirtual 82, 3) := by decide +kernel
theorem dX7_seenOf_18 : decode cX7_seenOf 18 = .ok (.ifCond .eq 7, 3) := by decide +kernel
theorem dX7_seenOf_21 : decode cX7_seenOf 21 = .ok (.iconst 1, 1) := by decide +kernel
theorem dX7_seenOf_22 : decode cX7_seenOf 22 = .ok (.goto 4, 3) := by decide +kernel
theorem dX7_seenOf_25 : decode cX7_seenOf 25 = .ok (.iconst 0, 1) := by decide +kernel
theorem dX7_seenOf_26 : decode cX7_seenOf 26 = .ok (.iadd, 1) := by decide +kernel
theorem dX7_seenOf_27 : decode cX7_seenOf 27 = .ok (.istore_n 2, 1) := by decide +kernel
theorem dX7_seenOf_28 : decode cX7_seenOf 28 = .ok (.iinc 3 1, 3) := by decide +kernel
theorem dX7_seenOf_31 : decode cX7_seenOf 31 = .ok (.goto (-27), 3) := by decide +kernel
theorem dX7_seenOf_34 : decode cX7_seenOf 34 = .ok (.iload_n 2, 1) := by decide +kernel
theorem dX7_seenOf_35 : decode cX7_seenOf 35 = .ok (.ireturn, 1) := by decide +kernel
theorem dX7_reach_0 : decode cX7_reach 0 = .ok (.iload_n 1, 1) := by decide +kernel
theorem dX7_reach_1 : decode cX7_reach 1 = .ok (.invokestatic 89, 3) := by decide +kernel
theorem dX7_reach_4 : decode cX7_reach 4 = .ok (.ifCond .ne 5, 3) := by decide +kernel
theorem dX7_reach_7 : decode cX7_reach 7 = .ok (.iconst (-1), 1) := by decide +kernel
theorem dX7_reach_8 : decode cX7_reach 8 = .ok (.ireturn, 1) := by decide +kernel
theorem dX7_reach_9 : decode cX7_reach 9 = .ok (.iload_n 2, 1) := by decide +kernel
theorem dX7_reach_10 : decode cX7_reach 10 = .ok (.iconst 0, 1) := by decide +kernel
theorem dX7_reach_11 : decode cX7_reach 11 = .ok (.sipush 999, 3) := by decide +kernel
theorem dX7_reach_14 : decode cX7_reach 14 = .ok (.invokestatic 56, 3) := by decide +kernel
theorem dX7_reach_17 : decode cX7_reach 17 = .ok (.ifCond .eq 19, 3) := by decide +kernel
theorem dX7_reach_20 : decode cX7_reach 20 = .ok (.iload_n 3, 1) := by decide +kernel
theorem dX7_reach_21 : decode cX7_reach 21 = .ok (.iconst 0, 1) := by decide +kernel
theorem dX7_reach_22 : decode cX7_reach 22 = .ok (.sipush 999, 3) := by decide +kernel
theorem dX7_reach_25 : decode cX7_reach 25 = .ok (.invokestatic 56, 3) := by decide +kernel
theorem dX7_reach_28 : decode cX7_reach 28 = .ok (.ifCond .eq 8, 3) := by decide +kernel
theorem dX7_reach_31 : decode cX7_reach 31 = .ok (.iload_n 2, 1) := by decide +kernel
theorem dX7_reach_32 : decode cX7_reach 32 = .ok (.iload_n 3, 1) := by decide +kernel
theorem dX7_reach_33 : decode cX7_reach 33 = .ok (.if_icmp .le 6, 3) := by decide +kernel
theorem dX7_reach_36 : decode cX7_reach 36 = .ok (.bipush (-2), 2) := by decide +kernel
theorem dX7_reach_38 : decode cX7_reach 38 = .ok (.ireturn, 1) := by decide +kernel
theorem dX7_reach_39 : decode cX7_reach 39 = .ok (.iconst 0, 1) := by decide +kernel
theorem dX7_reach_40 : decode cX7_reach 40 = .ok (.istore 4, 2) := by decide +kernel
theorem dX7_reach_42 : decode cX7_reach 42 = .ok (.iload 4, 2) := by decide +kernel
theorem dX7_reach_44 : decode cX7_reach 44 = .ok (.iconst 4, 1) := by decide +kernel
theorem dX7_reach_45 : decode cX7_reach 45 = .ok (.if_icmp .ge 48, 3) := by decide +kernel
theorem dX7_reach_48 : decode cX7_reach 48 = .ok (.iload 4, 2) := by decide +kernel
theorem dX7_reach_50 : decode cX7_reach 50 = .ok (.iload_n 1, 1) := by decide +kernel
theorem dX7_reach_51 : decode cX7_reach 51 = .ok (.if_icmp .eq 36, 3) := by decide +kernel
theorem dX7_reach_54 : decode cX7_reach 54 = .ok (.aload_n 0, 1) := by decide +kernel
theorem dX7_reach_55 : decode cX7_reach 55 = .ok (.getfield 7, 3) := by decide +kernel
theorem dX7_reach_58 : decode cX7_reach 58 = .ok (.sipush 6401, 3) := by decide +kernel
theorem dX7_reach_61 : decode cX7_reach 61 = .ok (.iload 4, 2) := by decide +kernel
theorem dX7_reach_63 : decode cX7_reach 63 = .ok (.iadd, 1) := by decide +kernel
theorem dX7_reach_64 : decode cX7_reach 64 = .ok (.iaload, 1) := by decide +kernel
theorem dX7_reach_65 : decode cX7_reach 65 = .ok (.iload_n 3, 1) := by decide +kernel
theorem dX7_reach_66 : decode cX7_reach 66 = .ok (.if_icmp .gt 21, 3) := by decide +kernel
theorem dX7_reach_69 : decode cX7_reach 69 = .ok (.iload_n 2, 1) := by decide +kernel
theorem dX7_reach_70 : decode cX7_reach 70 = .ok (.aload_n 0, 1) := by decide +kernel
theorem dX7_reach_71 : decode cX7_reach 71 = .ok (.getfield 7, 3) := by decide +kernel
theorem dX7_reach_74 : decode cX7_reach 74 = .ok (.sipush 6405, 3) := by decide +kernel
theorem dX7_reach_77 : decode cX7_reach 77 = .ok (.iload 4, 2) := by decide +kernel
theorem dX7_reach_79 : decode cX7_reach 79 = .ok (.iadd, 1) := by decide +kernel
theorem dX7_reach_80 : decode cX7_reach 80 = .ok (.iaload, 1) := by decide +kernel
theorem dX7_reach_81 : decode cX7_reach 81 = .ok (.if_icmp .gt 6, 3) := by decide +kernel
theorem dX7_reach_84 : decode cX7_reach 84 = .ok (.bipush (-5), 2) := by decide +kernel
theorem dX7_reach_86 : decode cX7_reach 86 = .ok (.ireturn, 1) := by decide +kernel
theorem dX7_reach_87 : decode cX7_reach 87 = .ok (.iinc 4 1, 3) := by decide +kernel
theorem dX7_reach_90 : decode cX7_reach 90 = .ok (.goto (-48), 3) := by decide +kernel
theorem dX7_reach_93 : decode cX7_reach 93 = .ok (.aload_n 0, 1) := by decide +kernel
theorem dX7_reach_94 : decode cX7_reach 94 = .ok (.getfield 7, 3) := by decide +kernel
theorem dX7_reach_97 : decode cX7_reach 97 = .ok (.sipush 6401, 3) := by decide +kernel
theorem dX7_reach_100 : decode cX7_reach 100 = .ok (.iload_n 1, 1) := by decide +kernel
theorem dX7_reach_101 : decode cX7_reach 101 = .ok (.iadd, 1) := by decide +kernel
theorem dX7_reach_102 : decode cX7_reach 102 = .ok (.iload_n 2, 1) := by decide +kernel
theorem dX7_reach_103 : decode cX7_reach 103 = .ok (.iastore, 1) := by decide +kernel
theorem dX7_reach_104 : decode cX7_reach 104 = .ok (.aload_n 0, 1) := by decide +kernel
theorem dX7_reach_105 : decode cX7_reach 105 = .ok (.getfield 7, 3) := by decide +kernel
theorem dX7_reach_108 : decode cX7_reach 108 = .ok (.sipush 6405, 3) := by decide +kernel
theorem dX7_reach_111 : decode cX7_reach 111 = .ok (.iload_n 1, 1) := by decide +kernel
theorem dX7_reach_112 : decode cX7_reach 112 = .ok (.iadd, 1) := by decide +kernel
theorem dX7_reach_113 : decode cX7_reach 113 = .ok (.iload_n 3, 1) := by decide +kernel
theorem dX7_reach_114 : decode cX7_reach 114 = .ok (.iastore, 1) := by decide +kernel
theorem dX7_reach_115 : decode cX7_reach 115 = .ok (.iconst 1, 1) := by decide +kernel
theorem dX7_reach_116 : decode cX7_reach 116 = .ok (.ireturn, 1) := by decide +kernel
theorem dX7_beat_0 : decode cX7_beat 0 = .ok (.iload_n 1, 1) := by decide +kernel
theorem dX7_beat_1 : decode cX7_beat 1 = .ok (.invokestatic 89, 3) := by decide +kernel
theorem dX7_beat_4 : decode cX7_beat 4 = .ok (.ifCond .ne 5, 3) := by decide +kernel
theorem dX7_beat_7 : decode cX7_beat 7 = .ok (.iconst (-1), 1) := by decide +kernel
theorem dX7_beat_8 : decode cX7_beat 8 = .ok (.ireturn, 1) := by decide +kernel
theorem dX7_beat_9 : decode cX7_beat 9 = .ok (.iload_n 2, 1) := by decide +kernel
theorem dX7_beat_10 : decode cX7_beat 10 = .ok (.iconst 1, 1) := by decide +kernel
theorem dX7_beat_11 : decode cX7_beat 11 = .ok (.bipush 20, 2) := by decide +kernel
theorem dX7_beat_13 : decode cX7_beat 13 = .ok (.invokestatic 56, 3) := by decide +kernel
theorem dX7_beat_16 : decode cX7_beat 16 = .ok (.ifCond .eq 14, 3) := by decide +kernel
theorem dX7_beat_19 : decode cX7_beat 19 = .ok (.iload_n 3, 1) := by decide +kernel
theorem dX7_beat_20 : decode cX7_beat 20 = .ok (.iconst 0, 1) := by decide +kernel
theorem dX7_beat_21 : decode cX7_beat 21 = .ok (.iload_n 2, 1) := by decide +kernel
theorem dX7_beat_22 : decode cX7_beat 22 = .ok (.iconst 1, 1) := by decide +kernel
theorem dX7_beat_23 : decode cX7_beat 23 = .ok (.isub, 1) := by decide +kernel
theorem dX7_beat_24 : decode cX7_beat 24 = .ok (.invokestatic 56, 3) := by decide +kernel
theorem dX7_beat_27 : decode cX7_beat 27 = .ok (.ifCond .ne 6, 3) := by decide +kernel
theorem dX7_beat_30 : decode cX7_beat 30 = .ok (.bipush (-2), 2) := by decide +kernel
theorem dX7_beat_32 : decode cX7_beat 32 = .ok (.ireturn, 1) := by decide +kernel
theorem dX7_beat_33 : decode cX7_beat 33 = .ok (.aload_n 0, 1) := by decide +kernel
theorem dX7_beat_34 : decode cX7_beat 34 = .ok (.getfield 7, 3) := by decide +kernel
theorem dX7_beat_37 : decode cX7_beat 37 = .ok (.sipush 6409, 3) := by decide +kernel
theorem dX7_beat_40 : decode cX7_beat 40 = .ok (.iload_n 1, 1) := by decide +kernel
theorem dX7_beat_41 : decode cX7_beat 41 = .ok (.iadd, 1) := by decide +kernel
theorem dX7_beat_42 : decode cX7_beat 42 = .ok (.iload_n 2, 1) := by decide +kernel
theorem dX7_beat_43 : decode cX7_beat 43 = .ok (.iastore, 1) := by decide +kernel
theorem dX7_beat_44 : decode cX7_beat 44 = .ok (.aload_n 0, 1) := by decide +kernel
theorem dX7_beat_45 : decode cX7_beat 45 = .ok (.getfield 7, 3) := by decide +kernel
theorem dX7_beat_48 : decode cX7_beat 48 = .ok (.sipush 6413, 3) := by decide +kernel
theorem dX7_beat_51 : decode cX7_beat 51 = .ok (.iload_n 1, 1) := by decide +kernel
theorem dX7_beat_52 : decode cX7_beat 52 = .ok (.iadd, 1) := by decide +kernel
theorem dX7_beat_53 : decode cX7_beat 53 = .ok (.iload_n 3, 1) := by decide +kernel
theorem dX7_beat_54 : decode cX7_beat 54 = .ok (.iastore, 1) := by decide +kernel
theorem dX7_beat_55 : decode cX7_beat 55 = .ok (.iconst 1, 1) := by decide +kernel
theorem dX7_beat_56 : decode cX7_beat 56 = .ok (.ireturn, 1) := by decide +kernel
theorem dX7_lanes_0 : decode cX7_lanes 0 = .ok (.iload_n 1, 1) := by decide +kernel
theorem dX7_lanes_1 : decode cX7_lanes 1 = .ok (.invokestatic 89, 3) := by decide +kernel
theorem dX7_lanes_4 : decode cX7_lanes 4 = .ok (.ifCond .ne 5, 3) := by decide +kernel
theorem dX7_lanes_7 : decode cX7_lanes 7 = .ok (.iconst (-1), 1) := by decide +kernel
theorem dX7_lanes_8 : decode cX7_lanes 8 = .ok (.ireturn, 1) := by decide +kernel
theorem dX7_lanes_9 : decode cX7_lanes 9 = .ok (.iload_n 2, 1) := by decide +kernel
theorem dX7_lanes_10 : decode cX7_lanes 10 = .ok (.iconst 0, 1) := by decide +kernel
theorem dX7_lanes_11 : decode cX7_lanes 11 = .ok (.bipush 15, 2) := by decide +kernel
theorem dX7_lanes_13 : decode cX7_lanes 13 = .ok (.invokestatic 56, 3) := by decide +kernel
theorem dX7_lanes_16 : decode cX7_lanes 16 = .ok (.ifCond .ne 6, 3) := by decide +kernel
theorem dX7_lanes_19 : decode cX7_lanes 19 = .ok (.bipush (-2), 2) := by decide +kernel
theorem dX7_lanes_21 : decode cX7_lanes 21 = .ok (.ireturn, 1) := by decide +kernel
theorem dX7_lanes_22 : decode cX7_lanes 22 = .ok (.aload_n 0, 1) := by decide +kernel
theorem dX7_lanes_23 : decode cX7_lanes 23 = .ok (.getfield 7, 3) := by decide +kernel
theorem dX7_lanes_26 : decode cX7_lanes 26 = .ok (.sipush 6417, 3) := by decide +kernel
theorem dX7_lanes_29 : decode cX7_lanes 29 = .ok (.iload_n 1, 1) := by decide +kernel
theorem dX7_lanes_30 : decode cX7_lanes 30 = .ok (.iadd, 1) := by decide +kernel
theorem dX7_lanes_31 : decode cX7_lanes 31 = .ok (.iaload, 1) := by decide +kernel
theorem dX7_lanes_32 : decode cX7_lanes 32 = .ok (.istore_n 3, 1) := by decide +kernel
theorem dX7_lanes_33 : decode cX7_lanes 33 = .ok (.aload_n 0, 1) := by decide +kernel
theorem dX7_lanes_34 : decode cX7_lanes 34 = .ok (.getfield 7, 3) := by decide +kernel
theorem dX7_lanes_37 : decode cX7_lanes 37 = .ok (.sipush 6417, 3) := by decide +kernel
theorem dX7_lanes_40 : decode cX7_lanes 40 = .ok (.iload_n 1, 1) := by decide +kernel
theorem dX7_lanes_41 : decode cX7_lanes 41 = .ok (.iadd, 1) := by decide +kernel
theorem dX7_lanes_42 : decode cX7_lanes 42 = .ok (.iload_n 2, 1) := by decide +kernel
theorem dX7_lanes_43 : decode cX7_lanes 43 = .ok (.iastore, 1) := by decide +kernel
theorem dX7_lanes_44 : decode cX7_lanes 44 = .ok (.iload_n 3, 1) := by decide +kernel
theorem dX7_lanes_45 : decode cX7_lanes 45 = .ok (.ireturn, 1) := by decide +kernel
theorem dX7_canTake_0 : decode cX7_canTake 0 = .ok (.aload_n 0, 1) := by decide +kernel
theorem dX7_canTake_1 : decode cX7_canTake 1 = .ok (.iload_n 2, 1) := by decide +kernel
theorem dX7_canTake_2 : decode cX7_canTake 2 = .ok (.iload_n 3, 1) := by decide +kernel
theorem dX7_canTake_3 : decode cX7_canTake 3 = .ok (.invokevirtual 75, 3) := by decide +kernel
theorem dX7_canTake_6 : decode cX7_canTake 6 = .ok (.istore 4, 2) := by decide +kernel
theorem dX7_canTake_8 : decode cX7_canTake 8 = .ok (.iload_n 3, 1) := by decide +kernel
theorem dX7_canTake_9 : decode cX7_canTake 9 = .ok (.aload_n 0, 1) := by decide +kernel
theorem dX7_canTake_10 : decode cX7_canTake 10 = .ok (.getfield 7, 3) := by decide +kernel
theorem dX7_canTake_13 : decode cX7_canTake 13 = .ok (.sipush 6413, 3) := by decide +kernel
theorem dX7_canTake_16 : decode cX7_canTake 16 = .ok (.iload_n 1, 1) := by decide +kernel
theorem dX7_canTake_17 : decode cX7_canTake 17 = .ok (.iadd, 1) := by decide +kernel
theorem dX7_canTake_18 : decode cX7_canTake 18 = .ok (.iaload, 1) := by decide +kernel
theorem dX7_canTake_19 : decode cX7_canTake 19 = .ok (.isub, 1) := by decide +kernel
theorem dX7_canTake_20 : decode cX7_canTake 20 = .ok (.aload_n 0, 1) := by decide +kernel
theorem dX7_canTake_21 : decode cX7_canTake 21 = .ok (.getfield 7, 3) := by decide +kernel
theorem dX7_canTake_24 : decode cX7_canTake 24 = .ok (.sipush 6409, 3) := by decide +kernel
theorem dX7_canTake_27 : decode cX7_canTake 27 = .ok (.iload_n 1, 1) := by decide +kernel
theorem dX7_canTake_28 : decode cX7_canTake 28 = .ok (.iadd, 1) := by decide +kernel
theorem dX7_canTake_29 : decode cX7_canTake 29 = .ok (.iaload, 1) := by decide +kernel
theorem dX7_canTake_30 : decode cX7_canTake 30 = .ok (.irem, 1) := by decide +kernel
theorem dX7_canTake_31 : decode cX7_canTake 31 = .ok (.ifCond .ne 7, 3) := by decide +kernel
theorem dX7_canTake_34 : decode cX7_canTake 34 = .ok (.iconst 1, 1) := by decide +kernel
theorem dX7_canTake_35 : decode cX7_canTake 35 = .ok (.goto 4, 3) := by decide +kernel
theorem dX7_canTake_38 : decode cX7_canTake 38 = .ok (.iconst 0, 1) := by decide +kernel
theorem dX7_canTake_39 : decode cX7_canTake 39 = .ok (.istore 5, 2) := by decide +kernel
theorem dX7_canTake_41 : decode cX7_canTake 41 = .ok (.aload_n 0, 1) := by decide +kernel
theorem dX7_canTake_42 : decode cX7_canTake 42 = .ok (.getfield 7, 3) := by decide +kernel
theorem dX7_canTake_45 : decode cX7_canTake 45 = .ok (.sipush 6417, 3) := by decide +kernel
theorem dX7_canTake_48 : decode cX7_canTake 48 = .ok (.iload_n 1, 1) := by decide +kernel
theorem dX7_canTake_49 : decode cX7_canTake 49 = .ok (.iadd, 1) := by decide +kernel
theorem dX7_canTake_50 : decode cX7_canTake 50 = .ok (.iaload, 1) := by decide +kernel
theorem dX7_canTake_51 : decode cX7_canTake 51 = .ok (.aload_n 0, 1) := by decide +kernel
theorem dX7_canTake_52 : decode cX7_canTake 52 = .ok (.getfield 7, 3) := by decide +kernel
theorem dX7_canTake_55 : decode cX7_canTake 55 = .ok (.sipush 321, 3) := by decide +kernel
theorem dX7_canTake_58 : decode cX7_canTake 58 = .ok (.iload_n 2, 1) := by decide +kernel
theorem dX7_canTake_59 : decode cX7_canTake 59 = .ok (.iadd, 1) := by decide +kernel
theorem dX7_canTake_60 : decode cX7_canTake 60 = .ok (.iaload, 1) := by decide +kernel
theorem dX7_canTake_61 : decode cX7_canTake 61 = .ok (.ishr, 1) := by decide +kernel
theorem dX7_canTake_62 : decode cX7_canTake 62 = .ok (.iconst 1, 1) := by decide +kernel
theorem dX7_canTake_63 : decode cX7_canTake 63 = .ok (.iand, 1) := by decide +kernel
theorem dX7_canTake_64 : decode cX7_canTake 64 = .ok (.iconst 1, 1) := by decide +kernel
theorem dX7_canTake_65 : decode cX7_canTake 65 = .ok (.if_icmp .ne 7, 3) := by decide +kernel
theorem dX7_canTake_68 : decode cX7_canTake 68 = .ok (.iconst 1, 1) := by decide +kernel
theorem dX7_canTake_69 : decode cX7_canTake 69 = .ok (.goto 4, 3) := by decide +kernel
theorem dX7_canTake_72 : decode cX7_canTake 72 = .ok (.iconst 0, 1) := by decide +kernel
theorem dX7_canTake_73 : decode cX7_canTake 73 = .ok (.istore 6, 2) := by decide +kernel
theorem dX7_canTake_75 : decode cX7_canTake 75 = .ok (.iload 5, 2) := by decide +kernel
theorem dX7_canTake_77 : decode cX7_canTake 77 = .ok (.ifCond .eq 54, 3) := by decide +kernel
theorem dX7_canTake_80 : decode cX7_canTake 80 = .ok (.iload 6, 2) := by decide +kernel
theorem dX7_canTake_82 : decode cX7_canTake 82 = .ok (.ifCond .eq 49, 3) := by decide +kernel
theorem dX7_canTake_85 : decode cX7_canTake 85 = .ok (.iload_n 3, 1) := by decide +kernel
theorem dX7_canTake_86 : decode cX7_canTake 86 = .ok (.aload_n 0, 1) := by decide +kernel
theorem dX7_canTake_87 : decode cX7_canTake 87 = .ok (.getfield 7, 3) := by decide +kernel
theorem dX7_canTake_90 : decode cX7_canTake 90 = .ok (.sipush 301, 3) := by decide +kernel
theorem dX7_canTake_93 : decode cX7_canTake 93 = .ok (.iload_n 2, 1) := by decide +kernel
theorem dX7_canTake_94 : decode cX7_canTake 94 = .ok (.iadd, 1) := by decide +kernel
theorem dX7_canTake_95 : decode cX7_canTake 95 = .ok (.iaload, 1) := by decide +kernel
theorem dX7_canTake_96 : decode cX7_canTake 96 = .ok (.if_icmp .le 35, 3) := by decide +kernel
theorem dX7_canTake_99 : decode cX7_canTake 99 = .ok (.iload 4, 2) := by decide +kernel
theorem dX7_canTake_101 : decode cX7_canTake 101 = .ok (.aload_n 0, 1) := by decide +kernel
theorem dX7_canTake_102 : decode cX7_canTake 102 = .ok (.getfield 7, 3) := by decide +kernel
theorem dX7_canTake_105 : decode cX7_canTake 105 = .ok (.sipush 6401, 3) := by decide +kernel
theorem dX7_canTake_108 : decode cX7_canTake 108 = .ok (.iload_n 1, 1) := by decide +kernel
theorem dX7_canTake_109 : decode cX7_canTake 109 = .ok (.iadd, 1) := by decide +kernel
theorem dX7_canTake_110 : decode cX7_canTake 110 = .ok (.iaload, 1) := by decide +kernel
theorem dX7_canTake_111 : decode cX7_canTake 111 = .ok (.aload_n 0, 1) := by decide +kernel
theorem dX7_canTake_112 : decode cX7_canTake 112 = .ok (.getfield 7, 3) := by decide +kernel
theorem dX7_canTake_115 : decode cX7_canTake 115 = .ok (.sipush 6405, 3) := by decide +kernel
theorem dX7_canTake_118 : decode cX7_canTake 118 = .ok (.iload_n 1, 1) := by decide +kernel
theorem dX7_canTake_119 : decode cX7_canTake 119 = .ok (.iadd, 1) := by decide +kernel
theorem dX7_canTake_120 : decode cX7_canTake 120 = .ok (.iaload, 1) := by decide +kernel
theorem dX7_canTake_121 : decode cX7_canTake 121 = .ok (.invokestatic 56, 3) := by decide +kernel
theorem dX7_canTake_124 : decode cX7_canTake 124 = .ok (.ifCond .eq 7, 3) := by decide +kernel
theorem dX7_canTake_127 : decode cX7_canTake 127 = .ok (.iconst 1, 1) := by decide +kernel
theorem dX7_canTake_128 : decode cX7_canTake 128 = .ok (.goto 4, 3) := by decide +kernel
theorem dX7_canTake_131 : decode cX7_canTake 131 = .ok (.iconst 0, 1) := by decide +kernel
theorem dX7_canTake_132 : decode cX7_canTake 132 = .ok (.ireturn, 1) := by decide +kernel
theorem dX7_can_0 : decode cX7_can 0 = .ok (.iload_n 1, 1) := by decide +kernel
theorem dX7_can_1 : decode cX7_can 1 = .ok (.invokestatic 89, 3) := by decide +kernel
theorem dX7_can_4 : decode cX7_can 4 = .ok (.ifCond .eq 11, 3) := by decide +kernel
theorem dX7_can_7 : decode cX7_can 7 = .ok (.aload_n 0, 1) := by decide +kernel
theorem dX7_can_8 : decode cX7_can 8 = .ok (.iload_n 2, 1) := by decide +kernel
theorem dX7_can_9 : decode cX7_can 9 = .ok (.invokevirtual 86, 3) := by decide +kernel
theorem dX7_can_12 : decode cX7_can 12 = .ok (.ifCond .ne 5, 3) := by decide +kernel
theorem dX7_can_15 : decode cX7_can 15 = .ok (.iconst (-1), 1) := by decide +kernel
theorem dX7_can_16 : decode cX7_can 16 = .ok (.ireturn, 1) := by decide +kernel
theorem dX7_can_17 : decode cX7_can 17 = .ok (.iload_n 3, 1) := by decide +kernel
theorem dX7_can_18 : decode cX7_can 18 = .ok (.invokestatic 60, 3) := by decide +kernel
theorem dX7_can_21 : decode cX7_can 21 = .ok (.ifCond .ne 6, 3) := by decide +kernel
theorem dX7_can_24 : decode cX7_can 24 = .ok (.bipush (-2), 2) := by decide +kernel
theorem dX7_can_26 : decode cX7_can 26 = .ok (.ireturn, 1) := by decide +kernel
theorem dX7_can_27 : decode cX7_can 27 = .ok (.aload_n 0, 1) := by decide +kernel
theorem dX7_can_28 : decode cX7_can 28 = .ok (.invokevirtual 72, 3) := by decide +kernel
theorem dX7_can_31 : decode cX7_can 31 = .ok (.aload_n 0, 1) := by decide +kernel
theorem dX7_can_32 : decode cX7_can 32 = .ok (.iload_n 1, 1) := by decide +kernel
theorem dX7_can_33 : decode cX7_can 33 = .ok (.iload_n 2, 1) := by decide +kernel
theorem dX7_can_34 : decode cX7_can 34 = .ok (.iload_n 3, 1) := by decide +kernel
theorem dX7_can_35 : decode cX7_can 35 = .ok (.invokevirtual 92, 3) := by decide +kernel
theorem dX7_can_38 : decode cX7_can 38 = .ok (.ifCond .eq 7, 3) := by decide +kernel
theorem dX7_can_41 : decode cX7_can 41 = .ok (.iconst 1, 1) := by decide +kernel
theorem dX7_can_42 : decode cX7_can 42 = .ok (.goto 4, 3) := by decide +kernel
theorem dX7_can_45 : decode cX7_can 45 = .ok (.iconst 0, 1) := by decide +kernel
theorem dX7_can_46 : decode cX7_can 46 = .ok (.ireturn, 1) := by decide +kernel
theorem dX7_layArms_0 : decode cX7_layArms 0 = .ok (.aload_n 0, 1) := by decide +kernel
theorem dX7_layArms_1 : decode cX7_layArms 1 = .ok (.invokevirtual 72, 3) := by decide +kernel
theorem dX7_layArms_4 : decode cX7_layArms 4 = .ok (.iconst 0, 1) := by decide +kernel
theorem dX7_layArms_5 : decode cX7_layArms 5 = .ok (.istore_n 2, 1) := by decide +kernel
theorem dX7_layArms_6 : decode cX7_layArms 6 = .ok (.iload_n 2, 1) := by decide +kernel
theorem dX7_layArms_7 : decode cX7_layArms 7 = .ok (.aload_n 0, 1) := by decide +kernel
theorem dX7_layArms_8 : decode cX7_layArms 8 = .ok (.getfield 7, 3) := by decide +kernel
theorem dX7_layArms_11 : decode cX7_layArms 11 = .ok (.sipush 6423, 3) := by decide +kernel
theorem dX7_layArms_14 : decode cX7_layArms 14 = .ok (.iaload, 1) := by decide +kernel
theorem dX7_layArms_15 : decode cX7_layArms 15 = .ok (.if_icmp .ge 83, 3) := by decide +kernel
theorem dX7_layArms_18 : decode cX7_layArms 18 = .ok (.iconst 0, 1) := by decide +kernel
theorem dX7_layArms_19 : decode cX7_layArms 19 = .ok (.istore_n 3, 1) := by decide +kernel
theorem dX7_layArms_20 : decode cX7_layArms 20 = .ok (.iload_n 3, 1) := by decide +kernel
theorem dX7_layArms_21 : decode cX7_layArms 21 = .ok (.sipush 301, 3) := by decide +kernel
theorem dX7_layArms_24 : decode cX7_layArms 24 = .ok (.if_icmp .ge 68, 3) := by decide +kernel
theorem dX7_layArms_27 : decode cX7_layArms 27 = .ok (.bipush (-6), 2) := by decide +kernel
theorem dX7_layArms_29 : decode cX7_layArms 29 = .ok (.istore 4, 2) := by decide +kernel
theorem dX7_layArms_31 : decode cX7_layArms 31 = .ok (.iconst 0, 1) := by decide +kernel
theorem dX7_layArms_32 : decode cX7_layArms 32 = .ok (.istore 5, 2) := by decide +kernel
theorem dX7_layArms_34 : decode cX7_layArms 34 = .ok (.iload 5, 2) := by decide +kernel
theorem dX7_layArms_36 : decode cX7_layArms 36 = .ok (.iconst 4, 1) := by decide +kernel
theorem dX7_layArms_37 : decode cX7_layArms 37 = .ok (.if_icmp .ge 35, 3) := by decide +kernel
theorem dX7_layArms_40 : decode cX7_layArms 40 = .ok (.iload 5, 2) := by decide +kernel
theorem dX7_layArms_42 : decode cX7_layArms 42 = .ok (.iload_n 1, 1) := by decide +kernel
theorem dX7_layArms_43 : decode cX7_layArms 43 = .ok (.if_icmp .eq 19, 3) := by decide +kernel
theorem dX7_layArms_46 : decode cX7_layArms 46 = .ok (.aload_n 0, 1) := by decide +kernel
theorem dX7_layArms_47 : decode cX7_layArms 47 = .ok (.iload 5, 2) := by decide +kernel
theorem dX7_layArms_49 : decode cX7_layArms 49 = .ok (.iload_n 2, 1) := by decide +kernel
theorem dX7_layArms_50 : decode cX7_layArms 50 = .ok (.iload_n 3, 1) := by decide +kernel
theorem dX7_layArms_51 : decode cX7_layArms 51 = .ok (.invokevirtual 92, 3) := by decide +kernel
theorem dX7_layArms_54 : decode cX7_layArms 54 = .ok (.ifCond .eq 8, 3) := by decide +kernel
theorem dX7_layArms_57 : decode cX7_layArms 57 = .ok (.iload 5, 2) := by decide +kernel
theorem dX7_layArms_59 : decode cX7_layArms 59 = .ok (.goto 5, 3) := by decide +kernel
theorem dX7_layArms_62 : decode cX7_layArms 62 = .ok (.iload 4, 2) := by decide +kernel
theorem dX7_layArms_64 : decode cX7_layArms 64 = .ok (.istore 4, 2) := by decide +kernel
theorem dX7_layArms_66 : decode cX7_layArms 66 = .ok (.iinc 5 1, 3) := by decide +kernel
theorem dX7_layArms_69 : decode cX7_layArms 69 = .ok (.goto (-35), 3) := by decide +kernel
theorem dX7_layArms_72 : decode cX7_layArms 72 = .ok (.aload_n 0, 1) := by decide +kernel
theorem dX7_layArms_73 : decode cX7_layArms 73 = .ok (.getfield 23, 3) := by decide +kernel
theorem dX7_layArms_76 : decode cX7_layArms 76 = .ok (.sipush 301, 3) := by decide +kernel
theorem dX7_layArms_79 : decode cX7_layArms 79 = .ok (.iload_n 2, 1) := by decide +kernel
theorem dX7_layArms_80 : decode cX7_layArms 80 = .ok (.imul, 1) := by decide +kernel
theorem dX7_layArms_81 : decode cX7_layArms 81 = .ok (.iload_n 3, 1) := by decide +kernel
theorem dX7_layArms_82 : decode cX7_layArms 82 = .ok (.iadd, 1) := by decide +kernel
theorem dX7_layArms_83 : decode cX7_layArms 83 = .ok (.iload 4, 2) := by decide +kernel
theorem dX7_layArms_85 : decode cX7_layArms 85 = .ok (.iastore, 1) := by decide +kernel
theorem dX7_layArms_86 : decode cX7_layArms 86 = .ok (.iinc 3 1, 3) := by decide +kernel
theorem dX7_layArms_89 : decode cX7_layArms 89 = .ok (.goto (-69), 3) := by decide +kernel
theorem dX7_layArms_92 : decode cX7_layArms 92 = .ok (.iinc 2 1, 3) := by decide +kernel
theorem dX7_layArms_95 : decode cX7_layArms 95 = .ok (.goto (-89), 3) := by decide +kernel
theorem dX7_layArms_98 : decode cX7_layArms 98 = .ok (.return_, 1) := by decide +kernel
theorem dX7_slot_0 : decode cX7_slot 0 = .ok (.sipush 301, 3) := by decide +kernel
theorem dX7_slot_3 : decode cX7_slot 3 = .ok (.iload_n 0, 1) := by decide +kernel
theorem dX7_slot_4 : decode cX7_slot 4 = .ok (.imul, 1) := by decide +kernel
theorem dX7_slot_5 : decode cX7_slot 5 = .ok (.iload_n 1, 1) := by decide +kernel
theorem dX7_slot_6 : decode cX7_slot 6 = .ok (.iadd, 1) := by decide +kernel
theorem dX7_slot_7 : decode cX7_slot 7 = .ok (.ireturn, 1) := by decide +kernel
theorem dX7_find_0 : decode cX7_find 0 = .ok (.iconst 0, 1) := by decide +kernel
theorem dX7_find_1 : decode cX7_find 1 = .ok (.istore_n 2, 1) := by decide +kernel
theorem dX7_find_2 : decode cX7_find 2 = .ok (.iload_n 2, 1) := by decide +kernel
theorem dX7_find_3 : decode cX7_find 3 = .ok (.sipush 1204, 3) := by decide +kernel
theorem dX7_find_6 : decode cX7_find 6 = .ok (.if_icmp .ge 17, 3) := by decide +kernel
theorem dX7_find_9 : decode cX7_find 9 = .ok (.aload_n 0, 1) := by decide +kernel
theorem dX7_find_10 : decode cX7_find 10 = .ok (.getfield 38, 3) := by decide +kernel
theorem dX7_find_13 : decode cX7_find 13 = .ok (.iload_n 2, 1) := by decide +kernel
theorem dX7_find_14 : decode cX7_find 14 = .ok (.bipush (-6), 2) := by decide +kernel
theorem dX7_find_16 : decode cX7_find 16 = .ok (.iastore, 1) := by decide +kernel
theorem dX7_find_17 : decode cX7_find 17 = .ok (.iinc 2 1, 3) := by decide +kernel
theorem dX7_find_20 : decode cX7_find 20 = .ok (.goto (-18), 3) := by decide +kernel
theorem dX7_find_23 : decode cX7_find 23 = .ok (.iconst 1, 1) := by decide +kernel
theorem dX7_find_24 : decode cX7_find 24 = .ok (.istore_n 2, 1) := by decide +kernel
theorem dX7_find_25 : decode cX7_find 25 = .ok (.aload_n 0, 1) := by decide +kernel
theorem dX7_find_26 : decode cX7_find 26 = .ok (.getfield 35, 3) := by decide +kernel
theorem dX7_find_29 : decode cX7_find 29 = .ok (.iconst 0, 1) := by decide +kernel
theorem dX7_find_30 : decode cX7_find 30 = .ok (.iload_n 1, 1) := by decide +kernel
theorem dX7_find_31 : decode cX7_find 31 = .ok (.iastore, 1) := by decide +kernel
theorem dX7_find_32 : decode cX7_find 32 = .ok (.iconst 0, 1) := by decide +kernel
theorem dX7_find_33 : decode cX7_find 33 = .ok (.istore_n 3, 1) := by decide +kernel
theorem dX7_find_34 : decode cX7_find 34 = .ok (.iload_n 3, 1) := by decide +kernel
theorem dX7_find_35 : decode cX7_find 35 = .ok (.iload_n 2, 1) := by decide +kernel
theorem dX7_find_36 : decode cX7_find 36 = .ok (.if_icmp .ge 139, 3) := by decide +kernel
theorem dX7_find_39 : decode cX7_find 39 = .ok (.aload_n 0, 1) := by decide +kernel
theorem dX7_find_40 : decode cX7_find 40 = .ok (.getfield 35, 3) := by decide +kernel
theorem dX7_find_43 : decode cX7_find 43 = .ok (.iload_n 3, 1) := by decide +kernel
theorem dX7_find_44 : decode cX7_find 44 = .ok (.iaload, 1) := by decide +kernel
theorem dX7_find_45 : decode cX7_find 45 = .ok (.istore 4, 2) := by decide +kernel
theorem dX7_find_47 : decode cX7_find 47 = .ok (.iconst 0, 1) := by decide +kernel
theorem dX7_find_48 : decode cX7_find 48 = .ok (.istore 5, 2) := by decide +kernel
theorem dX7_find_50 : decode cX7_find 50 = .ok (.iload 5, 2) := by decide +kernel
theorem dX7_find_52 : decode cX7_find 52 = .ok (.sipush 301, 3) := by decide +kernel
theorem dX7_find_55 : decode cX7_find 55 = .ok (.if_icmp .ge 114, 3) := by decide +kernel
theorem dX7_find_58 : decode cX7_find 58 = .ok (.aload_n 0, 1) := by decide +kernel
theorem dX7_find_59 : decode cX7_find 59 = .ok (.getfield 23, 3) := by decide +kernel
theorem dX7_find_62 : decode cX7_find 62 = .ok (.sipush 301, 3) := by decide +kernel
theorem dX7_find_65 : decode cX7_find 65 = .ok (.iload 4, 2) := by decide +kernel
theorem dX7_find_67 : decode cX7_find 67 = .ok (.imul, 1) := by decide +kernel
theorem dX7_find_68 : decode cX7_find 68 = .ok (.iload 5, 2) := by decide +kernel
theorem dX7_find_70 : decode cX7_find 70 = .ok (.iadd, 1) := by decide +kernel
theorem dX7_find_71 : decode cX7_find 71 = .ok (.iaload, 1) := by decide +kernel
theorem dX7_find_72 : decode cX7_find 72 = .ok (.istore 6, 2) := by decide +kernel
theorem dX7_find_74 : decode cX7_find 74 = .ok (.iload 6, 2) := by decide +kernel
theorem dX7_find_76 : decode cX7_find 76 = .ok (.ifCond .ge 7, 3) := by decide +kernel
theorem dX7_find_79 : decode cX7_find 79 = .ok (.iconst 0, 1) := by decide +kernel
theorem dX7_find_80 : decode cX7_find 80 = .ok (.goto 10, 3) := by decide +kernel
theorem dX7_find_83 : decode cX7_find 83 = .ok (.iload 6, 2) := by decide +kernel
theorem dX7_find_85 : decode cX7_find 85 = .ok (.iload 5, 2) := by decide +kernel
theorem dX7_find_87 : decode cX7_find 87 = .ok (.invokestatic 95, 3) := by decide +kernel
theorem dX7_find_90 : decode cX7_find 90 = .ok (.istore 7, 2) := by decide +kernel
theorem dX7_find_92 : decode cX7_find 92 = .ok (.iload 6, 2) := by decide +kernel
theorem dX7_find_94 : decode cX7_find 94 = .ok (.ifCond .lt 69, 3) := by decide +kernel
theorem dX7_find_97 : decode cX7_find 97 = .ok (.aload_n 0, 1) := by decide +kernel
theorem dX7_find_98 : decode cX7_find 98 = .ok (.getfield 38, 3) := by decide +kernel
theorem dX7_find_101 : decode cX7_find 101 = .ok (.iload 7, 2) := by decide +kernel
theorem dX7_find_103 : decode cX7_find 103 = .ok (.iaload, 1) := by decide +kernel
theorem dX7_find_104 : decode cX7_find 104 = .ok (.bipush (-6), 2) := by decide +kernel
theorem dX7_find_106 : decode cX7_find 106 = .ok (.if_icmp .ne 57, 3) := by decide +kernel
theorem dX7_find_109 : decode cX7_find 109 = .ok (.aload_n 0, 1) := by decide +kernel
theorem dX7_find_110 : decode cX7_find 110 = .ok (.getfield 29, 3) := by decide +kernel
theorem dX7_find_113 : decode cX7_find 113 = .ok (.iload 7, 2) := by decide +kernel
theorem dX7_find_115 : decode cX7_find 115 = .ok (.baload, 1) := by decide +kernel
theorem dX7_find_116 : decode cX7_find 116 = .ok (.ifCond .ne 47, 3) := by decide +kernel
theorem dX7_find_119 : decode cX7_find 119 = .ok (.aload_n 0, 1) := by decide +kernel
theorem dX7_find_120 : decode cX7_find 120 = .ok (.getfield 38, 3) := by decide +kernel
theorem dX7_find_123 : decode cX7_find 123 = .ok (.iload 7, 2) := by decide +kernel
theorem dX7_find_125 : decode cX7_find 125 = .ok (.iload 4, 2) := by decide +kernel
theorem dX7_find_127 : decode cX7_find 127 = .ok (.iastore, 1) := by decide +kernel
theorem dX7_find_128 : decode cX7_find 128 = .ok (.aload_n 0, 1) := by decide +kernel
theorem dX7_find_129 : decode cX7_find 129 = .ok (.getfield 26, 3) := by decide +kernel
theorem dX7_find_132 : decode cX7_find 132 = .ok (.iload 7, 2) := by decide +kernel
theorem dX7_find_134 : decode cX7_find 134 = .ok (.iaload, 1) := by decide +kernel
theorem dX7_find_135 : decode cX7_find 135 = .ok (.ifCond .ge 12, 3) := by decide +kernel
theorem dX7_find_138 : decode cX7_find 138 = .ok (.aload_n 0, 1) := by decide +kernel
theorem dX7_find_139 : decode cX7_find 139 = .ok (.iload 7, 2) := by decide +kernel
theorem dX7_find_141 : decode cX7_find 141 = .ok (.iload_n 1, 1) := by decide +kernel
theorem dX7_find_142 : decode cX7_find 142 = .ok (.invokevirtual 98, 3) := by decide +kernel
theorem dX7_find_145 : decode cX7_find 145 = .ok (.iconst 1, 1) := by decide +kernel
theorem dX7_find_146 : decode cX7_find 146 = .ok (.ireturn, 1) := by decide +kernel
theorem dX7_find_147 : decode cX7_find 147 = .ok (.aload_n 0, 1) := by decide +kernel
theorem dX7_find_148 : decode cX7_find 148 = .ok (.getfield 35, 3) := by decide +kernel
theorem dX7_find_151 : decode cX7_find 151 = .ok (.iload_n 2, 1) := by decide +kernel
theorem dX7_find_152 : decode cX7_find 152 = .ok (.aload_n 0, 1) := by decide +kernel
theorem dX7_find_153 : decode cX7_find 153 = .ok (.getfield 26, 3) := by decide +kernel
theorem dX7_find_156 : decode cX7_find 156 = .ok (.iload 7, 2) := by decide +kernel
theorem dX7_find_158 : decode cX7_find 158 = .ok (.iaload, 1) := by decide +kernel
theorem dX7_find_159 : decode cX7_find 159 = .ok (.iastore, 1) := by decide +kernel
theorem dX7_find_160 : decode cX7_find 160 = .ok (.iinc 2 1, 3) := by decide +kernel
theorem dX7_find_163 : decode cX7_find 163 = .ok (.iinc 5 1, 3) := by decide +kernel
theorem dX7_find_166 : decode cX7_find 166 = .ok (.goto (-116), 3) := by decide +kernel
theorem dX7_find_169 : decode cX7_find 169 = .ok (.iinc 3 1, 3) := by decide +kernel
theorem dX7_find_172 : decode cX7_find 172 = .ok (.goto (-138), 3) := by decide +kernel
theorem dX7_find_175 : decode cX7_find 175 = .ok (.iconst 0, 1) := by decide +kernel
theorem dX7_find_176 : decode cX7_find 176 = .ok (.ireturn, 1) := by decide +kernel
theorem dX7_turn_0 : decode cX7_turn 0 = .ok (.iload_n 1, 1) := by decide +kernel
theorem dX7_turn_1 : decode cX7_turn 1 = .ok (.istore_n 3, 1) := by decide +kernel
theorem dX7_turn_2 : decode cX7_turn 2 = .ok (.iconst 1, 1) := by decide +kernel
theorem dX7_turn_3 : decode cX7_turn 3 = .ok (.istore 4, 2) := by decide +kernel
theorem dX7_turn_5 : decode cX7_turn 5 = .ok (.iload 4, 2) := by decide +kernel
theorem dX7_turn_7 : decode cX7_turn 7 = .ok (.ifCond .eq 55, 3) := by decide +kernel
theorem dX7_turn_10 : decode cX7_turn 10 = .ok (.aload_n 0, 1) := by decide +kernel
theorem dX7_turn_11 : decode cX7_turn 11 = .ok (.getfield 38, 3) := by decide +kernel
theorem dX7_turn_14 : decode cX7_turn 14 = .ok (.iload_n 3, 1) := by decide +kernel
theorem dX7_turn_15 : decode cX7_turn 15 = .ok (.iaload, 1) := by decide +kernel
theorem dX7_turn_16 : decode cX7_turn 16 = .ok (.istore 5, 2) := by decide +kernel
theorem dX7_turn_18 : decode cX7_turn 18 = .ok (.aload_n 0, 1) := by decide +kernel
theorem dX7_turn_19 : decode cX7_turn 19 = .ok (.getfield 41, 3) := by decide +kernel
theorem dX7_turn_22 : decode cX7_turn 22 = .ok (.iload 5, 2) := by decide +kernel
theorem dX7_turn_24 : decode cX7_turn 24 = .ok (.iaload, 1) := by decide +kernel
theorem dX7_turn_25 : decode cX7_turn 25 = .ok (.istore 6, 2) := by decide +kernel
theorem dX7_turn_27 : decode cX7_turn 27 = .ok (.aload_n 0, 1) := by decide +kernel
theorem dX7_turn_28 : decode cX7_turn 28 = .ok (.getfield 26, 3) := by decide +kernel
theorem dX7_turn_31 : decode cX7_turn 31 = .ok (.iload_n 3, 1) := by decide +kernel
theorem dX7_turn_32 : decode cX7_turn 32 = .ok (.iload 5, 2) := by decide +kernel
theorem dX7_turn_34 : decode cX7_turn 34 = .ok (.iastore, 1) := by decide +kernel
theorem dX7_turn_35 : decode cX7_turn 35 = .ok (.aload_n 0, 1) := by decide +kernel
theorem dX7_turn_36 : decode cX7_turn 36 = .ok (.getfield 41, 3) := by decide +kernel
theorem dX7_turn_39 : decode cX7_turn 39 = .ok (.iload 5, 2) := by decide +kernel
theorem dX7_turn_41 : decode cX7_turn 41 = .ok (.iload_n 3, 1) := by decide +kernel
theorem dX7_turn_42 : decode cX7_turn 42 = .ok (.iastore, 1) := by decide +kernel
theorem dX7_turn_43 : decode cX7_turn 43 = .ok (.iload 5, 2) := by decide +kernel
theorem dX7_turn_45 : decode cX7_turn 45 = .ok (.iload_n 2, 1) := by decide +kernel
theorem dX7_turn_46 : decode cX7_turn 46 = .ok (.if_icmp .eq 7, 3) := by decide +kernel
theorem dX7_turn_49 : decode cX7_turn 49 = .ok (.iconst 1, 1) := by decide +kernel
theorem dX7_turn_50 : decode cX7_turn 50 = .ok (.goto 4, 3) := by decide +kernel
theorem dX7_turn_53 : decode cX7_turn 53 = .ok (.iconst 0, 1) := by decide +kernel
theorem dX7_turn_54 : decode cX7_turn 54 = .ok (.istore 4, 2) := by decide +kernel
theorem dX7_turn_56 : decode cX7_turn 56 = .ok (.iload 6, 2) := by decide +kernel
theorem dX7_turn_58 : decode cX7_turn 58 = .ok (.istore_n 3, 1) := by decide +kernel
theorem dX7_turn_59 : decode cX7_turn 59 = .ok (.goto (-54), 3) := by decide +kernel
theorem dX7_turn_62 : decode cX7_turn 62 = .ok (.return_, 1) := by decide +kernel
theorem dX7_most_0 : decode cX7_most 0 = .ok (.iconst 0, 1) := by decide +kernel
theorem dX7_most_1 : decode cX7_most 1 = .ok (.istore_n 2, 1) := by decide +kernel
theorem dX7_most_2 : decode cX7_most 2 = .ok (.iload_n 2, 1) := by decide +kernel
theorem dX7_most_3 : decode cX7_most 3 = .ok (.sipush 1204, 3) := by decide +kernel
theorem dX7_most_6 : decode cX7_most 6 = .ok (.if_icmp .ge 17, 3) := by decide +kernel
theorem dX7_most_9 : decode cX7_most 9 = .ok (.aload_n 0, 1) := by decide +kernel
theorem dX7_most_10 : decode cX7_most 10 = .ok (.getfield 26, 3) := by decide +kernel
theorem dX7_most_13 : decode cX7_most 13 = .ok (.iload_n 2, 1) := by decide +kernel
theorem dX7_most_14 : decode cX7_most 14 = .ok (.bipush (-6), 2) := by decide +kernel
theorem dX7_most_16 : decode cX7_most 16 = .ok (.iastore, 1) := by decide +kernel
theorem dX7_most_17 : decode cX7_most 17 = .ok (.iinc 2 1, 3) := by decide +kernel
theorem dX7_most_20 : decode cX7_most 20 = .ok (.goto (-18), 3) := by decide +kernel
theorem dX7_most_23 : decode cX7_most 23 = .ok (.iconst 0, 1) := by decide +kernel
theorem dX7_most_24 : decode cX7_most 24 = .ok (.istore_n 2, 1) := by decide +kernel
theorem dX7_most_25 : decode cX7_most 25 = .ok (.iconst 0, 1) := by decide +kernel
theorem dX7_most_26 : decode cX7_most 26 = .ok (.istore_n 3, 1) := by decide +kernel
theorem dX7_most_27 : decode cX7_most 27 = .ok (.iload_n 3, 1) := by decide +kernel
theorem dX7_most_28 : decode cX7_most 28 = .ok (.bipush 20, 2) := by decide +kernel
theorem dX7_most_30 : decode cX7_most 30 = .ok (.if_icmp .ge 17, 3) := by decide +kernel
theorem dX7_most_33 : decode cX7_most 33 = .ok (.aload_n 0, 1) := by decide +kernel
theorem dX7_most_34 : decode cX7_most 34 = .ok (.getfield 41, 3) := by decide +kernel
theorem dX7_most_37 : decode cX7_most 37 = .ok (.iload_n 3, 1) := by decide +kernel
theorem dX7_most_38 : decode cX7_most 38 = .ok (.bipush (-6), 2) := by decide +kernel
theorem dX7_most_40 : decode cX7_most 40 = .ok (.iastore, 1) := by decide +kernel
theorem dX7_most_41 : decode cX7_most 41 = .ok (.iinc 3 1, 3) := by decide +kernel
theorem dX7_most_44 : decode cX7_most 44 = .ok (.goto (-17), 3) := by decide +kernel
theorem dX7_most_47 : decode cX7_most 47 = .ok (.iload_n 1, 1) := by decide +kernel
theorem dX7_most_48 : decode cX7_most 48 = .ok (.istore_n 3, 1) := by decide +kernel
theorem dX7_most_49 : decode cX7_most 49 = .ok (.iload_n 3, 1) := by decide +kernel
theorem dX7_most_50 : decode cX7_most 50 = .ok (.aload_n 0, 1) := by decide +kernel
theorem dX7_most_51 : decode cX7_most 51 = .ok (.getfield 7, 3) := by decide +kernel
theorem dX7_most_54 : decode cX7_most 54 = .ok (.sipush 6423, 3) := by decide +kernel
theorem dX7_most_57 : decode cX7_most 57 = .ok (.iaload, 1) := by decide +kernel
theorem dX7_most_58 : decode cX7_most 58 = .ok (.if_icmp .ge 34, 3) := by decide +kernel
theorem dX7_most_61 : decode cX7_most 61 = .ok (.iload_n 2, 1) := by decide +kernel
theorem dX7_most_62 : decode cX7_most 62 = .ok (.aload_n 0, 1) := by decide +kernel
theorem dX7_most_63 : decode cX7_most 63 = .ok (.getfield 32, 3) := by decide +kernel
theorem dX7_most_66 : decode cX7_most 66 = .ok (.iload_n 3, 1) := by decide +kernel
theorem dX7_most_67 : decode cX7_most 67 = .ok (.baload, 1) := by decide +kernel
theorem dX7_most_68 : decode cX7_most 68 = .ok (.ifCond .ne 15, 3) := by decide +kernel
theorem dX7_most_71 : decode cX7_most 71 = .ok (.aload_n 0, 1) := by decide +kernel
theorem dX7_most_72 : decode cX7_most 72 = .ok (.iload_n 3, 1) := by decide +kernel
theorem dX7_most_73 : decode cX7_most 73 = .ok (.invokevirtual 102, 3) := by decide +kernel
theorem dX7_most_76 : decode cX7_most 76 = .ok (.ifCond .eq 7, 3) := by decide +kernel
theorem dX7_most_79 : decode cX7_most 79 = .ok (.iconst 1, 1) := by decide +kernel
theorem dX7_most_80 : decode cX7_most 80 = .ok (.goto 4, 3) := by decide +kernel
theorem dX7_most_83 : decode cX7_most 83 = .ok (.iconst 0, 1) := by decide +kernel
theorem dX7_most_84 : decode cX7_most 84 = .ok (.iadd, 1) := by decide +kernel
theorem dX7_most_85 : decode cX7_most 85 = .ok (.istore_n 2, 1) := by decide +kernel
theorem dX7_most_86 : decode cX7_most 86 = .ok (.iinc 3 1, 3) := by decide +kernel
theorem dX7_most_89 : decode cX7_most 89 = .ok (.goto (-40), 3) := by decide +kernel
theorem dX7_most_92 : decode cX7_most 92 = .ok (.iload_n 2, 1) := by decide +kernel
theorem dX7_most_93 : decode cX7_most 93 = .ok (.ireturn, 1) := by decide +kernel
theorem dX7_clear_0 : decode cX7_clear 0 = .ok (.iconst 0, 1) := by decide +kernel
theorem dX7_clear_1 : decode cX7_clear 1 = .ok (.istore_n 1, 1) := by decide +kernel
theorem dX7_clear_2 : decode cX7_clear 2 = .ok (.iload_n 1, 1) := by decide +kernel
theorem dX7_clear_3 : decode cX7_clear 3 = .ok (.sipush 1204, 3) := by decide +kernel
theorem dX7_clear_6 : decode cX7_clear 6 = .ok (.if_icmp .ge 16, 3) := by decide +kernel
theorem dX7_clear_9 : decode cX7_clear 9 = .ok (.aload_n 0, 1) := by decide +kernel
theorem dX7_clear_10 : decode cX7_clear 10 = .ok (.getfield 29, 3) := by decide +kernel
theorem dX7_clear_13 : decode cX7_clear 13 = .ok (.iload_n 1, 1) := by decide +kernel
theorem dX7_clear_14 : decode cX7_clear 14 = .ok (.iconst 0, 1) := by decide +kernel
theorem dX7_clear_15 : decode cX7_clear 15 = .ok (.bastore, 1) := by decide +kernel
theorem dX7_clear_16 : decode cX7_clear 16 = .ok (.iinc 1 1, 3) := by decide +kernel
theorem dX7_clear_19 : decode cX7_clear 19 = .ok (.goto (-17), 3) := by decide +kernel
theorem dX7_clear_22 : decode cX7_clear 22 = .ok (.iconst 0, 1) := by decide +kernel
theorem dX7_clear_23 : decode cX7_clear 23 = .ok (.istore_n 1, 1) := by decide +kernel
theorem dX7_clear_24 : decode cX7_clear 24 = .ok (.iload_n 1, 1) := by decide +kernel
theorem dX7_clear_25 : decode cX7_clear 25 = .ok (.bipush 20, 2) := by decide +kernel
theorem dX7_clear_27 : decode cX7_clear 27 = .ok (.if_icmp .ge 16, 3) := by decide +kernel
theorem dX7_clear_30 : decode cX7_clear 30 = .ok (.aload_n 0, 1) := by decide +kernel
theorem dX7_clear_31 : decode cX7_clear 31 = .ok (.getfield 32, 3) := by decide +kernel
theorem dX7_clear_34 : decode cX7_clear 34 = .ok (.iload_n 1, 1) := by decide +kernel
theorem dX7_clear_35 : decode cX7_clear 35 = .ok (.iconst 0, 1) := by decide +kernel
theorem dX7_clear_36 : decode cX7_clear 36 = .ok (.bastore, 1) := by decide +kernel
theorem dX7_clear_37 : decode cX7_clear 37 = .ok (.iinc 1 1, 3) := by decide +kernel
theorem dX7_clear_40 : decode cX7_clear 40 = .ok (.goto (-16), 3) := by decide +kernel
theorem dX7_clear_43 : decode cX7_clear 43 = .ok (.return_, 1) := by decide +kernel
theorem dX7_layPlan_0 : decode cX7_layPlan 0 = .ok (.aload_n 0, 1) := by decide +kernel
theorem dX7_layPlan_1 : decode cX7_layPlan 1 = .ok (.bipush (-6), 2) := by decide +kernel
theorem dX7_layPlan_3 : decode cX7_layPlan 3 = .ok (.invokevirtual 105, 3) := by decide +kernel
theorem dX7_layPlan_6 : decode cX7_layPlan 6 = .ok (.aload_n 0, 1) := by decide +kernel
theorem dX7_layPlan_7 : decode cX7_layPlan 7 = .ok (.invokevirtual 109, 3) := by decide +kernel
theorem dX7_layPlan_10 : decode cX7_layPlan 10 = .ok (.aload_n 0, 1) := by decide +kernel
theorem dX7_layPlan_11 : decode cX7_layPlan 11 = .ok (.aload_n 0, 1) := by decide +kernel
theorem dX7_layPlan_12 : decode cX7_layPlan 12 = .ok (.iconst 0, 1) := by decide +kernel
theorem dX7_layPlan_13 : decode cX7_layPlan 13 = .ok (.invokevirtual 112, 3) := by decide +kernel
theorem dX7_layPlan_16 : decode cX7_layPlan 16 = .ok (.putfield 115, 3) := by decide +kernel
theorem dX7_layPlan_19 : decode cX7_layPlan 19 = .ok (.aload_n 0, 1) := by decide +kernel
theorem dX7_layPlan_20 : decode cX7_layPlan 20 = .ok (.getfield 115, 3) := by decide +kernel
theorem dX7_layPlan_23 : decode cX7_layPlan 23 = .ok (.istore_n 1, 1) := by decide +kernel
theorem dX7_layPlan_24 : decode cX7_layPlan 24 = .ok (.iconst 0, 1) := by decide +kernel
theorem dX7_layPlan_25 : decode cX7_layPlan 25 = .ok (.istore_n 2, 1) := by decide +kernel
theorem dX7_layPlan_26 : decode cX7_layPlan 26 = .ok (.iload_n 2, 1) := by decide +kernel
theorem dX7_layPlan_27 : decode cX7_layPlan 27 = .ok (.aload_n 0, 1) := by decide +kernel
theorem dX7_layPlan_28 : decode cX7_layPlan 28 = .ok (.getfield 7, 3) := by decide +kernel
theorem dX7_layPlan_31 : decode cX7_layPlan 31 = .ok (.sipush 6423, 3) := by decide +kernel
theorem dX7_layPlan_34 : decode cX7_layPlan 34 = .ok (.iaload, 1) := by decide +kernel
theorem dX7_layPlan_35 : decode cX7_layPlan 35 = .ok (.if_icmp .ge 140, 3) := by decide +kernel
theorem dX7_layPlan_38 : decode cX7_layPlan 38 = .ok (.aload_n 0, 1) := by decide +kernel
theorem dX7_layPlan_39 : decode cX7_layPlan 39 = .ok (.getfield 44, 3) := by decide +kernel
theorem dX7_layPlan_42 : decode cX7_layPlan 42 = .ok (.iload_n 2, 1) := by decide +kernel
theorem dX7_layPlan_43 : decode cX7_layPlan 43 = .ok (.bipush (-6), 2) := by decide +kernel
theorem dX7_layPlan_45 : decode cX7_layPlan 45 = .ok (.iastore, 1) := by decide +kernel
theorem dX7_layPlan_46 : decode cX7_layPlan 46 = .ok (.aload_n 0, 1) := by decide +kernel
theorem dX7_layPlan_47 : decode cX7_layPlan 47 = .ok (.getfield 47, 3) := by decide +kernel
theorem dX7_layPlan_50 : decode cX7_layPlan 50 = .ok (.iload_n 2, 1) := by decide +kernel
theorem dX7_layPlan_51 : decode cX7_layPlan 51 = .ok (.bipush (-6), 2) := by decide +kernel
theorem dX7_layPlan_53 : decode cX7_layPlan 53 = .ok (.iastore, 1) := by decide +kernel
theorem dX7_layPlan_54 : decode cX7_layPlan 54 = .ok (.iconst 0, 1) := by decide +kernel
theorem dX7_layPlan_55 : decode cX7_layPlan 55 = .ok (.istore_n 3, 1) := by decide +kernel
theorem dX7_layPlan_56 : decode cX7_layPlan 56 = .ok (.iload_n 3, 1) := by decide +kernel
theorem dX7_layPlan_57 : decode cX7_layPlan 57 = .ok (.sipush 301, 3) := by decide +kernel
theorem dX7_layPlan_60 : decode cX7_layPlan 60 = .ok (.if_icmp .ge 109, 3) := by decide +kernel
theorem dX7_layPlan_63 : decode cX7_layPlan 63 = .ok (.aload_n 0, 1) := by decide +kernel
theorem dX7_layPlan_64 : decode cX7_layPlan 64 = .ok (.getfield 44, 3) := by decide +kernel
theorem dX7_layPlan_67 : decode cX7_layPlan 67 = .ok (.iload_n 2, 1) := by decide +kernel
theorem dX7_layPlan_68 : decode cX7_layPlan 68 = .ok (.iaload, 1) := by decide +kernel
theorem dX7_layPlan_69 : decode cX7_layPlan 69 = .ok (.ifCond .ge 100, 3) := by decide +kernel
theorem dX7_layPlan_72 : decode cX7_layPlan 72 = .ok (.aload_n 0, 1) := by decide +kernel
theorem dX7_layPlan_73 : decode cX7_layPlan 73 = .ok (.getfield 23, 3) := by decide +kernel
theorem dX7_layPlan_76 : decode cX7_layPlan 76 = .ok (.sipush 301, 3) := by decide +kernel
theorem dX7_layPlan_79 : decode cX7_layPlan 79 = .ok (.iload_n 2, 1) := by decide +kernel
theorem dX7_layPlan_80 : decode cX7_layPlan 80 = .ok (.imul, 1) := by decide +kernel
theorem dX7_layPlan_81 : decode cX7_layPlan 81 = .ok (.iload_n 3, 1) := by decide +kernel
theorem dX7_layPlan_82 : decode cX7_layPlan 82 = .ok (.iadd, 1) := by decide +kernel
theorem dX7_layPlan_83 : decode cX7_layPlan 83 = .ok (.iaload, 1) := by decide +kernel
theorem dX7_layPlan_84 : decode cX7_layPlan 84 = .ok (.istore 4, 2) := by decide +kernel
theorem dX7_layPlan_86 : decode cX7_layPlan 86 = .ok (.iload 4, 2) := by decide +kernel
theorem dX7_layPlan_88 : decode cX7_layPlan 88 = .ok (.ifCond .lt 75, 3) := by decide +kernel
theorem dX7_layPlan_91 : decode cX7_layPlan 91 = .ok (.aload_n 0, 1) := by decide +kernel
theorem dX7_layPlan_92 : decode cX7_layPlan 92 = .ok (.getfield 29, 3) := by decide +kernel
theorem dX7_layPlan_95 : decode cX7_layPlan 95 = .ok (.iload 4, 2) := by decide +kernel
theorem dX7_layPlan_97 : decode cX7_layPlan 97 = .ok (.iload_n 3, 1) := by decide +kernel
theorem dX7_layPlan_98 : decode cX7_layPlan 98 = .ok (.invokestatic 95, 3) := by decide +kernel
theorem dX7_layPlan_101 : decode cX7_layPlan 101 = .ok (.baload, 1) := by decide +kernel
theorem dX7_layPlan_102 : decode cX7_layPlan 102 = .ok (.ifCond .ne 61, 3) := by decide +kernel
theorem dX7_layPlan_105 : decode cX7_layPlan 105 = .ok (.aload_n 0, 1) := by decide +kernel
theorem dX7_layPlan_106 : decode cX7_layPlan 106 = .ok (.getfield 29, 3) := by decide +kernel
theorem dX7_layPlan_109 : decode cX7_layPlan 109 = .ok (.iload 4, 2) := by decide +kernel
theorem dX7_layPlan_111 : decode cX7_layPlan 111 = .ok (.iload_n 3, 1) := by decide +kernel
theorem dX7_layPlan_112 : decode cX7_layPlan 112 = .ok (.invokestatic 95, 3) := by decide +kernel
theorem dX7_layPlan_115 : decode cX7_layPlan 115 = .ok (.iconst 1, 1) := by decide +kernel
theorem dX7_layPlan_116 : decode cX7_layPlan 116 = .ok (.bastore, 1) := by decide +kernel
theorem dX7_layPlan_117 : decode cX7_layPlan 117 = .ok (.iconst 1, 1) := by decide +kernel
theorem dX7_layPlan_118 : decode cX7_layPlan 118 = .ok (.aload_n 0, 1) := by decide +kernel
theorem dX7_layPlan_119 : decode cX7_layPlan 119 = .ok (.iload_n 2, 1) := by decide +kernel
theorem dX7_layPlan_120 : decode cX7_layPlan 120 = .ok (.iconst 1, 1) := by decide +kernel
theorem dX7_layPlan_121 : decode cX7_layPlan 121 = .ok (.iadd, 1) := by decide +kernel
theorem dX7_layPlan_122 : decode cX7_layPlan 122 = .ok (.invokevirtual 112, 3) := by decide +kernel
theorem dX7_layPlan_125 : decode cX7_layPlan 125 = .ok (.iadd, 1) := by decide +kernel
theorem dX7_layPlan_126 : decode cX7_layPlan 126 = .ok (.iload_n 1, 1) := by decide +kernel
theorem dX7_layPlan_127 : decode cX7_layPlan 127 = .ok (.if_icmp .ne 24, 3) := by decide +kernel
theorem dX7_layPlan_130 : decode cX7_layPlan 130 = .ok (.aload_n 0, 1) := by decide +kernel
theorem dX7_layPlan_131 : decode cX7_layPlan 131 = .ok (.getfield 44, 3) := by decide +kernel
theorem dX7_layPlan_134 : decode cX7_layPlan 134 = .ok (.iload_n 2, 1) := by decide +kernel
theorem dX7_layPlan_135 : decode cX7_layPlan 135 = .ok (.iload_n 3, 1) := by decide +kernel
theorem dX7_layPlan_136 : decode cX7_layPlan 136 = .ok (.iastore, 1) := by decide +kernel
theorem dX7_layPlan_137 : decode cX7_layPlan 137 = .ok (.aload_n 0, 1) := by decide +kernel
theorem dX7_layPlan_138 : decode cX7_layPlan 138 = .ok (.getfield 47, 3) := by decide +kernel
theorem dX7_layPlan_141 : decode cX7_layPlan 141 = .ok (.iload_n 2, 1) := by decide +kernel
theorem dX7_layPlan_142 : decode cX7_layPlan 142 = .ok (.iload 4, 2) := by decide +kernel
theorem dX7_layPlan_144 : decode cX7_layPlan 144 = .ok (.iastore, 1) := by decide +kernel
theorem dX7_layPlan_145 : decode cX7_layPlan 145 = .ok (.iinc 1 (-1), 3) := by decide +kernel
theorem dX7_layPlan_148 : decode cX7_layPlan 148 = .ok (.goto 15, 3) := by decide +kernel
theorem dX7_layPlan_151 : decode cX7_layPlan 151 = .ok (.aload_n 0, 1) := by decide +kernel
theorem dX7_layPlan_152 : decode cX7_layPlan 152 = .ok (.getfield 29, 3) := by decide +kernel
theorem dX7_layPlan_155 : decode cX7_layPlan 155 = .ok (.iload 4, 2) := by decide +kernel
theorem dX7_layPlan_157 : decode cX7_layPlan 157 = .ok (.iload_n 3, 1) := by decide +kernel
theorem dX7_layPlan_158 : decode cX7_layPlan 158 = .ok (.invokestatic 95, 3) := by decide +kernel
theorem dX7_layPlan_161 : decode cX7_layPlan 161 = .ok (.iconst 0, 1) := by decide +kernel
theorem dX7_layPlan_162 : decode cX7_layPlan 162 = .ok (.bastore, 1) := by decide +kernel
theorem dX7_layPlan_163 : decode cX7_layPlan 163 = .ok (.iinc 3 1, 3) := by decide +kernel
theorem dX7_layPlan_166 : decode cX7_layPlan 166 = .ok (.goto (-110), 3) := by decide +kernel
theorem dX7_layPlan_169 : decode cX7_layPlan 169 = .ok (.iinc 2 1, 3) := by decide +kernel
theorem dX7_layPlan_172 : decode cX7_layPlan 172 = .ok (.goto (-146), 3) := by decide +kernel
theorem dX7_layPlan_175 : decode cX7_layPlan 175 = .ok (.return_, 1) := by decide +kernel
theorem dX7_mostWithout_0 : decode cX7_mostWithout 0 = .ok (.aload_n 0, 1) := by decide +kernel
theorem dX7_mostWithout_1 : decode cX7_mostWithout 1 = .ok (.iload_n 1, 1) := by decide +kernel
theorem dX7_mostWithout_2 : decode cX7_mostWithout 2 = .ok (.invokevirtual 105, 3) := by decide +kernel
theorem dX7_mostWithout_5 : decode cX7_mostWithout 5 = .ok (.aload_n 0, 1) := by decide +kernel
theorem dX7_mostWithout_6 : decode cX7_mostWithout 6 = .ok (.invokevirtual 109, 3) := by decide +kernel
theorem dX7_mostWithout_9 : decode cX7_mostWithout 9 = .ok (.aload_n 0, 1) := by decide +kernel
theorem dX7_mostWithout_10 : decode cX7_mostWithout 10 = .ok (.iconst 0, 1) := by decide +kernel
theorem dX7_mostWithout_11 : decode cX7_mostWithout 11 = .ok (.invokevirtual 112, 3) := by decide +kernel
theorem dX7_mostWithout_14 : decode cX7_mostWithout 14 = .ok (.ireturn, 1) := by decide +kernel
theorem dX7_layTrays_0 : decode cX7_layTrays 0 = .ok (.iconst 0, 1) := by decide +kernel
theorem dX7_layTrays_1 : decode cX7_layTrays 1 = .ok (.istore_n 1, 1) := by decide +kernel
theorem dX7_layTrays_2 : decode cX7_layTrays 2 = .ok (.iload_n 1, 1) := by decide +kernel
theorem dX7_layTrays_3 : decode cX7_layTrays 3 = .ok (.bipush 18, 2) := by decide +kernel
theorem dX7_layTrays_5 : decode cX7_layTrays 5 = .ok (.if_icmp .ge 16, 3) := by decide +kernel
theorem dX7_layTrays_8 : decode cX7_layTrays 8 = .ok (.aload_n 0, 1) := by decide +kernel
theorem dX7_layTrays_9 : decode cX7_layTrays 9 = .ok (.getfield 50, 3) := by decide +kernel
theorem dX7_layTrays_12 : decode cX7_layTrays 12 = .ok (.iload_n 1, 1) := by decide +kernel
theorem dX7_layTrays_13 : decode cX7_layTrays 13 = .ok (.iconst 0, 1) := by decide +kernel
theorem dX7_layTrays_14 : decode cX7_layTrays 14 = .ok (.iastore, 1) := by decide +kernel
theorem dX7_layTrays_15 : decode cX7_layTrays 15 = .ok (.iinc 1 1, 3) := by decide +kernel
theorem dX7_layTrays_18 : decode cX7_layTrays 18 = .ok (.goto (-16), 3) := by decide +kernel
theorem dX7_layTrays_21 : decode cX7_layTrays 21 = .ok (.iconst 0, 1) := by decide +kernel
theorem dX7_layTrays_22 : decode cX7_layTrays 22 = .ok (.istore_n 1, 1) := by decide +kernel
theorem dX7_layTrays_23 : decode cX7_layTrays 23 = .ok (.iload_n 1, 1) := by decide +kernel
theorem dX7_layTrays_24 : decode cX7_layTrays 24 = .ok (.bipush 20, 2) := by decide +kernel
theorem dX7_layTrays_26 : decode cX7_layTrays 26 = .ok (.if_icmp .ge 17, 3) := by decide +kernel
theorem dX7_layTrays_29 : decode cX7_layTrays 29 = .ok (.aload_n 0, 1) := by decide +kernel
theorem dX7_layTrays_30 : decode cX7_layTrays 30 = .ok (.getfield 53, 3) := by decide +kernel
theorem dX7_layTrays_33 : decode cX7_layTrays 33 = .ok (.iload_n 1, 1) := by decide +kernel
theorem dX7_layTrays_34 : decode cX7_layTrays 34 = .ok (.bipush (-6), 2) := by decide +kernel
theorem dX7_layTrays_36 : decode cX7_layTrays 36 = .ok (.iastore, 1) := by decide +kernel
theorem dX7_layTrays_37 : decode cX7_layTrays 37 = .ok (.iinc 1 1, 3) := by decide +kernel
theorem dX7_layTrays_40 : decode cX7_layTrays 40 = .ok (.goto (-17), 3) := by decide +kernel
theorem dX7_layTrays_43 : decode cX7_layTrays 43 = .ok (.iconst 0, 1) := by decide +kernel
theorem dX7_layTrays_44 : decode cX7_layTrays 44 = .ok (.istore_n 1, 1) := by decide +kernel
theorem dX7_layTrays_45 : decode cX7_layTrays 45 = .ok (.iload_n 1, 1) := by decide +kernel
theorem dX7_layTrays_46 : decode cX7_layTrays 46 = .ok (.sipush 1204, 3) := by decide +kernel
theorem dX7_layTrays_49 : decode cX7_layTrays 49 = .ok (.if_icmp .ge 157, 3) := by decide +kernel
theorem dX7_layTrays_52 : decode cX7_layTrays 52 = .ok (.iload_n 1, 1) := by decide +kernel
theorem dX7_layTrays_53 : decode cX7_layTrays 53 = .ok (.iconst 4, 1) := by decide +kernel
theorem dX7_layTrays_54 : decode cX7_layTrays 54 = .ok (.idiv, 1) := by decide +kernel
theorem dX7_layTrays_55 : decode cX7_layTrays 55 = .ok (.istore_n 2, 1) := by decide +kernel
theorem dX7_layTrays_56 : decode cX7_layTrays 56 = .ok (.iload_n 1, 1) := by decide +kernel
theorem dX7_layTrays_57 : decode cX7_layTrays 57 = .ok (.iconst 4, 1) := by decide +kernel
theorem dX7_layTrays_58 : decode cX7_layTrays 58 = .ok (.irem, 1) := by decide +kernel
theorem dX7_layTrays_59 : decode cX7_layTrays 59 = .ok (.istore_n 3, 1) := by decide +kernel
theorem dX7_layTrays_60 : decode cX7_layTrays 60 = .ok (.iconst 0, 1) := by decide +kernel
theorem dX7_layTrays_61 : decode cX7_layTrays 61 = .ok (.istore 4, 2) := by decide +kernel
theorem dX7_layTrays_63 : decode cX7_layTrays 63 = .ok (.iload 4, 2) := by decide +kernel
theorem dX7_layTrays_65 : decode cX7_layTrays 65 = .ok (.aload_n 0, 1) := by decide +kernel
theorem dX7_layTrays_66 : decode cX7_layTrays 66 = .ok (.getfield 7, 3) := by decide +kernel
theorem dX7_layTrays_69 : decode cX7_layTrays 69 = .ok (.sipush 6423, 3) := by decide +kernel
theorem dX7_layTrays_72 : decode cX7_layTrays 72 = .ok (.iaload, 1) := by decide +kernel
theorem dX7_layTrays_73 : decode cX7_layTrays 73 = .ok (.if_icmp .ge 127, 3) := by decide +kernel
theorem dX7_layTrays_76 : decode cX7_layTrays 76 = .ok (.aload_n 0, 1) := by decide +kernel
theorem dX7_layTrays_77 : decode cX7_layTrays 77 = .ok (.getfield 44, 3) := by decide +kernel
theorem dX7_layTrays_80 : decode cX7_layTrays 80 = .ok (.iload 4, 2) := by decide +kernel
theorem dX7_layTrays_82 : decode cX7_layTrays 82 = .ok (.iaload, 1) := by decide +kernel
theorem dX7_layTrays_83 : decode cX7_layTrays 83 = .ok (.iload_n 2, 1) := by decide +kernel
theorem dX7_layTrays_84 : decode cX7_layTrays 84 = .ok (.if_icmp .ne 110, 3) := by decide +kernel
theorem dX7_layTrays_87 : decode cX7_layTrays 87 = .ok (.aload_n 0, 1) := by decide +kernel
theorem dX7_layTrays_88 : decode cX7_layTrays 88 = .ok (.getfield 47, 3) := by decide +kernel
theorem dX7_layTrays_91 : decode cX7_layTrays 91 = .ok (.iload 4, 2) := by decide +kernel
theorem dX7_layTrays_93 : decode cX7_layTrays 93 = .ok (.iaload, 1) := by decide +kernel
theorem dX7_layTrays_94 : decode cX7_layTrays 94 = .ok (.iload_n 3, 1) := by decide +kernel
theorem dX7_layTrays_95 : decode cX7_layTrays 95 = .ok (.if_icmp .ne 99, 3) := by decide +kernel
theorem dX7_layTrays_98 : decode cX7_layTrays 98 = .ok (.bipush 6, 2) := by decide +kernel
theorem dX7_layTrays_100 : decode cX7_layTrays 100 = .ok (.aload_n 0, 1) := by decide +kernel
theorem dX7_layTrays_101 : decode cX7_layTrays 101 = .ok (.getfield 7, 3) := by decide +kernel
theorem dX7_layTrays_104 : decode cX7_layTrays 104 = .ok (.sipush 361, 3) := by decide +kernel
theorem dX7_layTrays_107 : decode cX7_layTrays 107 = .ok (.iload 4, 2) := by decide +kernel
theorem dX7_layTrays_109 : decode cX7_layTrays 109 = .ok (.iadd, 1) := by decide +kernel
theorem dX7_layTrays_110 : decode cX7_layTrays 110 = .ok (.iaload, 1) := by decide +kernel
theorem dX7_layTrays_111 : decode cX7_layTrays 111 = .ok (.imul, 1) := by decide +kernel
theorem dX7_layTrays_112 : decode cX7_layTrays 112 = .ok (.istore 5, 2) := by decide +kernel
theorem dX7_layTrays_114 : decode cX7_layTrays 114 = .ok (.iconst 0, 1) := by decide +kernel
theorem dX7_layTrays_115 : decode cX7_layTrays 115 = .ok (.istore 6, 2) := by decide +kernel
theorem dX7_layTrays_117 : decode cX7_layTrays 117 = .ok (.iconst 1, 1) := by decide +kernel
theorem dX7_layTrays_118 : decode cX7_layTrays 118 = .ok (.istore 7, 2) := by decide +kernel
theorem dX7_layTrays_120 : decode cX7_layTrays 120 = .ok (.iload 7, 2) := by decide +kernel
theorem dX7_layTrays_122 : decode cX7_layTrays 122 = .ok (.aload_n 0, 1) := by decide +kernel
theorem dX7_layTrays_123 : decode cX7_layTrays 123 = .ok (.getfield 7, 3) := by decide +kernel
theorem dX7_layTrays_126 : decode cX7_layTrays 126 = .ok (.sipush 6422, 3) := by decide +kernel
theorem dX7_layTrays_129 : decode cX7_layTrays 129 = .ok (.iaload, 1) := by decide +kernel
theorem dX7_layTrays_130 : decode cX7_layTrays 130 = .ok (.if_icmp .ge 41, 3) := by decide +kernel
theorem dX7_layTrays_133 : decode cX7_layTrays 133 = .ok (.aload_n 0, 1) := by decide +kernel
theorem dX7_layTrays_134 : decode cX7_layTrays 134 = .ok (.getfield 50, 3) := by decide +kernel
theorem dX7_layTrays_137 : decode cX7_layTrays 137 = .ok (.iload 5, 2) := by decide +kernel
theorem dX7_layTrays_139 : decode cX7_layTrays 139 = .ok (.iload 7, 2) := by decide +kernel
theorem dX7_layTrays_141 : decode cX7_layTrays 141 = .ok (.iadd, 1) := by decide +kernel
theorem dX7_layTrays_142 : decode cX7_layTrays 142 = .ok (.iaload, 1) := by decide +kernel
theorem dX7_layTrays_143 : decode cX7_layTrays 143 = .ok (.aload_n 0, 1) := by decide +kernel
theorem dX7_layTrays_144 : decode cX7_layTrays 144 = .ok (.getfield 50, 3) := by decide +kernel
theorem dX7_layTrays_147 : decode cX7_layTrays 147 = .ok (.iload 5, 2) := by decide +kernel
theorem dX7_layTrays_149 : decode cX7_layTrays 149 = .ok (.iload 6, 2) := by decide +kernel
theorem dX7_layTrays_151 : decode cX7_layTrays 151 = .ok (.iadd, 1) := by decide +kernel
theorem dX7_layTrays_152 : decode cX7_layTrays 152 = .ok (.iaload, 1) := by decide +kernel
theorem dX7_layTrays_153 : decode cX7_layTrays 153 = .ok (.if_icmp .ge 8, 3) := by decide +kernel
theorem dX7_layTrays_156 : decode cX7_layTrays 156 = .ok (.iload 7, 2) := by decide +kernel
theorem dX7_layTrays_158 : decode cX7_layTrays 158 = .ok (.goto 5, 3) := by decide +kernel
theorem dX7_layTrays_161 : decode cX7_layTrays 161 = .ok (.iload 6, 2) := by decide +kernel
theorem dX7_layTrays_163 : decode cX7_layTrays 163 = .ok (.istore 6, 2) := by decide +kernel
theorem dX7_layTrays_165 : decode cX7_layTrays 165 = .ok (.iinc 7 1, 3) := by decide +kernel
theorem dX7_layTrays_168 : decode cX7_layTrays 168 = .ok (.goto (-48), 3) := by decide +kernel
theorem dX7_layTrays_171 : decode cX7_layTrays 171 = .ok (.aload_n 0, 1) := by decide +kernel
theorem dX7_layTrays_172 : decode cX7_layTrays 172 = .ok (.getfield 50, 3) := by decide +kernel
theorem dX7_layTrays_175 : decode cX7_layTrays 175 = .ok (.iload 5, 2) := by decide +kernel
theorem dX7_layTrays_177 : decode cX7_layTrays 177 = .ok (.iload 6, 2) := by decide +kernel
theorem dX7_layTrays_179 : decode cX7_layTrays 179 = .ok (.iadd, 1) := by decide +kernel
theorem dX7_layTrays_180 : decode cX7_layTrays 180 = .ok (.dup2, 1) := by decide +kernel
theorem dX7_layTrays_181 : decode cX7_layTrays 181 = .ok (.iaload, 1) := by decide +kernel
theorem dX7_layTrays_182 : decode cX7_layTrays 182 = .ok (.iconst 1, 1) := by decide +kernel
theorem dX7_layTrays_183 : decode cX7_layTrays 183 = .ok (.iadd, 1) := by decide +kernel
theorem dX7_layTrays_184 : decode cX7_layTrays 184 = .ok (.iastore, 1) := by decide +kernel
theorem dX7_layTrays_185 : decode cX7_layTrays 185 = .ok (.aload_n 0, 1) := by decide +kernel
theorem dX7_layTrays_186 : decode cX7_layTrays 186 = .ok (.getfield 53, 3) := by decide +kernel
theorem dX7_layTrays_189 : decode cX7_layTrays 189 = .ok (.iload 4, 2) := by decide +kernel
theorem dX7_layTrays_191 : decode cX7_layTrays 191 = .ok (.iload 6, 2) := by decide +kernel
theorem dX7_layTrays_193 : decode cX7_layTrays 193 = .ok (.iastore, 1) := by decide +kernel
theorem dX7_layTrays_194 : decode cX7_layTrays 194 = .ok (.iinc 4 1, 3) := by decide +kernel
theorem dX7_layTrays_197 : decode cX7_layTrays 197 = .ok (.goto (-134), 3) := by decide +kernel
theorem dX7_layTrays_200 : decode cX7_layTrays 200 = .ok (.iinc 1 1, 3) := by decide +kernel
theorem dX7_layTrays_203 : decode cX7_layTrays 203 = .ok (.goto (-158), 3) := by decide +kernel
theorem dX7_layTrays_206 : decode cX7_layTrays 206 = .ok (.return_, 1) := by decide +kernel
theorem dX7_tray_0 : decode cX7_tray 0 = .ok (.iload_n 1, 1) := by decide +kernel
theorem dX7_tray_1 : decode cX7_tray 1 = .ok (.iconst 0, 1) := by decide +kernel
theorem dX7_tray_2 : decode cX7_tray 2 = .ok (.iconst 2, 1) := by decide +kernel
theorem dX7_tray_3 : decode cX7_tray 3 = .ok (.invokestatic 56, 3) := by decide +kernel
theorem dX7_tray_6 : decode cX7_tray 6 = .ok (.ifCond .eq 21, 3) := by decide +kernel
theorem dX7_tray_9 : decode cX7_tray 9 = .ok (.iload_n 2, 1) := by decide +kernel
theorem dX7_tray_10 : decode cX7_tray 10 = .ok (.iconst 0, 1) := by decide +kernel
theorem dX7_tray_11 : decode cX7_tray 11 = .ok (.aload_n 0, 1) := by decide +kernel
theorem dX7_tray_12 : decode cX7_tray 12 = .ok (.getfield 7, 3) := by decide +kernel
theorem dX7_tray_15 : decode cX7_tray 15 = .ok (.sipush 6422, 3) := by decide +kernel
theorem dX7_tray_18 : decode cX7_tray 18 = .ok (.iaload, 1) := by decide +kernel
theorem dX7_tray_19 : decode cX7_tray 19 = .ok (.iconst 1, 1) := by decide +kernel
theorem dX7_tray_20 : decode cX7_tray 20 = .ok (.isub, 1) := by decide +kernel
theorem dX7_tray_21 : decode cX7_tray 21 = .ok (.invokestatic 56, 3) := by decide +kernel
theorem dX7_tray_24 : decode cX7_tray 24 = .ok (.ifCond .ne 6, 3) := by decide +kernel
theorem dX7_tray_27 : decode cX7_tray 27 = .ok (.bipush (-2), 2) := by decide +kernel
theorem dX7_tray_29 : decode cX7_tray 29 = .ok (.ireturn, 1) := by decide +kernel
theorem dX7_tray_30 : decode cX7_tray 30 = .ok (.aload_n 0, 1) := by decide +kernel
theorem dX7_tray_31 : decode cX7_tray 31 = .ok (.invokevirtual 119, 3) := by decide +kernel
theorem dX7_tray_34 : decode cX7_tray 34 = .ok (.aload_n 0, 1) := by decide +kernel
theorem dX7_tray_35 : decode cX7_tray 35 = .ok (.invokevirtual 122, 3) := by decide +kernel
theorem dX7_tray_38 : decode cX7_tray 38 = .ok (.aload_n 0, 1) := by decide +kernel
theorem dX7_tray_39 : decode cX7_tray 39 = .ok (.getfield 50, 3) := by decide +kernel
theorem dX7_tray_42 : decode cX7_tray 42 = .ok (.bipush 6, 2) := by decide +kernel
theorem dX7_tray_44 : decode cX7_tray 44 = .ok (.iload_n 1, 1) := by decide +kernel
theorem dX7_tray_45 : decode cX7_tray 45 = .ok (.imul, 1) := by decide +kernel
theorem dX7_tray_46 : decode cX7_tray 46 = .ok (.iload_n 2, 1) := by decide +kernel
theorem dX7_tray_47 : decode cX7_tray 47 = .ok (.iadd, 1) := by decide +kernel
theorem dX7_tray_48 : decode cX7_tray 48 = .ok (.iaload, 1) := by decide +kernel
theorem dX7_tray_49 : decode cX7_tray 49 = .ok (.ireturn, 1) := by decide +kernel
theorem dX7_canAt_0 : decode cX7_canAt 0 = .ok (.aload_n 0, 1) := by decide +kernel
theorem dX7_canAt_1 : decode cX7_canAt 1 = .ok (.bipush (-6), 2) := by decide +kernel
theorem dX7_canAt_3 : decode cX7_canAt 3 = .ok (.invokevirtual 105, 3) := by decide +kernel
theorem dX7_canAt_6 : decode cX7_canAt 6 = .ok (.bipush (-6), 2) := by decide +kernel
theorem dX7_canAt_8 : decode cX7_canAt 8 = .ok (.istore_n 3, 1) := by decide +kernel
theorem dX7_canAt_9 : decode cX7_canAt 9 = .ok (.bipush (-6), 2) := by decide +kernel
theorem dX7_canAt_11 : decode cX7_canAt 11 = .ok (.istore 4, 2) := by decide +kernel
theorem dX7_canAt_13 : decode cX7_canAt 13 = .ok (.iconst 0, 1) := by decide +kernel
theorem dX7_canAt_14 : decode cX7_canAt 14 = .ok (.istore 5, 2) := by decide +kernel
theorem dX7_canAt_16 : decode cX7_canAt 16 = .ok (.iconst 0, 1) := by decide +kernel
theorem dX7_canAt_17 : decode cX7_canAt 17 = .ok (.istore 6, 2) := by decide +kernel
theorem dX7_canAt_19 : decode cX7_canAt 19 = .ok (.iload 6, 2) := by decide +kernel
theorem dX7_canAt_21 : decode cX7_canAt 21 = .ok (.sipush 301, 3) := by decide +kernel
theorem dX7_canAt_24 : decode cX7_canAt 24 = .ok (.if_icmp .ge 43, 3) := by decide +kernel
theorem dX7_canAt_27 : decode cX7_canAt 27 = .ok (.aload_n 0, 1) := by decide +kernel
theorem dX7_canAt_28 : decode cX7_canAt 28 = .ok (.getfield 23, 3) := by decide +kernel
theorem dX7_canAt_31 : decode cX7_canAt 31 = .ok (.sipush 301, 3) := by decide +kernel
theorem dX7_canAt_34 : decode cX7_canAt 34 = .ok (.iload_n 1, 1) := by decide +kernel
theorem dX7_canAt_35 : decode cX7_canAt 35 = .ok (.imul, 1) := by decide +kernel
theorem dX7_canAt_36 : decode cX7_canAt 36 = .ok (.iload 6, 2) := by decide +kernel
theorem dX7_canAt_38 : decode cX7_canAt 38 = .ok (.iadd, 1) := by decide +kernel
theorem dX7_canAt_39 : decode cX7_canAt 39 = .ok (.iaload, 1) := by decide +kernel
theorem dX7_canAt_40 : decode cX7_canAt 40 = .ok (.ifCond .lt 21, 3) := by decide +kernel
theorem dX7_canAt_43 : decode cX7_canAt 43 = .ok (.iload_n 3, 1) := by decide +kernel
theorem dX7_canAt_44 : decode cX7_canAt 44 = .ok (.ifCond .ge 8, 3) := by decide +kernel
theorem dX7_canAt_47 : decode cX7_canAt 47 = .ok (.iload 6, 2) := by decide +kernel
theorem dX7_canAt_49 : decode cX7_canAt 49 = .ok (.goto 4, 3) := by decide +kernel
theorem dX7_canAt_52 : decode cX7_canAt 52 = .ok (.iload_n 3, 1) := by decide +kernel
theorem dX7_canAt_53 : decode cX7_canAt 53 = .ok (.istore_n 3, 1) := by decide +kernel
theorem dX7_canAt_54 : decode cX7_canAt 54 = .ok (.iload 6, 2) := by decide +kernel
theorem dX7_canAt_56 : decode cX7_canAt 56 = .ok (.istore 4, 2) := by decide +kernel
theorem dX7_canAt_58 : decode cX7_canAt 58 = .ok (.iinc 5 1, 3) := by decide +kernel
theorem dX7_canAt_61 : decode cX7_canAt 61 = .ok (.iinc 6 1, 3) := by decide +kernel
theorem dX7_canAt_64 : decode cX7_canAt 64 = .ok (.goto (-45), 3) := by decide +kernel
theorem dX7_canAt_67 : decode cX7_canAt 67 = .ok (.iload_n 2, 1) := by decide +kernel
theorem dX7_canAt_68 : decode cX7_canAt 68 = .ok (.bipush 8, 2) := by decide +kernel
theorem dX7_canAt_70 : decode cX7_canAt 70 = .ok (.if_icmp .ne 7, 3) := by decide +kernel
theorem dX7_canAt_73 : decode cX7_canAt 73 = .ok (.iload_n 3, 1) := by decide +kernel
theorem dX7_canAt_74 : decode cX7_canAt 74 = .ok (.goto 16, 3) := by decide +kernel
theorem dX7_canAt_77 : decode cX7_canAt 77 = .ok (.iload_n 2, 1) := by decide +kernel
theorem dX7_canAt_78 : decode cX7_canAt 78 = .ok (.bipush 9, 2) := by decide +kernel
theorem dX7_canAt_80 : decode cX7_canAt 80 = .ok (.if_icmp .ne 8, 3) := by decide +kernel
theorem dX7_canAt_83 : decode cX7_canAt 83 = .ok (.iload 4, 2) := by decide +kernel
theorem dX7_canAt_85 : decode cX7_canAt 85 = .ok (.goto 5, 3) := by decide +kernel
theorem dX7_canAt_88 : decode cX7_canAt 88 = .ok (.iload 5, 2) := by decide +kernel
theorem dX7_canAt_90 : decode cX7_canAt 90 = .ok (.ireturn, 1) := by decide +kernel
theorem dX7_planned_0 : decode cX7_planned 0 = .ok (.aload_n 0, 1) := by decide +kernel
theorem dX7_planned_1 : decode cX7_planned 1 = .ok (.invokevirtual 119, 3) := by decide +kernel
theorem dX7_planned_4 : decode cX7_planned 4 = .ok (.aload_n 0, 1) := by decide +kernel
theorem dX7_planned_5 : decode cX7_planned 5 = .ok (.invokevirtual 122, 3) := by decide +kernel
theorem dX7_planned_8 : decode cX7_planned 8 = .ok (.iload_n 2, 1) := by decide +kernel
theorem dX7_planned_9 : decode cX7_planned 9 = .ok (.iconst 5, 1) := by decide +kernel
theorem dX7_planned_10 : decode cX7_planned 10 = .ok (.if_icmp .ne 12, 3) := by decide +kernel
theorem dX7_planned_13 : decode cX7_planned 13 = .ok (.aload_n 0, 1) := by decide +kernel
theorem dX7_planned_14 : decode cX7_planned 14 = .ok (.getfield 44, 3) := by decide +kernel
theorem dX7_planned_17 : decode cX7_planned 17 = .ok (.iload_n 1, 1) := by decide +kernel
theorem dX7_planned_18 : decode cX7_planned 18 = .ok (.iaload, 1) := by decide +kernel
theorem dX7_planned_19 : decode cX7_planned 19 = .ok (.goto 24, 3) := by decide +kernel
theorem dX7_planned_22 : decode cX7_planned 22 = .ok (.iload_n 2, 1) := by decide +kernel
theorem dX7_planned_23 : decode cX7_planned 23 = .ok (.bipush 6, 2) := by decide +kernel
theorem dX7_planned_25 : decode cX7_planned 25 = .ok (.if_icmp .ne 12, 3) := by decide +kernel
theorem dX7_planned_28 : decode cX7_planned 28 = .ok (.aload_n 0, 1) := by decide +kernel
theorem dX7_planned_29 : decode cX7_planned 29 = .ok (.getfield 47, 3) := by decide +kernel
theorem dX7_planned_32 : decode cX7_planned 32 = .ok (.iload_n 1, 1) := by decide +kernel
theorem dX7_planned_33 : decode cX7_planned 33 = .ok (.iaload, 1) := by decide +kernel
theorem dX7_planned_34 : decode cX7_planned 34 = .ok (.goto 9, 3) := by decide +kernel
theorem dX7_planned_37 : decode cX7_planned 37 = .ok (.aload_n 0, 1) := by decide +kernel
theorem dX7_planned_38 : decode cX7_planned 38 = .ok (.getfield 53, 3) := by decide +kernel
theorem dX7_planned_41 : decode cX7_planned 41 = .ok (.iload_n 1, 1) := by decide +kernel
theorem dX7_planned_42 : decode cX7_planned 42 = .ok (.iaload, 1) := by decide +kernel
theorem dX7_planned_43 : decode cX7_planned 43 = .ok (.ireturn, 1) := by decide +kernel
theorem dX7_thing_0 : decode cX7_thing 0 = .ok (.aload_n 0, 1) := by decide +kernel
theorem dX7_thing_1 : decode cX7_thing 1 = .ok (.iload_n 1, 1) := by decide +kernel
theorem dX7_thing_2 : decode cX7_thing 2 = .ok (.invokevirtual 86, 3) := by decide +kernel
theorem dX7_thing_5 : decode cX7_thing 5 = .ok (.ifCond .ne 5, 3) := by decide +kernel
theorem dX7_thing_8 : decode cX7_thing 8 = .ok (.iconst (-1), 1) := by decide +kernel
theorem dX7_thing_9 : decode cX7_thing 9 = .ok (.ireturn, 1) := by decide +kernel
theorem dX7_thing_10 : decode cX7_thing 10 = .ok (.iload_n 2, 1) := by decide +kernel
theorem dX7_thing_11 : decode cX7_thing 11 = .ok (.iconst 0, 1) := by decide +kernel
theorem dX7_thing_12 : decode cX7_thing 12 = .ok (.bipush 10, 2) := by decide +kernel
theorem dX7_thing_14 : decode cX7_thing 14 = .ok (.invokestatic 56, 3) := by decide +kernel
theorem dX7_thing_17 : decode cX7_thing 17 = .ok (.ifCond .ne 6, 3) := by decide +kernel
theorem dX7_thing_20 : decode cX7_thing 20 = .ok (.bipush (-2), 2) := by decide +kernel
theorem dX7_thing_22 : decode cX7_thing 22 = .ok (.ireturn, 1) := by decide +kernel
theorem dX7_thing_23 : decode cX7_thing 23 = .ok (.iload_n 2, 1) := by decide +kernel
theorem dX7_thing_24 : decode cX7_thing 24 = .ok (.iconst 4, 1) := by decide +kernel
theorem dX7_thing_25 : decode cX7_thing 25 = .ok (.if_icmp .ge 21, 3) := by decide +kernel
theorem dX7_thing_28 : decode cX7_thing 28 = .ok (.aload_n 0, 1) := by decide +kernel
theorem dX7_thing_29 : decode cX7_thing 29 = .ok (.getfield 7, 3) := by decide +kernel
theorem dX7_thing_32 : decode cX7_thing 32 = .ok (.sipush 301, 3) := by decide +kernel
theorem dX7_thing_35 : decode cX7_thing 35 = .ok (.bipush 20, 2) := by decide +kernel
theorem dX7_thing_37 : decode cX7_thing 37 = .ok (.iload_n 2, 1) := by decide +kernel
theorem dX7_thing_38 : decode cX7_thing 38 = .ok (.imul, 1) := by decide +kernel
theorem dX7_thing_39 : decode cX7_thing 39 = .ok (.iadd, 1) := by decide +kernel
theorem dX7_thing_40 : decode cX7_thing 40 = .ok (.iload_n 1, 1) := by decide +kernel
theorem dX7_thing_41 : decode cX7_thing 41 = .ok (.iadd, 1) := by decide +kernel
theorem dX7_thing_42 : decode cX7_thing 42 = .ok (.iaload, 1) := by decide +kernel
theorem dX7_thing_43 : decode cX7_thing 43 = .ok (.goto 37, 3) := by decide +kernel
theorem dX7_thing_46 : decode cX7_thing 46 = .ok (.iload_n 2, 1) := by decide +kernel
theorem dX7_thing_47 : decode cX7_thing 47 = .ok (.iconst 4, 1) := by decide +kernel
theorem dX7_thing_48 : decode cX7_thing 48 = .ok (.if_icmp .ne 11, 3) := by decide +kernel
theorem dX7_thing_51 : decode cX7_thing 51 = .ok (.aload_n 0, 1) := by decide +kernel
theorem dX7_thing_52 : decode cX7_thing 52 = .ok (.iload_n 1, 1) := by decide +kernel
theorem dX7_thing_53 : decode cX7_thing 53 = .ok (.invokevirtual 125, 3) := by decide +kernel
theorem dX7_thing_56 : decode cX7_thing 56 = .ok (.goto 24, 3) := by decide +kernel
theorem dX7_thing_59 : decode cX7_thing 59 = .ok (.iload_n 2, 1) := by decide +kernel
theorem dX7_thing_60 : decode cX7_thing 60 = .ok (.bipush 8, 2) := by decide +kernel
theorem dX7_thing_62 : decode cX7_thing 62 = .ok (.if_icmp .ge 12, 3) := by decide +kernel
theorem dX7_thing_65 : decode cX7_thing 65 = .ok (.aload_n 0, 1) := by decide +kernel
theorem dX7_thing_66 : decode cX7_thing 66 = .ok (.iload_n 1, 1) := by decide +kernel
theorem dX7_thing_67 : decode cX7_thing 67 = .ok (.iload_n 2, 1) := by decide +kernel
theorem dX7_thing_68 : decode cX7_thing 68 = .ok (.invokevirtual 128, 3) := by decide +kernel
theorem dX7_thing_71 : decode cX7_thing 71 = .ok (.goto 9, 3) := by decide +kernel
theorem dX7_thing_74 : decode cX7_thing 74 = .ok (.aload_n 0, 1) := by decide +kernel
theorem dX7_thing_75 : decode cX7_thing 75 = .ok (.iload_n 1, 1) := by decide +kernel
theorem dX7_thing_76 : decode cX7_thing 76 = .ok (.iload_n 2, 1) := by decide +kernel
theorem dX7_thing_77 : decode cX7_thing 77 = .ok (.invokevirtual 131, 3) := by decide +kernel
theorem dX7_thing_80 : decode cX7_thing 80 = .ok (.ireturn, 1) := by decide +kernel
theorem dX7_takenBy_0 : decode cX7_takenBy 0 = .ok (.aload_n 0, 1) := by decide +kernel
theorem dX7_takenBy_1 : decode cX7_takenBy 1 = .ok (.invokevirtual 119, 3) := by decide +kernel
theorem dX7_takenBy_4 : decode cX7_takenBy 4 = .ok (.iconst 0, 1) := by decide +kernel
theorem dX7_takenBy_5 : decode cX7_takenBy 5 = .ok (.istore_n 2, 1) := by decide +kernel
theorem dX7_takenBy_6 : decode cX7_takenBy 6 = .ok (.iconst 0, 1) := by decide +kernel
theorem dX7_takenBy_7 : decode cX7_takenBy 7 = .ok (.istore_n 3, 1) := by decide +kernel
theorem dX7_takenBy_8 : decode cX7_takenBy 8 = .ok (.iload_n 3, 1) := by decide +kernel
theorem dX7_takenBy_9 : decode cX7_takenBy 9 = .ok (.aload_n 0, 1) := by decide +kernel
theorem dX7_takenBy_10 : decode cX7_takenBy 10 = .ok (.getfield 7, 3) := by decide +kernel
theorem dX7_takenBy_13 : decode cX7_takenBy 13 = .ok (.sipush 6423, 3) := by decide +kernel
theorem dX7_takenBy_16 : decode cX7_takenBy 16 = .ok (.iaload, 1) := by decide +kernel
theorem dX7_takenBy_17 : decode cX7_takenBy 17 = .ok (.if_icmp .ge 27, 3) := by decide +kernel
theorem dX7_takenBy_20 : decode cX7_takenBy 20 = .ok (.iload_n 2, 1) := by decide +kernel
theorem dX7_takenBy_21 : decode cX7_takenBy 21 = .ok (.aload_n 0, 1) := by decide +kernel
theorem dX7_takenBy_22 : decode cX7_takenBy 22 = .ok (.getfield 47, 3) := by decide +kernel
theorem dX7_takenBy_25 : decode cX7_takenBy 25 = .ok (.iload_n 3, 1) := by decide +kernel
theorem dX7_takenBy_26 : decode cX7_takenBy 26 = .ok (.iaload, 1) := by decide +kernel
theorem dX7_takenBy_27 : decode cX7_takenBy 27 = .ok (.iload_n 1, 1) := by decide +kernel
theorem dX7_takenBy_28 : decode cX7_takenBy 28 = .ok (.if_icmp .ne 7, 3) := by decide +kernel
theorem dX7_takenBy_31 : decode cX7_takenBy 31 = .ok (.iconst 1, 1) := by decide +kernel
theorem dX7_takenBy_32 : decode cX7_takenBy 32 = .ok (.goto 4, 3) := by decide +kernel
theorem dX7_takenBy_35 : decode cX7_takenBy 35 = .ok (.iconst 0, 1) := by decide +kernel
theorem dX7_takenBy_36 : decode cX7_takenBy 36 = .ok (.iadd, 1) := by decide +kernel
theorem dX7_takenBy_37 : decode cX7_takenBy 37 = .ok (.istore_n 2, 1) := by decide +kernel
theorem dX7_takenBy_38 : decode cX7_takenBy 38 = .ok (.iinc 3 1, 3) := by decide +kernel
theorem dX7_takenBy_41 : decode cX7_takenBy 41 = .ok (.goto (-33), 3) := by decide +kernel
theorem dX7_takenBy_44 : decode cX7_takenBy 44 = .ok (.iload_n 2, 1) := by decide +kernel
theorem dX7_takenBy_45 : decode cX7_takenBy 45 = .ok (.ireturn, 1) := by decide +kernel
theorem dX7_arm_0 : decode cX7_arm 0 = .ok (.iload_n 1, 1) := by decide +kernel
theorem dX7_arm_1 : decode cX7_arm 1 = .ok (.invokestatic 89, 3) := by decide +kernel
theorem dX7_arm_4 : decode cX7_arm 4 = .ok (.ifCond .ne 5, 3) := by decide +kernel
theorem dX7_arm_7 : decode cX7_arm 7 = .ok (.iconst (-1), 1) := by decide +kernel
theorem dX7_arm_8 : decode cX7_arm 8 = .ok (.ireturn, 1) := by decide +kernel
theorem dX7_arm_9 : decode cX7_arm 9 = .ok (.iload_n 2, 1) := by decide +kernel
theorem dX7_arm_10 : decode cX7_arm 10 = .ok (.iconst 0, 1) := by decide +kernel
theorem dX7_arm_11 : decode cX7_arm 11 = .ok (.bipush 6, 2) := by decide +kernel
theorem dX7_arm_13 : decode cX7_arm 13 = .ok (.invokestatic 56, 3) := by decide +kernel
theorem dX7_arm_16 : decode cX7_arm 16 = .ok (.ifCond .ne 6, 3) := by decide +kernel
theorem dX7_arm_19 : decode cX7_arm 19 = .ok (.bipush (-2), 2) := by decide +kernel
theorem dX7_arm_21 : decode cX7_arm 21 = .ok (.ireturn, 1) := by decide +kernel
theorem dX7_arm_22 : decode cX7_arm 22 = .ok (.iload_n 2, 1) := by decide +kernel
theorem dX7_arm_23 : decode cX7_arm 23 = .ok (.iconst 5, 1) := by decide +kernel
theorem dX7_arm_24 : decode cX7_arm 24 = .ok (.if_icmp .ge 20, 3) := by decide +kernel
theorem dX7_arm_27 : decode cX7_arm 27 = .ok (.aload_n 0, 1) := by decide +kernel
theorem dX7_arm_28 : decode cX7_arm 28 = .ok (.getfield 7, 3) := by decide +kernel
theorem dX7_arm_31 : decode cX7_arm 31 = .ok (.sipush 6401, 3) := by decide +kernel
theorem dX7_arm_34 : decode cX7_arm 34 = .ok (.iconst 4, 1) := by decide +kernel
theorem dX7_arm_35 : decode cX7_arm 35 = .ok (.iload_n 2, 1) := by decide +kernel
theorem dX7_arm_36 : decode cX7_arm 36 = .ok (.imul, 1) := by decide +kernel
theorem dX7_arm_37 : decode cX7_arm 37 = .ok (.iadd, 1) := by decide +kernel
theorem dX7_arm_38 : decode cX7_arm 38 = .ok (.iload_n 1, 1) := by decide +kernel
theorem dX7_arm_39 : decode cX7_arm 39 = .ok (.iadd, 1) := by decide +kernel
theorem dX7_arm_40 : decode cX7_arm 40 = .ok (.iaload, 1) := by decide +kernel
theorem dX7_arm_41 : decode cX7_arm 41 = .ok (.goto 28, 3) := by decide +kernel
theorem dX7_arm_44 : decode cX7_arm 44 = .ok (.iload_n 2, 1) := by decide +kernel
theorem dX7_arm_45 : decode cX7_arm 45 = .ok (.iconst 5, 1) := by decide +kernel
theorem dX7_arm_46 : decode cX7_arm 46 = .ok (.if_icmp .ne 11, 3) := by decide +kernel
theorem dX7_arm_49 : decode cX7_arm 49 = .ok (.aload_n 0, 1) := by decide +kernel
theorem dX7_arm_50 : decode cX7_arm 50 = .ok (.iload_n 1, 1) := by decide +kernel
theorem dX7_arm_51 : decode cX7_arm 51 = .ok (.invokevirtual 134, 3) := by decide +kernel
end
section
theorem dX7_arm_54 : decode cX7_arm 54 = .ok (.goto 15, 3) := by decide +kernel
theorem dX7_arm_57 : decode cX7_arm 57 = .ok (.aload_n 0, 1) := by decide +kernel
theorem dX7_arm_58 : decode cX7_arm 58 = .ok (.bipush (-6), 2) := by decide +kernel
theorem dX7_arm_60 : decode cX7_arm 60 = .ok (.invokevirtual 137, 3) := by decide +kernel
theorem dX7_arm_63 : decode cX7_arm 63 = .ok (.aload_n 0, 1) := by decide +kernel
theorem dX7_arm_64 : decode cX7_arm 64 = .ok (.iload_n 1, 1) := by decide +kernel
theorem dX7_arm_65 : decode cX7_arm 65 = .ok (.invokevirtual 137, 3) := by decide +kernel
theorem dX7_arm_68 : decode cX7_arm 68 = .ok (.isub, 1) := by decide +kernel
theorem dX7_arm_69 : decode cX7_arm 69 = .ok (.ireturn, 1) := by decide +kernel
theorem dX7_takes_0 : decode cX7_takes 0 = .ok (.iload_n 1, 1) := by decide +kernel
theorem dX7_takes_1 : decode cX7_takes 1 = .ok (.invokestatic 89, 3) := by decide +kernel
theorem dX7_takes_4 : decode cX7_takes 4 = .ok (.ifCond .ne 5, 3) := by decide +kernel
theorem dX7_takes_7 : decode cX7_takes 7 = .ok (.iconst (-1), 1) := by decide +kernel
theorem dX7_takes_8 : decode cX7_takes 8 = .ok (.ireturn, 1) := by decide +kernel
theorem dX7_takes_9 : decode cX7_takes 9 = .ok (.iload_n 2, 1) := by decide +kernel
theorem dX7_takes_10 : decode cX7_takes 10 = .ok (.invokestatic 60, 3) := by decide +kernel
theorem dX7_takes_13 : decode cX7_takes 13 = .ok (.ifCond .ne 6, 3) := by decide +kernel
theorem dX7_takes_16 : decode cX7_takes 16 = .ok (.bipush (-2), 2) := by decide +kernel
theorem dX7_takes_18 : decode cX7_takes 18 = .ok (.ireturn, 1) := by decide +kernel
theorem dX7_takes_19 : decode cX7_takes 19 = .ok (.aload_n 0, 1) := by decide +kernel
theorem dX7_takes_20 : decode cX7_takes 20 = .ok (.invokevirtual 119, 3) := by decide +kernel
theorem dX7_takes_23 : decode cX7_takes 23 = .ok (.bipush (-6), 2) := by decide +kernel
theorem dX7_takes_25 : decode cX7_takes 25 = .ok (.istore_n 3, 1) := by decide +kernel
theorem dX7_takes_26 : decode cX7_takes 26 = .ok (.iconst 0, 1) := by decide +kernel
theorem dX7_takes_27 : decode cX7_takes 27 = .ok (.istore 4, 2) := by decide +kernel
theorem dX7_takes_29 : decode cX7_takes 29 = .ok (.iload 4, 2) := by decide +kernel
theorem dX7_takes_31 : decode cX7_takes 31 = .ok (.aload_n 0, 1) := by decide +kernel
theorem dX7_takes_32 : decode cX7_takes 32 = .ok (.getfield 7, 3) := by decide +kernel
theorem dX7_takes_35 : decode cX7_takes 35 = .ok (.sipush 6423, 3) := by decide +kernel
theorem dX7_takes_38 : decode cX7_takes 38 = .ok (.iaload, 1) := by decide +kernel
theorem dX7_takes_39 : decode cX7_takes 39 = .ok (.if_icmp .ge 38, 3) := by decide +kernel
theorem dX7_takes_42 : decode cX7_takes 42 = .ok (.aload_n 0, 1) := by decide +kernel
theorem dX7_takes_43 : decode cX7_takes 43 = .ok (.getfield 44, 3) := by decide +kernel
theorem dX7_takes_46 : decode cX7_takes 46 = .ok (.iload 4, 2) := by decide +kernel
theorem dX7_takes_48 : decode cX7_takes 48 = .ok (.iaload, 1) := by decide +kernel
theorem dX7_takes_49 : decode cX7_takes 49 = .ok (.iload_n 2, 1) := by decide +kernel
theorem dX7_takes_50 : decode cX7_takes 50 = .ok (.if_icmp .ne 19, 3) := by decide +kernel
theorem dX7_takes_53 : decode cX7_takes 53 = .ok (.aload_n 0, 1) := by decide +kernel
theorem dX7_takes_54 : decode cX7_takes 54 = .ok (.getfield 47, 3) := by decide +kernel
theorem dX7_takes_57 : decode cX7_takes 57 = .ok (.iload 4, 2) := by decide +kernel
theorem dX7_takes_59 : decode cX7_takes 59 = .ok (.iaload, 1) := by decide +kernel
theorem dX7_takes_60 : decode cX7_takes 60 = .ok (.iload_n 1, 1) := by decide +kernel
theorem dX7_takes_61 : decode cX7_takes 61 = .ok (.if_icmp .ne 8, 3) := by decide +kernel
theorem dX7_takes_64 : decode cX7_takes 64 = .ok (.iload 4, 2) := by decide +kernel
theorem dX7_takes_66 : decode cX7_takes 66 = .ok (.goto 4, 3) := by decide +kernel
theorem dX7_takes_69 : decode cX7_takes 69 = .ok (.iload_n 3, 1) := by decide +kernel
theorem dX7_takes_70 : decode cX7_takes 70 = .ok (.istore_n 3, 1) := by decide +kernel
theorem dX7_takes_71 : decode cX7_takes 71 = .ok (.iinc 4 1, 3) := by decide +kernel
theorem dX7_takes_74 : decode cX7_takes 74 = .ok (.goto (-45), 3) := by decide +kernel
theorem dX7_takes_77 : decode cX7_takes 77 = .ok (.iload_n 3, 1) := by decide +kernel
theorem dX7_takes_78 : decode cX7_takes 78 = .ok (.ireturn, 1) := by decide +kernel
theorem dX7_inEach_0 : decode cX7_inEach 0 = .ok (.aload_n 0, 1) := by decide +kernel
theorem dX7_inEach_1 : decode cX7_inEach 1 = .ok (.bipush (-6), 2) := by decide +kernel
theorem dX7_inEach_3 : decode cX7_inEach 3 = .ok (.invokevirtual 137, 3) := by decide +kernel
theorem dX7_inEach_6 : decode cX7_inEach 6 = .ok (.istore_n 1, 1) := by decide +kernel
theorem dX7_inEach_7 : decode cX7_inEach 7 = .ok (.iconst 0, 1) := by decide +kernel
theorem dX7_inEach_8 : decode cX7_inEach 8 = .ok (.istore_n 2, 1) := by decide +kernel
theorem dX7_inEach_9 : decode cX7_inEach 9 = .ok (.iconst 0, 1) := by decide +kernel
theorem dX7_inEach_10 : decode cX7_inEach 10 = .ok (.istore_n 3, 1) := by decide +kernel
theorem dX7_inEach_11 : decode cX7_inEach 11 = .ok (.iload_n 3, 1) := by decide +kernel
theorem dX7_inEach_12 : decode cX7_inEach 12 = .ok (.aload_n 0, 1) := by decide +kernel
theorem dX7_inEach_13 : decode cX7_inEach 13 = .ok (.getfield 7, 3) := by decide +kernel
theorem dX7_inEach_16 : decode cX7_inEach 16 = .ok (.sipush 6423, 3) := by decide +kernel
theorem dX7_inEach_19 : decode cX7_inEach 19 = .ok (.iaload, 1) := by decide +kernel
theorem dX7_inEach_20 : decode cX7_inEach 20 = .ok (.if_icmp .ge 42, 3) := by decide +kernel
theorem dX7_inEach_23 : decode cX7_inEach 23 = .ok (.aload_n 0, 1) := by decide +kernel
theorem dX7_inEach_24 : decode cX7_inEach 24 = .ok (.getfield 32, 3) := by decide +kernel
theorem dX7_inEach_27 : decode cX7_inEach 27 = .ok (.iload_n 3, 1) := by decide +kernel
theorem dX7_inEach_28 : decode cX7_inEach 28 = .ok (.iconst 1, 1) := by decide +kernel
theorem dX7_inEach_29 : decode cX7_inEach 29 = .ok (.bastore, 1) := by decide +kernel
theorem dX7_inEach_30 : decode cX7_inEach 30 = .ok (.iload_n 2, 1) := by decide +kernel
theorem dX7_inEach_31 : decode cX7_inEach 31 = .ok (.aload_n 0, 1) := by decide +kernel
theorem dX7_inEach_32 : decode cX7_inEach 32 = .ok (.iconst 0, 1) := by decide +kernel
theorem dX7_inEach_33 : decode cX7_inEach 33 = .ok (.invokevirtual 112, 3) := by decide +kernel
theorem dX7_inEach_36 : decode cX7_inEach 36 = .ok (.iload_n 1, 1) := by decide +kernel
theorem dX7_inEach_37 : decode cX7_inEach 37 = .ok (.if_icmp .ge 9, 3) := by decide +kernel
theorem dX7_inEach_40 : decode cX7_inEach 40 = .ok (.iconst 1, 1) := by decide +kernel
theorem dX7_inEach_41 : decode cX7_inEach 41 = .ok (.iload_n 3, 1) := by decide +kernel
theorem dX7_inEach_42 : decode cX7_inEach 42 = .ok (.ishl, 1) := by decide +kernel
theorem dX7_inEach_43 : decode cX7_inEach 43 = .ok (.goto 4, 3) := by decide +kernel
theorem dX7_inEach_46 : decode cX7_inEach 46 = .ok (.iconst 0, 1) := by decide +kernel
theorem dX7_inEach_47 : decode cX7_inEach 47 = .ok (.ior, 1) := by decide +kernel
theorem dX7_inEach_48 : decode cX7_inEach 48 = .ok (.istore_n 2, 1) := by decide +kernel
theorem dX7_inEach_49 : decode cX7_inEach 49 = .ok (.aload_n 0, 1) := by decide +kernel
theorem dX7_inEach_50 : decode cX7_inEach 50 = .ok (.getfield 32, 3) := by decide +kernel
theorem dX7_inEach_53 : decode cX7_inEach 53 = .ok (.iload_n 3, 1) := by decide +kernel
theorem dX7_inEach_54 : decode cX7_inEach 54 = .ok (.iconst 0, 1) := by decide +kernel
theorem dX7_inEach_55 : decode cX7_inEach 55 = .ok (.bastore, 1) := by decide +kernel
theorem dX7_inEach_56 : decode cX7_inEach 56 = .ok (.iinc 3 1, 3) := by decide +kernel
theorem dX7_inEach_59 : decode cX7_inEach 59 = .ok (.goto (-48), 3) := by decide +kernel
theorem dX7_inEach_62 : decode cX7_inEach 62 = .ok (.iload_n 2, 1) := by decide +kernel
theorem dX7_inEach_63 : decode cX7_inEach 63 = .ok (.ireturn, 1) := by decide +kernel
theorem dX7_plan_0 : decode cX7_plan 0 = .ok (.iload_n 1, 1) := by decide +kernel
theorem dX7_plan_1 : decode cX7_plan 1 = .ok (.iconst 0, 1) := by decide +kernel
theorem dX7_plan_2 : decode cX7_plan 2 = .ok (.iconst 4, 1) := by decide +kernel
theorem dX7_plan_3 : decode cX7_plan 3 = .ok (.invokestatic 56, 3) := by decide +kernel
theorem dX7_plan_6 : decode cX7_plan 6 = .ok (.ifCond .ne 6, 3) := by decide +kernel
theorem dX7_plan_9 : decode cX7_plan 9 = .ok (.bipush (-2), 2) := by decide +kernel
theorem dX7_plan_11 : decode cX7_plan 11 = .ok (.ireturn, 1) := by decide +kernel
theorem dX7_plan_12 : decode cX7_plan 12 = .ok (.iload_n 1, 1) := by decide +kernel
theorem dX7_plan_13 : decode cX7_plan 13 = .ok (.iconst 4, 1) := by decide +kernel
theorem dX7_plan_14 : decode cX7_plan 14 = .ok (.if_icmp .ne 8, 3) := by decide +kernel
theorem dX7_plan_17 : decode cX7_plan 17 = .ok (.aload_n 0, 1) := by decide +kernel
theorem dX7_plan_18 : decode cX7_plan 18 = .ok (.invokevirtual 140, 3) := by decide +kernel
theorem dX7_plan_21 : decode cX7_plan 21 = .ok (.ireturn, 1) := by decide +kernel
theorem dX7_plan_22 : decode cX7_plan 22 = .ok (.aload_n 0, 1) := by decide +kernel
theorem dX7_plan_23 : decode cX7_plan 23 = .ok (.invokevirtual 119, 3) := by decide +kernel
theorem dX7_plan_26 : decode cX7_plan 26 = .ok (.bipush (-6), 2) := by decide +kernel
theorem dX7_plan_28 : decode cX7_plan 28 = .ok (.istore_n 2, 1) := by decide +kernel
theorem dX7_plan_29 : decode cX7_plan 29 = .ok (.iconst 0, 1) := by decide +kernel
theorem dX7_plan_30 : decode cX7_plan 30 = .ok (.istore_n 3, 1) := by decide +kernel
theorem dX7_plan_31 : decode cX7_plan 31 = .ok (.iconst 0, 1) := by decide +kernel
theorem dX7_plan_32 : decode cX7_plan 32 = .ok (.istore 4, 2) := by decide +kernel
theorem dX7_plan_34 : decode cX7_plan 34 = .ok (.iload 4, 2) := by decide +kernel
theorem dX7_plan_36 : decode cX7_plan 36 = .ok (.aload_n 0, 1) := by decide +kernel
theorem dX7_plan_37 : decode cX7_plan 37 = .ok (.getfield 7, 3) := by decide +kernel
theorem dX7_plan_40 : decode cX7_plan 40 = .ok (.sipush 6423, 3) := by decide +kernel
theorem dX7_plan_43 : decode cX7_plan 43 = .ok (.iaload, 1) := by decide +kernel
theorem dX7_plan_44 : decode cX7_plan 44 = .ok (.if_icmp .ge 53, 3) := by decide +kernel
theorem dX7_plan_47 : decode cX7_plan 47 = .ok (.aload_n 0, 1) := by decide +kernel
theorem dX7_plan_48 : decode cX7_plan 48 = .ok (.getfield 44, 3) := by decide +kernel
theorem dX7_plan_51 : decode cX7_plan 51 = .ok (.iload 4, 2) := by decide +kernel
theorem dX7_plan_53 : decode cX7_plan 53 = .ok (.iaload, 1) := by decide +kernel
theorem dX7_plan_54 : decode cX7_plan 54 = .ok (.iload_n 2, 1) := by decide +kernel
theorem dX7_plan_55 : decode cX7_plan 55 = .ok (.if_icmp .le 13, 3) := by decide +kernel
theorem dX7_plan_58 : decode cX7_plan 58 = .ok (.aload_n 0, 1) := by decide +kernel
theorem dX7_plan_59 : decode cX7_plan 59 = .ok (.getfield 44, 3) := by decide +kernel
theorem dX7_plan_62 : decode cX7_plan 62 = .ok (.iload 4, 2) := by decide +kernel
theorem dX7_plan_64 : decode cX7_plan 64 = .ok (.iaload, 1) := by decide +kernel
theorem dX7_plan_65 : decode cX7_plan 65 = .ok (.goto 4, 3) := by decide +kernel
theorem dX7_plan_68 : decode cX7_plan 68 = .ok (.iload_n 2, 1) := by decide +kernel
theorem dX7_plan_69 : decode cX7_plan 69 = .ok (.istore_n 2, 1) := by decide +kernel
theorem dX7_plan_70 : decode cX7_plan 70 = .ok (.iload_n 3, 1) := by decide +kernel
theorem dX7_plan_71 : decode cX7_plan 71 = .ok (.aload_n 0, 1) := by decide +kernel
theorem dX7_plan_72 : decode cX7_plan 72 = .ok (.getfield 44, 3) := by decide +kernel
theorem dX7_plan_75 : decode cX7_plan 75 = .ok (.iload 4, 2) := by decide +kernel
theorem dX7_plan_77 : decode cX7_plan 77 = .ok (.iaload, 1) := by decide +kernel
theorem dX7_plan_78 : decode cX7_plan 78 = .ok (.ifCond .ge 10, 3) := by decide +kernel
theorem dX7_plan_81 : decode cX7_plan 81 = .ok (.iconst 1, 1) := by decide +kernel
theorem dX7_plan_82 : decode cX7_plan 82 = .ok (.iload 4, 2) := by decide +kernel
theorem dX7_plan_84 : decode cX7_plan 84 = .ok (.ishl, 1) := by decide +kernel
theorem dX7_plan_85 : decode cX7_plan 85 = .ok (.goto 4, 3) := by decide +kernel
theorem dX7_plan_88 : decode cX7_plan 88 = .ok (.iconst 0, 1) := by decide +kernel
theorem dX7_plan_89 : decode cX7_plan 89 = .ok (.ior, 1) := by decide +kernel
theorem dX7_plan_90 : decode cX7_plan 90 = .ok (.istore_n 3, 1) := by decide +kernel
theorem dX7_plan_91 : decode cX7_plan 91 = .ok (.iinc 4 1, 3) := by decide +kernel
theorem dX7_plan_94 : decode cX7_plan 94 = .ok (.goto (-60), 3) := by decide +kernel
theorem dX7_plan_97 : decode cX7_plan 97 = .ok (.iload_n 1, 1) := by decide +kernel
theorem dX7_plan_98 : decode cX7_plan 98 = .ok (.ifCond .ne 10, 3) := by decide +kernel
theorem dX7_plan_101 : decode cX7_plan 101 = .ok (.aload_n 0, 1) := by decide +kernel
theorem dX7_plan_102 : decode cX7_plan 102 = .ok (.getfield 115, 3) := by decide +kernel
theorem dX7_plan_105 : decode cX7_plan 105 = .ok (.goto 34, 3) := by decide +kernel
theorem dX7_plan_108 : decode cX7_plan 108 = .ok (.iload_n 1, 1) := by decide +kernel
theorem dX7_plan_109 : decode cX7_plan 109 = .ok (.iconst 1, 1) := by decide +kernel
theorem dX7_plan_110 : decode cX7_plan 110 = .ok (.if_icmp .ne 19, 3) := by decide +kernel
theorem dX7_plan_113 : decode cX7_plan 113 = .ok (.aload_n 0, 1) := by decide +kernel
theorem dX7_plan_114 : decode cX7_plan 114 = .ok (.getfield 7, 3) := by decide +kernel
theorem dX7_plan_117 : decode cX7_plan 117 = .ok (.sipush 6423, 3) := by decide +kernel
theorem dX7_plan_120 : decode cX7_plan 120 = .ok (.iaload, 1) := by decide +kernel
theorem dX7_plan_121 : decode cX7_plan 121 = .ok (.aload_n 0, 1) := by decide +kernel
theorem dX7_plan_122 : decode cX7_plan 122 = .ok (.getfield 115, 3) := by decide +kernel
theorem dX7_plan_125 : decode cX7_plan 125 = .ok (.isub, 1) := by decide +kernel
theorem dX7_plan_126 : decode cX7_plan 126 = .ok (.goto 13, 3) := by decide +kernel
theorem dX7_plan_129 : decode cX7_plan 129 = .ok (.iload_n 1, 1) := by decide +kernel
theorem dX7_plan_130 : decode cX7_plan 130 = .ok (.iconst 2, 1) := by decide +kernel
theorem dX7_plan_131 : decode cX7_plan 131 = .ok (.if_icmp .ne 7, 3) := by decide +kernel
theorem dX7_plan_134 : decode cX7_plan 134 = .ok (.iload_n 2, 1) := by decide +kernel
theorem dX7_plan_135 : decode cX7_plan 135 = .ok (.goto 4, 3) := by decide +kernel
theorem dX7_plan_138 : decode cX7_plan 138 = .ok (.iload_n 3, 1) := by decide +kernel
theorem dX7_plan_139 : decode cX7_plan 139 = .ok (.ireturn, 1) := by decide +kernel
theorem dX7_set_0 : decode cX7_set 0 = .ok (.iload_n 1, 1) := by decide +kernel
theorem dX7_set_1 : decode cX7_set 1 = .ok (.iconst 0, 1) := by decide +kernel
theorem dX7_set_2 : decode cX7_set 2 = .ok (.iconst 1, 1) := by decide +kernel
theorem dX7_set_3 : decode cX7_set 3 = .ok (.invokestatic 56, 3) := by decide +kernel
theorem dX7_set_6 : decode cX7_set 6 = .ok (.ifCond .eq 22, 3) := by decide +kernel
theorem dX7_set_9 : decode cX7_set 9 = .ok (.iload_n 2, 1) := by decide +kernel
theorem dX7_set_10 : decode cX7_set 10 = .ok (.iload_n 1, 1) := by decide +kernel
theorem dX7_set_11 : decode cX7_set 11 = .ok (.iload_n 1, 1) := by decide +kernel
theorem dX7_set_12 : decode cX7_set 12 = .ok (.ifCond .ne 8, 3) := by decide +kernel
theorem dX7_set_15 : decode cX7_set 15 = .ok (.bipush 20, 2) := by decide +kernel
theorem dX7_set_17 : decode cX7_set 17 = .ok (.goto 5, 3) := by decide +kernel
theorem dX7_set_20 : decode cX7_set 20 = .ok (.bipush 6, 2) := by decide +kernel
theorem dX7_set_22 : decode cX7_set 22 = .ok (.invokestatic 56, 3) := by decide +kernel
theorem dX7_set_25 : decode cX7_set 25 = .ok (.ifCond .ne 6, 3) := by decide +kernel
theorem dX7_set_28 : decode cX7_set 28 = .ok (.bipush (-2), 2) := by decide +kernel
theorem dX7_set_30 : decode cX7_set 30 = .ok (.ireturn, 1) := by decide +kernel
theorem dX7_set_31 : decode cX7_set 31 = .ok (.aload_n 0, 1) := by decide +kernel
theorem dX7_set_32 : decode cX7_set 32 = .ok (.getfield 7, 3) := by decide +kernel
theorem dX7_set_35 : decode cX7_set 35 = .ok (.sipush 6421, 3) := by decide +kernel
theorem dX7_set_38 : decode cX7_set 38 = .ok (.iload_n 1, 1) := by decide +kernel
theorem dX7_set_39 : decode cX7_set 39 = .ok (.iadd, 1) := by decide +kernel
theorem dX7_set_40 : decode cX7_set 40 = .ok (.iaload, 1) := by decide +kernel
theorem dX7_set_41 : decode cX7_set 41 = .ok (.istore_n 3, 1) := by decide +kernel
theorem dX7_set_42 : decode cX7_set 42 = .ok (.aload_n 0, 1) := by decide +kernel
theorem dX7_set_43 : decode cX7_set 43 = .ok (.getfield 7, 3) := by decide +kernel
theorem dX7_set_46 : decode cX7_set 46 = .ok (.sipush 6421, 3) := by decide +kernel
theorem dX7_set_49 : decode cX7_set 49 = .ok (.iload_n 1, 1) := by decide +kernel
theorem dX7_set_50 : decode cX7_set 50 = .ok (.iadd, 1) := by decide +kernel
theorem dX7_set_51 : decode cX7_set 51 = .ok (.iload_n 2, 1) := by decide +kernel
theorem dX7_set_52 : decode cX7_set 52 = .ok (.iastore, 1) := by decide +kernel
theorem dX7_set_53 : decode cX7_set 53 = .ok (.iload_n 3, 1) := by decide +kernel
theorem dX7_set_54 : decode cX7_set 54 = .ok (.ireturn, 1) := by decide +kernel
theorem dX7_image_0 : decode cX7_image 0 = .ok (.iload_n 1, 1) := by decide +kernel
theorem dX7_image_1 : decode cX7_image 1 = .ok (.iconst 0, 1) := by decide +kernel
theorem dX7_image_2 : decode cX7_image 2 = .ok (.iconst 1, 1) := by decide +kernel
theorem dX7_image_3 : decode cX7_image 3 = .ok (.invokestatic 56, 3) := by decide +kernel
theorem dX7_image_6 : decode cX7_image 6 = .ok (.ifCond .ne 6, 3) := by decide +kernel
theorem dX7_image_9 : decode cX7_image 9 = .ok (.bipush (-2), 2) := by decide +kernel
theorem dX7_image_11 : decode cX7_image 11 = .ok (.ireturn, 1) := by decide +kernel
theorem dX7_image_12 : decode cX7_image 12 = .ok (.iconst 0, 1) := by decide +kernel
theorem dX7_image_13 : decode cX7_image 13 = .ok (.istore_n 2, 1) := by decide +kernel
theorem dX7_image_14 : decode cX7_image 14 = .ok (.iload_n 2, 1) := by decide +kernel
theorem dX7_image_15 : decode cX7_image 15 = .ok (.sipush 6424, 3) := by decide +kernel
theorem dX7_image_18 : decode cX7_image 18 = .ok (.if_icmp .ge 27, 3) := by decide +kernel
theorem dX7_image_21 : decode cX7_image 21 = .ok (.aload_n 0, 1) := by decide +kernel
theorem dX7_image_22 : decode cX7_image 22 = .ok (.getfield 13, 3) := by decide +kernel
theorem dX7_image_25 : decode cX7_image 25 = .ok (.sipush 6424, 3) := by decide +kernel
theorem dX7_image_28 : decode cX7_image 28 = .ok (.iload_n 1, 1) := by decide +kernel
theorem dX7_image_29 : decode cX7_image 29 = .ok (.imul, 1) := by decide +kernel
theorem dX7_image_30 : decode cX7_image 30 = .ok (.iload_n 2, 1) := by decide +kernel
theorem dX7_image_31 : decode cX7_image 31 = .ok (.iadd, 1) := by decide +kernel
theorem dX7_image_32 : decode cX7_image 32 = .ok (.aload_n 0, 1) := by decide +kernel
theorem dX7_image_33 : decode cX7_image 33 = .ok (.getfield 7, 3) := by decide +kernel
theorem dX7_image_36 : decode cX7_image 36 = .ok (.iload_n 2, 1) := by decide +kernel
theorem dX7_image_37 : decode cX7_image 37 = .ok (.iaload, 1) := by decide +kernel
theorem dX7_image_38 : decode cX7_image 38 = .ok (.iastore, 1) := by decide +kernel
theorem dX7_image_39 : decode cX7_image 39 = .ok (.iinc 2 1, 3) := by decide +kernel
theorem dX7_image_42 : decode cX7_image 42 = .ok (.goto (-28), 3) := by decide +kernel
theorem dX7_image_45 : decode cX7_image 45 = .ok (.aload_n 0, 1) := by decide +kernel
theorem dX7_image_46 : decode cX7_image 46 = .ok (.getfield 16, 3) := by decide +kernel
theorem dX7_image_49 : decode cX7_image 49 = .ok (.iload_n 1, 1) := by decide +kernel
theorem dX7_image_50 : decode cX7_image 50 = .ok (.iconst 1, 1) := by decide +kernel
theorem dX7_image_51 : decode cX7_image 51 = .ok (.bastore, 1) := by decide +kernel
theorem dX7_image_52 : decode cX7_image 52 = .ok (.iconst 1, 1) := by decide +kernel
theorem dX7_image_53 : decode cX7_image 53 = .ok (.ireturn, 1) := by decide +kernel
theorem dX7_restore_0 : decode cX7_restore 0 = .ok (.iload_n 1, 1) := by decide +kernel
theorem dX7_restore_1 : decode cX7_restore 1 = .ok (.iconst 0, 1) := by decide +kernel
theorem dX7_restore_2 : decode cX7_restore 2 = .ok (.iconst 1, 1) := by decide +kernel
theorem dX7_restore_3 : decode cX7_restore 3 = .ok (.invokestatic 56, 3) := by decide +kernel
theorem dX7_restore_6 : decode cX7_restore 6 = .ok (.ifCond .ne 6, 3) := by decide +kernel
theorem dX7_restore_9 : decode cX7_restore 9 = .ok (.bipush (-2), 2) := by decide +kernel
theorem dX7_restore_11 : decode cX7_restore 11 = .ok (.ireturn, 1) := by decide +kernel
theorem dX7_restore_12 : decode cX7_restore 12 = .ok (.aload_n 0, 1) := by decide +kernel
theorem dX7_restore_13 : decode cX7_restore 13 = .ok (.getfield 16, 3) := by decide +kernel
theorem dX7_restore_16 : decode cX7_restore 16 = .ok (.iload_n 1, 1) := by decide +kernel
theorem dX7_restore_17 : decode cX7_restore 17 = .ok (.baload, 1) := by decide +kernel
theorem dX7_restore_18 : decode cX7_restore 18 = .ok (.ifCond .ne 6, 3) := by decide +kernel
theorem dX7_restore_21 : decode cX7_restore 21 = .ok (.bipush (-3), 2) := by decide +kernel
theorem dX7_restore_23 : decode cX7_restore 23 = .ok (.ireturn, 1) := by decide +kernel
theorem dX7_restore_24 : decode cX7_restore 24 = .ok (.iconst 0, 1) := by decide +kernel
theorem dX7_restore_25 : decode cX7_restore 25 = .ok (.istore_n 2, 1) := by decide +kernel
theorem dX7_restore_26 : decode cX7_restore 26 = .ok (.iload_n 2, 1) := by decide +kernel
theorem dX7_restore_27 : decode cX7_restore 27 = .ok (.sipush 6424, 3) := by decide +kernel
theorem dX7_restore_30 : decode cX7_restore 30 = .ok (.if_icmp .ge 27, 3) := by decide +kernel
theorem dX7_restore_33 : decode cX7_restore 33 = .ok (.aload_n 0, 1) := by decide +kernel
theorem dX7_restore_34 : decode cX7_restore 34 = .ok (.getfield 7, 3) := by decide +kernel
theorem dX7_restore_37 : decode cX7_restore 37 = .ok (.iload_n 2, 1) := by decide +kernel
theorem dX7_restore_38 : decode cX7_restore 38 = .ok (.aload_n 0, 1) := by decide +kernel
theorem dX7_restore_39 : decode cX7_restore 39 = .ok (.getfield 13, 3) := by decide +kernel
theorem dX7_restore_42 : decode cX7_restore 42 = .ok (.sipush 6424, 3) := by decide +kernel
theorem dX7_restore_45 : decode cX7_restore 45 = .ok (.iload_n 1, 1) := by decide +kernel
theorem dX7_restore_46 : decode cX7_restore 46 = .ok (.imul, 1) := by decide +kernel
theorem dX7_restore_47 : decode cX7_restore 47 = .ok (.iload_n 2, 1) := by decide +kernel
theorem dX7_restore_48 : decode cX7_restore 48 = .ok (.iadd, 1) := by decide +kernel
theorem dX7_restore_49 : decode cX7_restore 49 = .ok (.iaload, 1) := by decide +kernel
theorem dX7_restore_50 : decode cX7_restore 50 = .ok (.iastore, 1) := by decide +kernel
theorem dX7_restore_51 : decode cX7_restore 51 = .ok (.iinc 2 1, 3) := by decide +kernel
theorem dX7_restore_54 : decode cX7_restore 54 = .ok (.goto (-28), 3) := by decide +kernel
theorem dX7_restore_57 : decode cX7_restore 57 = .ok (.iconst 1, 1) := by decide +kernel
theorem dX7_restore_58 : decode cX7_restore 58 = .ok (.ireturn, 1) := by decide +kernel
theorem dX7_seenTwice_0 : decode cX7_seenTwice 0 = .ok (.iconst 0, 1) := by decide +kernel
theorem dX7_seenTwice_1 : decode cX7_seenTwice 1 = .ok (.istore_n 1, 1) := by decide +kernel
theorem dX7_seenTwice_2 : decode cX7_seenTwice 2 = .ok (.iconst 0, 1) := by decide +kernel
theorem dX7_seenTwice_3 : decode cX7_seenTwice 3 = .ok (.istore_n 2, 1) := by decide +kernel
theorem dX7_seenTwice_4 : decode cX7_seenTwice 4 = .ok (.iload_n 2, 1) := by decide +kernel
theorem dX7_seenTwice_5 : decode cX7_seenTwice 5 = .ok (.aload_n 0, 1) := by decide +kernel
theorem dX7_seenTwice_6 : decode cX7_seenTwice 6 = .ok (.getfield 7, 3) := by decide +kernel
theorem dX7_seenTwice_9 : decode cX7_seenTwice 9 = .ok (.sipush 6423, 3) := by decide +kernel
theorem dX7_seenTwice_12 : decode cX7_seenTwice 12 = .ok (.iaload, 1) := by decide +kernel
theorem dX7_seenTwice_13 : decode cX7_seenTwice 13 = .ok (.if_icmp .ge 26, 3) := by decide +kernel
theorem dX7_seenTwice_16 : decode cX7_seenTwice 16 = .ok (.iload_n 1, 1) := by decide +kernel
theorem dX7_seenTwice_17 : decode cX7_seenTwice 17 = .ok (.aload_n 0, 1) := by decide +kernel
theorem dX7_seenTwice_18 : decode cX7_seenTwice 18 = .ok (.iload_n 2, 1) := by decide +kernel
theorem dX7_seenTwice_19 : decode cX7_seenTwice 19 = .ok (.invokevirtual 125, 3) := by decide +kernel
theorem dX7_seenTwice_22 : decode cX7_seenTwice 22 = .ok (.iconst 1, 1) := by decide +kernel
theorem dX7_seenTwice_23 : decode cX7_seenTwice 23 = .ok (.if_icmp .le 7, 3) := by decide +kernel
theorem dX7_seenTwice_26 : decode cX7_seenTwice 26 = .ok (.iconst 1, 1) := by decide +kernel
theorem dX7_seenTwice_27 : decode cX7_seenTwice 27 = .ok (.goto 4, 3) := by decide +kernel
theorem dX7_seenTwice_30 : decode cX7_seenTwice 30 = .ok (.iconst 0, 1) := by decide +kernel
theorem dX7_seenTwice_31 : decode cX7_seenTwice 31 = .ok (.iadd, 1) := by decide +kernel
theorem dX7_seenTwice_32 : decode cX7_seenTwice 32 = .ok (.istore_n 1, 1) := by decide +kernel
theorem dX7_seenTwice_33 : decode cX7_seenTwice 33 = .ok (.iinc 2 1, 3) := by decide +kernel
theorem dX7_seenTwice_36 : decode cX7_seenTwice 36 = .ok (.goto (-32), 3) := by decide +kernel
theorem dX7_seenTwice_39 : decode cX7_seenTwice 39 = .ok (.iload_n 1, 1) := by decide +kernel
theorem dX7_seenTwice_40 : decode cX7_seenTwice 40 = .ok (.ireturn, 1) := by decide +kernel
theorem dX7_ofKind_0 : decode cX7_ofKind 0 = .ok (.iconst 0, 1) := by decide +kernel
theorem dX7_ofKind_1 : decode cX7_ofKind 1 = .ok (.istore_n 2, 1) := by decide +kernel
theorem dX7_ofKind_2 : decode cX7_ofKind 2 = .ok (.iconst 0, 1) := by decide +kernel
theorem dX7_ofKind_3 : decode cX7_ofKind 3 = .ok (.istore_n 3, 1) := by decide +kernel
theorem dX7_ofKind_4 : decode cX7_ofKind 4 = .ok (.iload_n 3, 1) := by decide +kernel
theorem dX7_ofKind_5 : decode cX7_ofKind 5 = .ok (.aload_n 0, 1) := by decide +kernel
theorem dX7_ofKind_6 : decode cX7_ofKind 6 = .ok (.getfield 7, 3) := by decide +kernel
theorem dX7_ofKind_9 : decode cX7_ofKind 9 = .ok (.sipush 6423, 3) := by decide +kernel
theorem dX7_ofKind_12 : decode cX7_ofKind 12 = .ok (.iaload, 1) := by decide +kernel
theorem dX7_ofKind_13 : decode cX7_ofKind 13 = .ok (.if_icmp .ge 31, 3) := by decide +kernel
theorem dX7_ofKind_16 : decode cX7_ofKind 16 = .ok (.iload_n 2, 1) := by decide +kernel
theorem dX7_ofKind_17 : decode cX7_ofKind 17 = .ok (.aload_n 0, 1) := by decide +kernel
theorem dX7_ofKind_18 : decode cX7_ofKind 18 = .ok (.getfield 7, 3) := by decide +kernel
theorem dX7_ofKind_21 : decode cX7_ofKind 21 = .ok (.sipush 361, 3) := by decide +kernel
theorem dX7_ofKind_24 : decode cX7_ofKind 24 = .ok (.iload_n 3, 1) := by decide +kernel
theorem dX7_ofKind_25 : decode cX7_ofKind 25 = .ok (.iadd, 1) := by decide +kernel
theorem dX7_ofKind_26 : decode cX7_ofKind 26 = .ok (.iaload, 1) := by decide +kernel
theorem dX7_ofKind_27 : decode cX7_ofKind 27 = .ok (.iload_n 1, 1) := by decide +kernel
theorem dX7_ofKind_28 : decode cX7_ofKind 28 = .ok (.if_icmp .ne 7, 3) := by decide +kernel
theorem dX7_ofKind_31 : decode cX7_ofKind 31 = .ok (.iconst 1, 1) := by decide +kernel
theorem dX7_ofKind_32 : decode cX7_ofKind 32 = .ok (.goto 4, 3) := by decide +kernel
theorem dX7_ofKind_35 : decode cX7_ofKind 35 = .ok (.iconst 0, 1) := by decide +kernel
theorem dX7_ofKind_36 : decode cX7_ofKind 36 = .ok (.iadd, 1) := by decide +kernel
theorem dX7_ofKind_37 : decode cX7_ofKind 37 = .ok (.istore_n 2, 1) := by decide +kernel
theorem dX7_ofKind_38 : decode cX7_ofKind 38 = .ok (.iinc 3 1, 3) := by decide +kernel
theorem dX7_ofKind_41 : decode cX7_ofKind 41 = .ok (.goto (-37), 3) := by decide +kernel
theorem dX7_ofKind_44 : decode cX7_ofKind 44 = .ok (.iload_n 2, 1) := by decide +kernel
theorem dX7_ofKind_45 : decode cX7_ofKind 45 = .ok (.ireturn, 1) := by decide +kernel
theorem dX7_count_0 : decode cX7_count 0 = .ok (.iload_n 1, 1) := by decide +kernel
theorem dX7_count_1 : decode cX7_count 1 = .ok (.bipush 10, 2) := by decide +kernel
theorem dX7_count_3 : decode cX7_count 3 = .ok (.bipush 12, 2) := by decide +kernel
theorem dX7_count_5 : decode cX7_count 5 = .ok (.invokestatic 56, 3) := by decide +kernel
theorem dX7_count_8 : decode cX7_count 8 = .ok (.ifCond .eq 12, 3) := by decide +kernel
theorem dX7_count_11 : decode cX7_count 11 = .ok (.aload_n 0, 1) := by decide +kernel
theorem dX7_count_12 : decode cX7_count 12 = .ok (.iload_n 1, 1) := by decide +kernel
theorem dX7_count_13 : decode cX7_count 13 = .ok (.bipush 10, 2) := by decide +kernel
theorem dX7_count_15 : decode cX7_count 15 = .ok (.isub, 1) := by decide +kernel
theorem dX7_count_16 : decode cX7_count 16 = .ok (.invokevirtual 143, 3) := by decide +kernel
theorem dX7_count_19 : decode cX7_count 19 = .ok (.ireturn, 1) := by decide +kernel
theorem dX7_count_20 : decode cX7_count 20 = .ok (.iload_n 1, 1) := by decide +kernel
theorem dX7_count_21 : decode cX7_count 21 = .ok (.tableswitch 101 0 5 #[39, 48, 53, 53, 66, 71], 39) := by decide +kernel
theorem dX7_count_60 : decode cX7_count 60 = .ok (.aload_n 0, 1) := by decide +kernel
theorem dX7_count_61 : decode cX7_count 61 = .ok (.getfield 7, 3) := by decide +kernel
theorem dX7_count_64 : decode cX7_count 64 = .ok (.sipush 6423, 3) := by decide +kernel
theorem dX7_count_67 : decode cX7_count 67 = .ok (.iaload, 1) := by decide +kernel
theorem dX7_count_68 : decode cX7_count 68 = .ok (.ireturn, 1) := by decide +kernel
theorem dX7_count_69 : decode cX7_count 69 = .ok (.aload_n 0, 1) := by decide +kernel
theorem dX7_count_70 : decode cX7_count 70 = .ok (.invokevirtual 64, 3) := by decide +kernel
theorem dX7_count_73 : decode cX7_count 73 = .ok (.ireturn, 1) := by decide +kernel
theorem dX7_count_74 : decode cX7_count 74 = .ok (.aload_n 0, 1) := by decide +kernel
theorem dX7_count_75 : decode cX7_count 75 = .ok (.getfield 7, 3) := by decide +kernel
theorem dX7_count_78 : decode cX7_count 78 = .ok (.sipush 6421, 3) := by decide +kernel
theorem dX7_count_81 : decode cX7_count 81 = .ok (.iload_n 1, 1) := by decide +kernel
theorem dX7_count_82 : decode cX7_count 82 = .ok (.iadd, 1) := by decide +kernel
theorem dX7_count_83 : decode cX7_count 83 = .ok (.iconst 2, 1) := by decide +kernel
theorem dX7_count_84 : decode cX7_count 84 = .ok (.isub, 1) := by decide +kernel
theorem dX7_count_85 : decode cX7_count 85 = .ok (.iaload, 1) := by decide +kernel
theorem dX7_count_86 : decode cX7_count 86 = .ok (.ireturn, 1) := by decide +kernel
theorem dX7_count_87 : decode cX7_count 87 = .ok (.aload_n 0, 1) := by decide +kernel
theorem dX7_count_88 : decode cX7_count 88 = .ok (.invokevirtual 146, 3) := by decide +kernel
theorem dX7_count_91 : decode cX7_count 91 = .ok (.ireturn, 1) := by decide +kernel
theorem dX7_count_92 : decode cX7_count 92 = .ok (.aload_n 0, 1) := by decide +kernel
theorem dX7_count_93 : decode cX7_count 93 = .ok (.getfield 16, 3) := by decide +kernel
theorem dX7_count_96 : decode cX7_count 96 = .ok (.iconst 0, 1) := by decide +kernel
theorem dX7_count_97 : decode cX7_count 97 = .ok (.baload, 1) := by decide +kernel
theorem dX7_count_98 : decode cX7_count 98 = .ok (.ifCond .eq 7, 3) := by decide +kernel
theorem dX7_count_101 : decode cX7_count 101 = .ok (.iconst 1, 1) := by decide +kernel
theorem dX7_count_102 : decode cX7_count 102 = .ok (.goto 4, 3) := by decide +kernel
theorem dX7_count_105 : decode cX7_count 105 = .ok (.iconst 0, 1) := by decide +kernel
theorem dX7_count_106 : decode cX7_count 106 = .ok (.aload_n 0, 1) := by decide +kernel
theorem dX7_count_107 : decode cX7_count 107 = .ok (.getfield 16, 3) := by decide +kernel
theorem dX7_count_110 : decode cX7_count 110 = .ok (.iconst 1, 1) := by decide +kernel
theorem dX7_count_111 : decode cX7_count 111 = .ok (.baload, 1) := by decide +kernel
theorem dX7_count_112 : decode cX7_count 112 = .ok (.ifCond .eq 7, 3) := by decide +kernel
theorem dX7_count_115 : decode cX7_count 115 = .ok (.iconst 2, 1) := by decide +kernel
theorem dX7_count_116 : decode cX7_count 116 = .ok (.goto 4, 3) := by decide +kernel
theorem dX7_count_119 : decode cX7_count 119 = .ok (.iconst 0, 1) := by decide +kernel
theorem dX7_count_120 : decode cX7_count 120 = .ok (.iadd, 1) := by decide +kernel
theorem dX7_count_121 : decode cX7_count 121 = .ok (.ireturn, 1) := by decide +kernel
theorem dX7_count_122 : decode cX7_count 122 = .ok (.bipush (-2), 2) := by decide +kernel
theorem dX7_count_124 : decode cX7_count 124 = .ok (.ireturn, 1) := by decide +kernel
theorem dJ13_bitCount_95d88_0 : decode cJ13_bitCount_95d88 0 = .ok (.lload_n 0, 1) := by decide +kernel
theorem dJ13_bitCount_95d88_1 : decode cJ13_bitCount_95d88 1 = .ok (.lload_n 0, 1) := by decide +kernel
theorem dJ13_bitCount_95d88_2 : decode cJ13_bitCount_95d88 2 = .ok (.iconst 1, 1) := by decide +kernel
theorem dJ13_bitCount_95d88_3 : decode cJ13_bitCount_95d88 3 = .ok (.lushr, 1) := by decide +kernel
theorem dJ13_bitCount_95d88_4 : decode cJ13_bitCount_95d88 4 = .ok (.ldc2_w 314, 3) := by decide +kernel
theorem dJ13_bitCount_95d88_7 : decode cJ13_bitCount_95d88 7 = .ok (.land, 1) := by decide +kernel
theorem dJ13_bitCount_95d88_8 : decode cJ13_bitCount_95d88 8 = .ok (.lsub, 1) := by decide +kernel
theorem dJ13_bitCount_95d88_9 : decode cJ13_bitCount_95d88 9 = .ok (.lstore_n 0, 1) := by decide +kernel
theorem dJ13_bitCount_95d88_10 : decode cJ13_bitCount_95d88 10 = .ok (.lload_n 0, 1) := by decide +kernel
theorem dJ13_bitCount_95d88_11 : decode cJ13_bitCount_95d88 11 = .ok (.ldc2_w 316, 3) := by decide +kernel
theorem dJ13_bitCount_95d88_14 : decode cJ13_bitCount_95d88 14 = .ok (.land, 1) := by decide +kernel
theorem dJ13_bitCount_95d88_15 : decode cJ13_bitCount_95d88 15 = .ok (.lload_n 0, 1) := by decide +kernel
theorem dJ13_bitCount_95d88_16 : decode cJ13_bitCount_95d88 16 = .ok (.iconst 2, 1) := by decide +kernel
theorem dJ13_bitCount_95d88_17 : decode cJ13_bitCount_95d88 17 = .ok (.lushr, 1) := by decide +kernel
theorem dJ13_bitCount_95d88_18 : decode cJ13_bitCount_95d88 18 = .ok (.ldc2_w 316, 3) := by decide +kernel
theorem dJ13_bitCount_95d88_21 : decode cJ13_bitCount_95d88 21 = .ok (.land, 1) := by decide +kernel
theorem dJ13_bitCount_95d88_22 : decode cJ13_bitCount_95d88 22 = .ok (.ladd, 1) := by decide +kernel
theorem dJ13_bitCount_95d88_23 : decode cJ13_bitCount_95d88 23 = .ok (.lstore_n 0, 1) := by decide +kernel
theorem dJ13_bitCount_95d88_24 : decode cJ13_bitCount_95d88 24 = .ok (.lload_n 0, 1) := by decide +kernel
theorem dJ13_bitCount_95d88_25 : decode cJ13_bitCount_95d88 25 = .ok (.lload_n 0, 1) := by decide +kernel
theorem dJ13_bitCount_95d88_26 : decode cJ13_bitCount_95d88 26 = .ok (.iconst 4, 1) := by decide +kernel
theorem dJ13_bitCount_95d88_27 : decode cJ13_bitCount_95d88 27 = .ok (.lushr, 1) := by decide +kernel
theorem dJ13_bitCount_95d88_28 : decode cJ13_bitCount_95d88 28 = .ok (.ladd, 1) := by decide +kernel
theorem dJ13_bitCount_95d88_29 : decode cJ13_bitCount_95d88 29 = .ok (.ldc2_w 318, 3) := by decide +kernel
theorem dJ13_bitCount_95d88_32 : decode cJ13_bitCount_95d88 32 = .ok (.land, 1) := by decide +kernel
theorem dJ13_bitCount_95d88_33 : decode cJ13_bitCount_95d88 33 = .ok (.lstore_n 0, 1) := by decide +kernel
theorem dJ13_bitCount_95d88_34 : decode cJ13_bitCount_95d88 34 = .ok (.lload_n 0, 1) := by decide +kernel
theorem dJ13_bitCount_95d88_35 : decode cJ13_bitCount_95d88 35 = .ok (.lload_n 0, 1) := by decide +kernel
theorem dJ13_bitCount_95d88_36 : decode cJ13_bitCount_95d88 36 = .ok (.bipush 8, 2) := by decide +kernel
theorem dJ13_bitCount_95d88_38 : decode cJ13_bitCount_95d88 38 = .ok (.lushr, 1) := by decide +kernel
theorem dJ13_bitCount_95d88_39 : decode cJ13_bitCount_95d88 39 = .ok (.ladd, 1) := by decide +kernel
theorem dJ13_bitCount_95d88_40 : decode cJ13_bitCount_95d88 40 = .ok (.lstore_n 0, 1) := by decide +kernel
theorem dJ13_bitCount_95d88_41 : decode cJ13_bitCount_95d88 41 = .ok (.lload_n 0, 1) := by decide +kernel
theorem dJ13_bitCount_95d88_42 : decode cJ13_bitCount_95d88 42 = .ok (.lload_n 0, 1) := by decide +kernel
theorem dJ13_bitCount_95d88_43 : decode cJ13_bitCount_95d88 43 = .ok (.bipush 16, 2) := by decide +kernel
theorem dJ13_bitCount_95d88_45 : decode cJ13_bitCount_95d88 45 = .ok (.lushr, 1) := by decide +kernel
theorem dJ13_bitCount_95d88_46 : decode cJ13_bitCount_95d88 46 = .ok (.ladd, 1) := by decide +kernel
theorem dJ13_bitCount_95d88_47 : decode cJ13_bitCount_95d88 47 = .ok (.lstore_n 0, 1) := by decide +kernel
theorem dJ13_bitCount_95d88_48 : decode cJ13_bitCount_95d88 48 = .ok (.lload_n 0, 1) := by decide +kernel
theorem dJ13_bitCount_95d88_49 : decode cJ13_bitCount_95d88 49 = .ok (.lload_n 0, 1) := by decide +kernel
theorem dJ13_bitCount_95d88_50 : decode cJ13_bitCount_95d88 50 = .ok (.bipush 32, 2) := by decide +kernel
theorem dJ13_bitCount_95d88_52 : decode cJ13_bitCount_95d88 52 = .ok (.lushr, 1) := by decide +kernel
theorem dJ13_bitCount_95d88_53 : decode cJ13_bitCount_95d88 53 = .ok (.ladd, 1) := by decide +kernel
theorem dJ13_bitCount_95d88_54 : decode cJ13_bitCount_95d88 54 = .ok (.lstore_n 0, 1) := by decide +kernel
theorem dJ13_bitCount_95d88_55 : decode cJ13_bitCount_95d88 55 = .ok (.lload_n 0, 1) := by decide +kernel
theorem dJ13_bitCount_95d88_56 : decode cJ13_bitCount_95d88 56 = .ok (.l2i, 1) := by decide +kernel
theorem dJ13_bitCount_95d88_57 : decode cJ13_bitCount_95d88 57 = .ok (.bipush 127, 2) := by decide +kernel
theorem dJ13_bitCount_95d88_59 : decode cJ13_bitCount_95d88 59 = .ok (.iand, 1) := by decide +kernel
theorem dJ13_bitCount_95d88_60 : decode cJ13_bitCount_95d88 60 = .ok (.ireturn, 1) := by decide +kernel
theorem dJ9_floorMod_7cf53_0 : decode cJ9_floorMod_7cf53 0 = .ok (.iload_n 0, 1) := by decide +kernel
theorem dJ9_floorMod_7cf53_1 : decode cJ9_floorMod_7cf53 1 = .ok (.iload_n 1, 1) := by decide +kernel
theorem dJ9_floorMod_7cf53_2 : decode cJ9_floorMod_7cf53 2 = .ok (.irem, 1) := by decide +kernel
theorem dJ9_floorMod_7cf53_3 : decode cJ9_floorMod_7cf53 3 = .ok (.istore_n 2, 1) := by decide +kernel
theorem dJ9_floorMod_7cf53_4 : decode cJ9_floorMod_7cf53 4 = .ok (.iload_n 0, 1) := by decide +kernel
theorem dJ9_floorMod_7cf53_5 : decode cJ9_floorMod_7cf53 5 = .ok (.iload_n 1, 1) := by decide +kernel
theorem dJ9_floorMod_7cf53_6 : decode cJ9_floorMod_7cf53 6 = .ok (.ixor, 1) := by decide +kernel
theorem dJ9_floorMod_7cf53_7 : decode cJ9_floorMod_7cf53 7 = .ok (.ifCond .ge 11, 3) := by decide +kernel
theorem dJ9_floorMod_7cf53_10 : decode cJ9_floorMod_7cf53 10 = .ok (.iload_n 2, 1) := by decide +kernel
theorem dJ9_floorMod_7cf53_11 : decode cJ9_floorMod_7cf53 11 = .ok (.ifCond .eq 7, 3) := by decide +kernel
theorem dJ9_floorMod_7cf53_14 : decode cJ9_floorMod_7cf53 14 = .ok (.iload_n 2, 1) := by decide +kernel
theorem dJ9_floorMod_7cf53_15 : decode cJ9_floorMod_7cf53 15 = .ok (.iload_n 1, 1) := by decide +kernel
theorem dJ9_floorMod_7cf53_16 : decode cJ9_floorMod_7cf53 16 = .ok (.iadd, 1) := by decide +kernel
theorem dJ9_floorMod_7cf53_17 : decode cJ9_floorMod_7cf53 17 = .ok (.ireturn, 1) := by decide +kernel
theorem dJ9_floorMod_7cf53_18 : decode cJ9_floorMod_7cf53 18 = .ok (.iload_n 2, 1) := by decide +kernel
theorem dJ9_floorMod_7cf53_19 : decode cJ9_floorMod_7cf53 19 = .ok (.ireturn, 1) := by decide +kernel
theorem dJ9_abs_0f7a4_0 : decode cJ9_abs_0f7a4 0 = .ok (.iload_n 0, 1) := by decide +kernel
theorem dJ9_abs_0f7a4_1 : decode cJ9_abs_0f7a4 1 = .ok (.ifCond .ge 8, 3) := by decide +kernel
theorem dJ9_abs_0f7a4_4 : decode cJ9_abs_0f7a4 4 = .ok (.iload_n 0, 1) := by decide +kernel
theorem dJ9_abs_0f7a4_5 : decode cJ9_abs_0f7a4 5 = .ok (.ineg, 1) := by decide +kernel
theorem dJ9_abs_0f7a4_6 : decode cJ9_abs_0f7a4 6 = .ok (.goto 4, 3) := by decide +kernel
theorem dJ9_abs_0f7a4_9 : decode cJ9_abs_0f7a4 9 = .ok (.iload_n 0, 1) := by decide +kernel
theorem dJ9_abs_0f7a4_10 : decode cJ9_abs_0f7a4 10 = .ok (.ireturn, 1) := by decide +kernel
theorem dJ9_max_7cf53_0 : decode cJ9_max_7cf53 0 = .ok (.iload_n 0, 1) := by decide +kernel
theorem dJ9_max_7cf53_1 : decode cJ9_max_7cf53 1 = .ok (.iload_n 1, 1) := by decide +kernel
theorem dJ9_max_7cf53_2 : decode cJ9_max_7cf53 2 = .ok (.if_icmp .lt 7, 3) := by decide +kernel
theorem dJ9_max_7cf53_5 : decode cJ9_max_7cf53 5 = .ok (.iload_n 0, 1) := by decide +kernel
theorem dJ9_max_7cf53_6 : decode cJ9_max_7cf53 6 = .ok (.goto 4, 3) := by decide +kernel
theorem dJ9_max_7cf53_9 : decode cJ9_max_7cf53 9 = .ok (.iload_n 1, 1) := by decide +kernel
theorem dJ9_max_7cf53_10 : decode cJ9_max_7cf53 10 = .ok (.ireturn, 1) := by decide +kernel
theorem dJ9_min_7cf53_0 : decode cJ9_min_7cf53 0 = .ok (.iload_n 0, 1) := by decide +kernel
theorem dJ9_min_7cf53_1 : decode cJ9_min_7cf53 1 = .ok (.iload_n 1, 1) := by decide +kernel
theorem dJ9_min_7cf53_2 : decode cJ9_min_7cf53 2 = .ok (.if_icmp .gt 7, 3) := by decide +kernel
theorem dJ9_min_7cf53_5 : decode cJ9_min_7cf53 5 = .ok (.iload_n 0, 1) := by decide +kernel
theorem dJ9_min_7cf53_6 : decode cJ9_min_7cf53 6 = .ok (.goto 4, 3) := by decide +kernel
theorem dJ9_min_7cf53_9 : decode cJ9_min_7cf53 9 = .ok (.iload_n 1, 1) := by decide +kernel
theorem dJ9_min_7cf53_10 : decode cJ9_min_7cf53 10 = .ok (.ireturn, 1) := by decide +kernel
theorem dJ7_fill_53178_0 : decode cJ7_fill_53178 0 = .ok (.iconst 0, 1) := by decide +kernel
theorem dJ7_fill_53178_1 : decode cJ7_fill_53178 1 = .ok (.istore_n 2, 1) := by decide +kernel
theorem dJ7_fill_53178_2 : decode cJ7_fill_53178 2 = .ok (.aload_n 0, 1) := by decide +kernel
theorem dJ7_fill_53178_3 : decode cJ7_fill_53178 3 = .ok (.arraylength, 1) := by decide +kernel
theorem dJ7_fill_53178_4 : decode cJ7_fill_53178 4 = .ok (.istore_n 3, 1) := by decide +kernel
theorem dJ7_fill_53178_5 : decode cJ7_fill_53178 5 = .ok (.iload_n 2, 1) := by decide +kernel
theorem dJ7_fill_53178_6 : decode cJ7_fill_53178 6 = .ok (.iload_n 3, 1) := by decide +kernel
theorem dJ7_fill_53178_7 : decode cJ7_fill_53178 7 = .ok (.if_icmp .ge 13, 3) := by decide +kernel
theorem dJ7_fill_53178_10 : decode cJ7_fill_53178 10 = .ok (.aload_n 0, 1) := by decide +kernel
theorem dJ7_fill_53178_11 : decode cJ7_fill_53178 11 = .ok (.iload_n 2, 1) := by decide +kernel
theorem dJ7_fill_53178_12 : decode cJ7_fill_53178 12 = .ok (.iload_n 1, 1) := by decide +kernel
theorem dJ7_fill_53178_13 : decode cJ7_fill_53178 13 = .ok (.iastore, 1) := by decide +kernel
theorem dJ7_fill_53178_14 : decode cJ7_fill_53178 14 = .ok (.iinc 2 1, 3) := by decide +kernel
theorem dJ7_fill_53178_17 : decode cJ7_fill_53178 17 = .ok (.goto (-12), 3) := by decide +kernel
theorem dJ7_fill_53178_20 : decode cJ7_fill_53178 20 = .ok (.return_, 1) := by decide +kernel
theorem dL_law_0 : decode cL_law 0 = .ok (.new 7, 3) := by decide +kernel
theorem dL_law_3 : decode cL_law 3 = .ok (.dup, 1) := by decide +kernel
theorem dL_law_4 : decode cL_law 4 = .ok (.invokespecial 9, 3) := by decide +kernel
theorem dL_law_7 : decode cL_law 7 = .ok (.astore_n 1, 1) := by decide +kernel
theorem dL_law_8 : decode cL_law 8 = .ok (.new 10, 3) := by decide +kernel
theorem dL_law_11 : decode cL_law 11 = .ok (.dup, 1) := by decide +kernel
theorem dL_law_12 : decode cL_law 12 = .ok (.invokespecial 12, 3) := by decide +kernel
theorem dL_law_15 : decode cL_law 15 = .ok (.astore_n 2, 1) := by decide +kernel
theorem dL_law_16 : decode cL_law 16 = .ok (.iconst 0, 1) := by decide +kernel
theorem dL_law_17 : decode cL_law 17 = .ok (.istore_n 3, 1) := by decide +kernel
theorem dL_law_18 : decode cL_law 18 = .ok (.iload_n 3, 1) := by decide +kernel
theorem dL_law_19 : decode cL_law 19 = .ok (.aload_n 0, 1) := by decide +kernel
theorem dL_law_20 : decode cL_law 20 = .ok (.arraylength, 1) := by decide +kernel
theorem dL_law_21 : decode cL_law 21 = .ok (.iconst 5, 1) := by decide +kernel
theorem dL_law_22 : decode cL_law 22 = .ok (.isub, 1) := by decide +kernel
theorem dL_law_23 : decode cL_law 23 = .ok (.if_icmp .gt 714, 3) := by decide +kernel
theorem dL_law_26 : decode cL_law 26 = .ok (.aload_n 0, 1) := by decide +kernel
theorem dL_law_27 : decode cL_law 27 = .ok (.iload_n 3, 1) := by decide +kernel
theorem dL_law_28 : decode cL_law 28 = .ok (.iaload, 1) := by decide +kernel
theorem dL_law_29 : decode cL_law 29 = .ok (.bipush 31, 2) := by decide +kernel
theorem dL_law_31 : decode cL_law 31 = .ok (.iand, 1) := by decide +kernel
theorem dL_law_32 : decode cL_law 32 = .ok (.tableswitch 699 0 18 #[92, 125, 148, 171, 224, 247, 280, 313, 356, 399, 432, 465, 508, 541, 564, 597, 630, 653, 676], 92) := by decide +kernel
theorem dL_law_124 : decode cL_law 124 = .ok (.aload_n 1, 1) := by decide +kernel
theorem dL_law_125 : decode cL_law 125 = .ok (.aload_n 0, 1) := by decide +kernel
theorem dL_law_126 : decode cL_law 126 = .ok (.iload_n 3, 1) := by decide +kernel
theorem dL_law_127 : decode cL_law 127 = .ok (.iconst 1, 1) := by decide +kernel
theorem dL_law_128 : decode cL_law 128 = .ok (.iadd, 1) := by decide +kernel
theorem dL_law_129 : decode cL_law 129 = .ok (.iaload, 1) := by decide +kernel
theorem dL_law_130 : decode cL_law 130 = .ok (.aload_n 0, 1) := by decide +kernel
theorem dL_law_131 : decode cL_law 131 = .ok (.iload_n 3, 1) := by decide +kernel
theorem dL_law_132 : decode cL_law 132 = .ok (.iconst 2, 1) := by decide +kernel
theorem dL_law_133 : decode cL_law 133 = .ok (.iadd, 1) := by decide +kernel
theorem dL_law_134 : decode cL_law 134 = .ok (.iaload, 1) := by decide +kernel
theorem dL_law_135 : decode cL_law 135 = .ok (.invokevirtual 13, 3) := by decide +kernel
theorem dL_law_138 : decode cL_law 138 = .ok (.aload_n 2, 1) := by decide +kernel
theorem dL_law_139 : decode cL_law 139 = .ok (.aload_n 0, 1) := by decide +kernel
theorem dL_law_140 : decode cL_law 140 = .ok (.iload_n 3, 1) := by decide +kernel
theorem dL_law_141 : decode cL_law 141 = .ok (.iconst 1, 1) := by decide +kernel
theorem dL_law_142 : decode cL_law 142 = .ok (.iadd, 1) := by decide +kernel
theorem dL_law_143 : decode cL_law 143 = .ok (.iaload, 1) := by decide +kernel
theorem dL_law_144 : decode cL_law 144 = .ok (.aload_n 0, 1) := by decide +kernel
theorem dL_law_145 : decode cL_law 145 = .ok (.iload_n 3, 1) := by decide +kernel
theorem dL_law_146 : decode cL_law 146 = .ok (.iconst 2, 1) := by decide +kernel
theorem dL_law_147 : decode cL_law 147 = .ok (.iadd, 1) := by decide +kernel
theorem dL_law_148 : decode cL_law 148 = .ok (.iaload, 1) := by decide +kernel
theorem dL_law_149 : decode cL_law 149 = .ok (.invokevirtual 17, 3) := by decide +kernel
theorem dL_law_152 : decode cL_law 152 = .ok (.if_icmp .eq 579, 3) := by decide +kernel
theorem dL_law_155 : decode cL_law 155 = .ok (.iconst 0, 1) := by decide +kernel
theorem dL_law_156 : decode cL_law 156 = .ok (.ireturn, 1) := by decide +kernel
theorem dL_law_157 : decode cL_law 157 = .ok (.aload_n 1, 1) := by decide +kernel
theorem dL_law_158 : decode cL_law 158 = .ok (.aload_n 0, 1) := by decide +kernel
theorem dL_law_159 : decode cL_law 159 = .ok (.iload_n 3, 1) := by decide +kernel
theorem dL_law_160 : decode cL_law 160 = .ok (.iconst 1, 1) := by decide +kernel
theorem dL_law_161 : decode cL_law 161 = .ok (.iadd, 1) := by decide +kernel
theorem dL_law_162 : decode cL_law 162 = .ok (.iaload, 1) := by decide +kernel
theorem dL_law_163 : decode cL_law 163 = .ok (.invokevirtual 18, 3) := by decide +kernel
theorem dL_law_166 : decode cL_law 166 = .ok (.aload_n 2, 1) := by decide +kernel
theorem dL_law_167 : decode cL_law 167 = .ok (.aload_n 0, 1) := by decide +kernel
theorem dL_law_168 : decode cL_law 168 = .ok (.iload_n 3, 1) := by decide +kernel
theorem dL_law_169 : decode cL_law 169 = .ok (.iconst 1, 1) := by decide +kernel
theorem dL_law_170 : decode cL_law 170 = .ok (.iadd, 1) := by decide +kernel
theorem dL_law_171 : decode cL_law 171 = .ok (.iaload, 1) := by decide +kernel
theorem dL_law_172 : decode cL_law 172 = .ok (.invokevirtual 22, 3) := by decide +kernel
theorem dL_law_175 : decode cL_law 175 = .ok (.if_icmp .eq 556, 3) := by decide +kernel
theorem dL_law_178 : decode cL_law 178 = .ok (.iconst 0, 1) := by decide +kernel
theorem dL_law_179 : decode cL_law 179 = .ok (.ireturn, 1) := by decide +kernel
theorem dL_law_180 : decode cL_law 180 = .ok (.aload_n 1, 1) := by decide +kernel
theorem dL_law_181 : decode cL_law 181 = .ok (.aload_n 0, 1) := by decide +kernel
theorem dL_law_182 : decode cL_law 182 = .ok (.iload_n 3, 1) := by decide +kernel
theorem dL_law_183 : decode cL_law 183 = .ok (.iconst 1, 1) := by decide +kernel
theorem dL_law_184 : decode cL_law 184 = .ok (.iadd, 1) := by decide +kernel
theorem dL_law_185 : decode cL_law 185 = .ok (.iaload, 1) := by decide +kernel
theorem dL_law_186 : decode cL_law 186 = .ok (.invokevirtual 23, 3) := by decide +kernel
theorem dL_law_189 : decode cL_law 189 = .ok (.aload_n 2, 1) := by decide +kernel
theorem dL_law_190 : decode cL_law 190 = .ok (.aload_n 0, 1) := by decide +kernel
theorem dL_law_191 : decode cL_law 191 = .ok (.iload_n 3, 1) := by decide +kernel
theorem dL_law_192 : decode cL_law 192 = .ok (.iconst 1, 1) := by decide +kernel
theorem dL_law_193 : decode cL_law 193 = .ok (.iadd, 1) := by decide +kernel
theorem dL_law_194 : decode cL_law 194 = .ok (.iaload, 1) := by decide +kernel
theorem dL_law_195 : decode cL_law 195 = .ok (.invokevirtual 26, 3) := by decide +kernel
theorem dL_law_198 : decode cL_law 198 = .ok (.if_icmp .eq 533, 3) := by decide +kernel
theorem dL_law_201 : decode cL_law 201 = .ok (.iconst 0, 1) := by decide +kernel
theorem dL_law_202 : decode cL_law 202 = .ok (.ireturn, 1) := by decide +kernel
theorem dL_law_203 : decode cL_law 203 = .ok (.aload_n 1, 1) := by decide +kernel
theorem dL_law_204 : decode cL_law 204 = .ok (.aload_n 0, 1) := by decide +kernel
theorem dL_law_205 : decode cL_law 205 = .ok (.iload_n 3, 1) := by decide +kernel
theorem dL_law_206 : decode cL_law 206 = .ok (.iconst 1, 1) := by decide +kernel
theorem dL_law_207 : decode cL_law 207 = .ok (.iadd, 1) := by decide +kernel
theorem dL_law_208 : decode cL_law 208 = .ok (.iaload, 1) := by decide +kernel
theorem dL_law_209 : decode cL_law 209 = .ok (.aload_n 0, 1) := by decide +kernel
theorem dL_law_210 : decode cL_law 210 = .ok (.iload_n 3, 1) := by decide +kernel
theorem dL_law_211 : decode cL_law 211 = .ok (.iconst 2, 1) := by decide +kernel
theorem dL_law_212 : decode cL_law 212 = .ok (.iadd, 1) := by decide +kernel
theorem dL_law_213 : decode cL_law 213 = .ok (.iaload, 1) := by decide +kernel
theorem dL_law_214 : decode cL_law 214 = .ok (.aload_n 0, 1) := by decide +kernel
theorem dL_law_215 : decode cL_law 215 = .ok (.iload_n 3, 1) := by decide +kernel
theorem dL_law_216 : decode cL_law 216 = .ok (.iconst 3, 1) := by decide +kernel
theorem dL_law_217 : decode cL_law 217 = .ok (.iadd, 1) := by decide +kernel
theorem dL_law_218 : decode cL_law 218 = .ok (.iaload, 1) := by decide +kernel
theorem dL_law_219 : decode cL_law 219 = .ok (.aload_n 0, 1) := by decide +kernel
theorem dL_law_220 : decode cL_law 220 = .ok (.iload_n 3, 1) := by decide +kernel
theorem dL_law_221 : decode cL_law 221 = .ok (.iconst 4, 1) := by decide +kernel
theorem dL_law_222 : decode cL_law 222 = .ok (.iadd, 1) := by decide +kernel
theorem dL_law_223 : decode cL_law 223 = .ok (.iaload, 1) := by decide +kernel
theorem dL_law_224 : decode cL_law 224 = .ok (.invokevirtual 27, 3) := by decide +kernel
theorem dL_law_227 : decode cL_law 227 = .ok (.aload_n 2, 1) := by decide +kernel
theorem dL_law_228 : decode cL_law 228 = .ok (.aload_n 0, 1) := by decide +kernel
theorem dL_law_229 : decode cL_law 229 = .ok (.iload_n 3, 1) := by decide +kernel
theorem dL_law_230 : decode cL_law 230 = .ok (.iconst 1, 1) := by decide +kernel
theorem dL_law_231 : decode cL_law 231 = .ok (.iadd, 1) := by decide +kernel
theorem dL_law_232 : decode cL_law 232 = .ok (.iaload, 1) := by decide +kernel
theorem dL_law_233 : decode cL_law 233 = .ok (.aload_n 0, 1) := by decide +kernel
theorem dL_law_234 : decode cL_law 234 = .ok (.iload_n 3, 1) := by decide +kernel
theorem dL_law_235 : decode cL_law 235 = .ok (.iconst 2, 1) := by decide +kernel
theorem dL_law_236 : decode cL_law 236 = .ok (.iadd, 1) := by decide +kernel
theorem dL_law_237 : decode cL_law 237 = .ok (.iaload, 1) := by decide +kernel
theorem dL_law_238 : decode cL_law 238 = .ok (.aload_n 0, 1) := by decide +kernel
theorem dL_law_239 : decode cL_law 239 = .ok (.iload_n 3, 1) := by decide +kernel
theorem dL_law_240 : decode cL_law 240 = .ok (.iconst 3, 1) := by decide +kernel
theorem dL_law_241 : decode cL_law 241 = .ok (.iadd, 1) := by decide +kernel
theorem dL_law_242 : decode cL_law 242 = .ok (.iaload, 1) := by decide +kernel
theorem dL_law_243 : decode cL_law 243 = .ok (.aload_n 0, 1) := by decide +kernel
theorem dL_law_244 : decode cL_law 244 = .ok (.iload_n 3, 1) := by decide +kernel
theorem dL_law_245 : decode cL_law 245 = .ok (.iconst 4, 1) := by decide +kernel
theorem dL_law_246 : decode cL_law 246 = .ok (.iadd, 1) := by decide +kernel
theorem dL_law_247 : decode cL_law 247 = .ok (.iaload, 1) := by decide +kernel
theorem dL_law_248 : decode cL_law 248 = .ok (.invokevirtual 31, 3) := by decide +kernel
theorem dL_law_251 : decode cL_law 251 = .ok (.if_icmp .eq 480, 3) := by decide +kernel
theorem dL_law_254 : decode cL_law 254 = .ok (.iconst 0, 1) := by decide +kernel
theorem dL_law_255 : decode cL_law 255 = .ok (.ireturn, 1) := by decide +kernel
theorem dL_law_256 : decode cL_law 256 = .ok (.aload_n 1, 1) := by decide +kernel
theorem dL_law_257 : decode cL_law 257 = .ok (.aload_n 0, 1) := by decide +kernel
theorem dL_law_258 : decode cL_law 258 = .ok (.iload_n 3, 1) := by decide +kernel
theorem dL_law_259 : decode cL_law 259 = .ok (.iconst 1, 1) := by decide +kernel
theorem dL_law_260 : decode cL_law 260 = .ok (.iadd, 1) := by decide +kernel
theorem dL_law_261 : decode cL_law 261 = .ok (.iaload, 1) := by decide +kernel
theorem dL_law_262 : decode cL_law 262 = .ok (.invokevirtual 32, 3) := by decide +kernel
theorem dL_law_265 : decode cL_law 265 = .ok (.aload_n 2, 1) := by decide +kernel
theorem dL_law_266 : decode cL_law 266 = .ok (.aload_n 0, 1) := by decide +kernel
theorem dL_law_267 : decode cL_law 267 = .ok (.iload_n 3, 1) := by decide +kernel
theorem dL_law_268 : decode cL_law 268 = .ok (.iconst 1, 1) := by decide +kernel
theorem dL_law_269 : decode cL_law 269 = .ok (.iadd, 1) := by decide +kernel
theorem dL_law_270 : decode cL_law 270 = .ok (.iaload, 1) := by decide +kernel
theorem dL_law_271 : decode cL_law 271 = .ok (.invokevirtual 35, 3) := by decide +kernel
theorem dL_law_274 : decode cL_law 274 = .ok (.if_icmp .eq 457, 3) := by decide +kernel
theorem dL_law_277 : decode cL_law 277 = .ok (.iconst 0, 1) := by decide +kernel
theorem dL_law_278 : decode cL_law 278 = .ok (.ireturn, 1) := by decide +kernel
theorem dL_law_279 : decode cL_law 279 = .ok (.aload_n 1, 1) := by decide +kernel
theorem dL_law_280 : decode cL_law 280 = .ok (.aload_n 0, 1) := by decide +kernel
theorem dL_law_281 : decode cL_law 281 = .ok (.iload_n 3, 1) := by decide +kernel
theorem dL_law_282 : decode cL_law 282 = .ok (.iconst 1, 1) := by decide +kernel
theorem dL_law_283 : decode cL_law 283 = .ok (.iadd, 1) := by decide +kernel
theorem dL_law_284 : decode cL_law 284 = .ok (.iaload, 1) := by decide +kernel
theorem dL_law_285 : decode cL_law 285 = .ok (.aload_n 0, 1) := by decide +kernel
theorem dL_law_286 : decode cL_law 286 = .ok (.iload_n 3, 1) := by decide +kernel
theorem dL_law_287 : decode cL_law 287 = .ok (.iconst 2, 1) := by decide +kernel
theorem dL_law_288 : decode cL_law 288 = .ok (.iadd, 1) := by decide +kernel
theorem dL_law_289 : decode cL_law 289 = .ok (.iaload, 1) := by decide +kernel
theorem dL_law_290 : decode cL_law 290 = .ok (.invokevirtual 36, 3) := by decide +kernel
theorem dL_law_293 : decode cL_law 293 = .ok (.aload_n 2, 1) := by decide +kernel
theorem dL_law_294 : decode cL_law 294 = .ok (.aload_n 0, 1) := by decide +kernel
theorem dL_law_295 : decode cL_law 295 = .ok (.iload_n 3, 1) := by decide +kernel
theorem dL_law_296 : decode cL_law 296 = .ok (.iconst 1, 1) := by decide +kernel
theorem dL_law_297 : decode cL_law 297 = .ok (.iadd, 1) := by decide +kernel
theorem dL_law_298 : decode cL_law 298 = .ok (.iaload, 1) := by decide +kernel
theorem dL_law_299 : decode cL_law 299 = .ok (.aload_n 0, 1) := by decide +kernel
theorem dL_law_300 : decode cL_law 300 = .ok (.iload_n 3, 1) := by decide +kernel
theorem dL_law_301 : decode cL_law 301 = .ok (.iconst 2, 1) := by decide +kernel
theorem dL_law_302 : decode cL_law 302 = .ok (.iadd, 1) := by decide +kernel
theorem dL_law_303 : decode cL_law 303 = .ok (.iaload, 1) := by decide +kernel
theorem dL_law_304 : decode cL_law 304 = .ok (.invokevirtual 39, 3) := by decide +kernel
theorem dL_law_307 : decode cL_law 307 = .ok (.if_icmp .eq 424, 3) := by decide +kernel
theorem dL_law_310 : decode cL_law 310 = .ok (.iconst 0, 1) := by decide +kernel
theorem dL_law_311 : decode cL_law 311 = .ok (.ireturn, 1) := by decide +kernel
theorem dL_law_312 : decode cL_law 312 = .ok (.aload_n 1, 1) := by decide +kernel
theorem dL_law_313 : decode cL_law 313 = .ok (.aload_n 0, 1) := by decide +kernel
theorem dL_law_314 : decode cL_law 314 = .ok (.iload_n 3, 1) := by decide +kernel
theorem dL_law_315 : decode cL_law 315 = .ok (.iconst 1, 1) := by decide +kernel
theorem dL_law_316 : decode cL_law 316 = .ok (.iadd, 1) := by decide +kernel
theorem dL_law_317 : decode cL_law 317 = .ok (.iaload, 1) := by decide +kernel
theorem dL_law_318 : decode cL_law 318 = .ok (.aload_n 0, 1) := by decide +kernel
theorem dL_law_319 : decode cL_law 319 = .ok (.iload_n 3, 1) := by decide +kernel
theorem dL_law_320 : decode cL_law 320 = .ok (.iconst 2, 1) := by decide +kernel
theorem dL_law_321 : decode cL_law 321 = .ok (.iadd, 1) := by decide +kernel
theorem dL_law_322 : decode cL_law 322 = .ok (.iaload, 1) := by decide +kernel
theorem dL_law_323 : decode cL_law 323 = .ok (.invokevirtual 40, 3) := by decide +kernel
theorem dL_law_326 : decode cL_law 326 = .ok (.aload_n 2, 1) := by decide +kernel
theorem dL_law_327 : decode cL_law 327 = .ok (.aload_n 0, 1) := by decide +kernel
theorem dL_law_328 : decode cL_law 328 = .ok (.iload_n 3, 1) := by decide +kernel
theorem dL_law_329 : decode cL_law 329 = .ok (.iconst 1, 1) := by decide +kernel
theorem dL_law_330 : decode cL_law 330 = .ok (.iadd, 1) := by decide +kernel
theorem dL_law_331 : decode cL_law 331 = .ok (.iaload, 1) := by decide +kernel
theorem dL_law_332 : decode cL_law 332 = .ok (.aload_n 0, 1) := by decide +kernel
theorem dL_law_333 : decode cL_law 333 = .ok (.iload_n 3, 1) := by decide +kernel
theorem dL_law_334 : decode cL_law 334 = .ok (.iconst 2, 1) := by decide +kernel
theorem dL_law_335 : decode cL_law 335 = .ok (.iadd, 1) := by decide +kernel
theorem dL_law_336 : decode cL_law 336 = .ok (.iaload, 1) := by decide +kernel
theorem dL_law_337 : decode cL_law 337 = .ok (.invokevirtual 43, 3) := by decide +kernel
theorem dL_law_340 : decode cL_law 340 = .ok (.if_icmp .eq 391, 3) := by decide +kernel
theorem dL_law_343 : decode cL_law 343 = .ok (.iconst 0, 1) := by decide +kernel
theorem dL_law_344 : decode cL_law 344 = .ok (.ireturn, 1) := by decide +kernel
theorem dL_law_345 : decode cL_law 345 = .ok (.aload_n 1, 1) := by decide +kernel
theorem dL_law_346 : decode cL_law 346 = .ok (.aload_n 0, 1) := by decide +kernel
theorem dL_law_347 : decode cL_law 347 = .ok (.iload_n 3, 1) := by decide +kernel
theorem dL_law_348 : decode cL_law 348 = .ok (.iconst 1, 1) := by decide +kernel
theorem dL_law_349 : decode cL_law 349 = .ok (.iadd, 1) := by decide +kernel
theorem dL_law_350 : decode cL_law 350 = .ok (.iaload, 1) := by decide +kernel
theorem dL_law_351 : decode cL_law 351 = .ok (.aload_n 0, 1) := by decide +kernel
theorem dL_law_352 : decode cL_law 352 = .ok (.iload_n 3, 1) := by decide +kernel
theorem dL_law_353 : decode cL_law 353 = .ok (.iconst 2, 1) := by decide +kernel
theorem dL_law_354 : decode cL_law 354 = .ok (.iadd, 1) := by decide +kernel
theorem dL_law_355 : decode cL_law 355 = .ok (.iaload, 1) := by decide +kernel
theorem dL_law_356 : decode cL_law 356 = .ok (.aload_n 0, 1) := by decide +kernel
theorem dL_law_357 : decode cL_law 357 = .ok (.iload_n 3, 1) := by decide +kernel
theorem dL_law_358 : decode cL_law 358 = .ok (.iconst 3, 1) := by decide +kernel
theorem dL_law_359 : decode cL_law 359 = .ok (.iadd, 1) := by decide +kernel
theorem dL_law_360 : decode cL_law 360 = .ok (.iaload, 1) := by decide +kernel
theorem dL_law_361 : decode cL_law 361 = .ok (.invokevirtual 44, 3) := by decide +kernel
theorem dL_law_364 : decode cL_law 364 = .ok (.aload_n 2, 1) := by decide +kernel
theorem dL_law_365 : decode cL_law 365 = .ok (.aload_n 0, 1) := by decide +kernel
theorem dL_law_366 : decode cL_law 366 = .ok (.iload_n 3, 1) := by decide +kernel
theorem dL_law_367 : decode cL_law 367 = .ok (.iconst 1, 1) := by decide +kernel
theorem dL_law_368 : decode cL_law 368 = .ok (.iadd, 1) := by decide +kernel
theorem dL_law_369 : decode cL_law 369 = .ok (.iaload, 1) := by decide +kernel
theorem dL_law_370 : decode cL_law 370 = .ok (.aload_n 0, 1) := by decide +kernel
theorem dL_law_371 : decode cL_law 371 = .ok (.iload_n 3, 1) := by decide +kernel
theorem dL_law_372 : decode cL_law 372 = .ok (.iconst 2, 1) := by decide +kernel
theorem dL_law_373 : decode cL_law 373 = .ok (.iadd, 1) := by decide +kernel
theorem dL_law_374 : decode cL_law 374 = .ok (.iaload, 1) := by decide +kernel
theorem dL_law_375 : decode cL_law 375 = .ok (.aload_n 0, 1) := by decide +kernel
theorem dL_law_376 : decode cL_law 376 = .ok (.iload_n 3, 1) := by decide +kernel
theorem dL_law_377 : decode cL_law 377 = .ok (.iconst 3, 1) := by decide +kernel
theorem dL_law_378 : decode cL_law 378 = .ok (.iadd, 1) := by decide +kernel
theorem dL_law_379 : decode cL_law 379 = .ok (.iaload, 1) := by decide +kernel
theorem dL_law_380 : decode cL_law 380 = .ok (.invokevirtual 48, 3) := by decide +kernel
theorem dL_law_383 : decode cL_law 383 = .ok (.if_icmp .eq 348, 3) := by decide +kernel
theorem dL_law_386 : decode cL_law 386 = .ok (.iconst 0, 1) := by decide +kernel
theorem dL_law_387 : decode cL_law 387 = .ok (.ireturn, 1) := by decide +kernel
theorem dL_law_388 : decode cL_law 388 = .ok (.aload_n 1, 1) := by decide +kernel
theorem dL_law_389 : decode cL_law 389 = .ok (.aload_n 0, 1) := by decide +kernel
theorem dL_law_390 : decode cL_law 390 = .ok (.iload_n 3, 1) := by decide +kernel
theorem dL_law_391 : decode cL_law 391 = .ok (.iconst 1, 1) := by decide +kernel
theorem dL_law_392 : decode cL_law 392 = .ok (.iadd, 1) := by decide +kernel
theorem dL_law_393 : decode cL_law 393 = .ok (.iaload, 1) := by decide +kernel
theorem dL_law_394 : decode cL_law 394 = .ok (.aload_n 0, 1) := by decide +kernel
theorem dL_law_395 : decode cL_law 395 = .ok (.iload_n 3, 1) := by decide +kernel
theorem dL_law_396 : decode cL_law 396 = .ok (.iconst 2, 1) := by decide +kernel
theorem dL_law_397 : decode cL_law 397 = .ok (.iadd, 1) := by decide +kernel
theorem dL_law_398 : decode cL_law 398 = .ok (.iaload, 1) := by decide +kernel
theorem dL_law_399 : decode cL_law 399 = .ok (.aload_n 0, 1) := by decide +kernel
theorem dL_law_400 : decode cL_law 400 = .ok (.iload_n 3, 1) := by decide +kernel
theorem dL_law_401 : decode cL_law 401 = .ok (.iconst 3, 1) := by decide +kernel
theorem dL_law_402 : decode cL_law 402 = .ok (.iadd, 1) := by decide +kernel
theorem dL_law_403 : decode cL_law 403 = .ok (.iaload, 1) := by decide +kernel
theorem dL_law_404 : decode cL_law 404 = .ok (.invokevirtual 49, 3) := by decide +kernel
theorem dL_law_407 : decode cL_law 407 = .ok (.aload_n 2, 1) := by decide +kernel
theorem dL_law_408 : decode cL_law 408 = .ok (.aload_n 0, 1) := by decide +kernel
theorem dL_law_409 : decode cL_law 409 = .ok (.iload_n 3, 1) := by decide +kernel
theorem dL_law_410 : decode cL_law 410 = .ok (.iconst 1, 1) := by decide +kernel
theorem dL_law_411 : decode cL_law 411 = .ok (.iadd, 1) := by decide +kernel
theorem dL_law_412 : decode cL_law 412 = .ok (.iaload, 1) := by decide +kernel
theorem dL_law_413 : decode cL_law 413 = .ok (.aload_n 0, 1) := by decide +kernel
theorem dL_law_414 : decode cL_law 414 = .ok (.iload_n 3, 1) := by decide +kernel
theorem dL_law_415 : decode cL_law 415 = .ok (.iconst 2, 1) := by decide +kernel
theorem dL_law_416 : decode cL_law 416 = .ok (.iadd, 1) := by decide +kernel
theorem dL_law_417 : decode cL_law 417 = .ok (.iaload, 1) := by decide +kernel
theorem dL_law_418 : decode cL_law 418 = .ok (.aload_n 0, 1) := by decide +kernel
theorem dL_law_419 : decode cL_law 419 = .ok (.iload_n 3, 1) := by decide +kernel
theorem dL_law_420 : decode cL_law 420 = .ok (.iconst 3, 1) := by decide +kernel
theorem dL_law_421 : decode cL_law 421 = .ok (.iadd, 1) := by decide +kernel
theorem dL_law_422 : decode cL_law 422 = .ok (.iaload, 1) := by decide +kernel
theorem dL_law_423 : decode cL_law 423 = .ok (.invokevirtual 52, 3) := by decide +kernel
theorem dL_law_426 : decode cL_law 426 = .ok (.if_icmp .eq 305, 3) := by decide +kernel
theorem dL_law_429 : decode cL_law 429 = .ok (.iconst 0, 1) := by decide +kernel
theorem dL_law_430 : decode cL_law 430 = .ok (.ireturn, 1) := by decide +kernel
theorem dL_law_431 : decode cL_law 431 = .ok (.aload_n 1, 1) := by decide +kernel
theorem dL_law_432 : decode cL_law 432 = .ok (.aload_n 0, 1) := by decide +kernel
theorem dL_law_433 : decode cL_law 433 = .ok (.iload_n 3, 1) := by decide +kernel
theorem dL_law_434 : decode cL_law 434 = .ok (.iconst 1, 1) := by decide +kernel
theorem dL_law_435 : decode cL_law 435 = .ok (.iadd, 1) := by decide +kernel
theorem dL_law_436 : decode cL_law 436 = .ok (.iaload, 1) := by decide +kernel
theorem dL_law_437 : decode cL_law 437 = .ok (.aload_n 0, 1) := by decide +kernel
theorem dL_law_438 : decode cL_law 438 = .ok (.iload_n 3, 1) := by decide +kernel
theorem dL_law_439 : decode cL_law 439 = .ok (.iconst 2, 1) := by decide +kernel
theorem dL_law_440 : decode cL_law 440 = .ok (.iadd, 1) := by decide +kernel
theorem dL_law_441 : decode cL_law 441 = .ok (.iaload, 1) := by decide +kernel
theorem dL_law_442 : decode cL_law 442 = .ok (.invokevirtual 53, 3) := by decide +kernel
theorem dL_law_445 : decode cL_law 445 = .ok (.aload_n 2, 1) := by decide +kernel
theorem dL_law_446 : decode cL_law 446 = .ok (.aload_n 0, 1) := by decide +kernel
theorem dL_law_447 : decode cL_law 447 = .ok (.iload_n 3, 1) := by decide +kernel
theorem dL_law_448 : decode cL_law 448 = .ok (.iconst 1, 1) := by decide +kernel
theorem dL_law_449 : decode cL_law 449 = .ok (.iadd, 1) := by decide +kernel
theorem dL_law_450 : decode cL_law 450 = .ok (.iaload, 1) := by decide +kernel
theorem dL_law_451 : decode cL_law 451 = .ok (.aload_n 0, 1) := by decide +kernel
theorem dL_law_452 : decode cL_law 452 = .ok (.iload_n 3, 1) := by decide +kernel
theorem dL_law_453 : decode cL_law 453 = .ok (.iconst 2, 1) := by decide +kernel
theorem dL_law_454 : decode cL_law 454 = .ok (.iadd, 1) := by decide +kernel
theorem dL_law_455 : decode cL_law 455 = .ok (.iaload, 1) := by decide +kernel
theorem dL_law_456 : decode cL_law 456 = .ok (.invokevirtual 56, 3) := by decide +kernel
theorem dL_law_459 : decode cL_law 459 = .ok (.if_icmp .eq 272, 3) := by decide +kernel
theorem dL_law_462 : decode cL_law 462 = .ok (.iconst 0, 1) := by decide +kernel
theorem dL_law_463 : decode cL_law 463 = .ok (.ireturn, 1) := by decide +kernel
theorem dL_law_464 : decode cL_law 464 = .ok (.aload_n 1, 1) := by decide +kernel
theorem dL_law_465 : decode cL_law 465 = .ok (.aload_n 0, 1) := by decide +kernel
theorem dL_law_466 : decode cL_law 466 = .ok (.iload_n 3, 1) := by decide +kernel
theorem dL_law_467 : decode cL_law 467 = .ok (.iconst 1, 1) := by decide +kernel
theorem dL_law_468 : decode cL_law 468 = .ok (.iadd, 1) := by decide +kernel
theorem dL_law_469 : decode cL_law 469 = .ok (.iaload, 1) := by decide +kernel
theorem dL_law_470 : decode cL_law 470 = .ok (.aload_n 0, 1) := by decide +kernel
theorem dL_law_471 : decode cL_law 471 = .ok (.iload_n 3, 1) := by decide +kernel
theorem dL_law_472 : decode cL_law 472 = .ok (.iconst 2, 1) := by decide +kernel
theorem dL_law_473 : decode cL_law 473 = .ok (.iadd, 1) := by decide +kernel
theorem dL_law_474 : decode cL_law 474 = .ok (.iaload, 1) := by decide +kernel
theorem dL_law_475 : decode cL_law 475 = .ok (.invokevirtual 57, 3) := by decide +kernel
theorem dL_law_478 : decode cL_law 478 = .ok (.aload_n 2, 1) := by decide +kernel
theorem dL_law_479 : decode cL_law 479 = .ok (.aload_n 0, 1) := by decide +kernel
theorem dL_law_480 : decode cL_law 480 = .ok (.iload_n 3, 1) := by decide +kernel
theorem dL_law_481 : decode cL_law 481 = .ok (.iconst 1, 1) := by decide +kernel
theorem dL_law_482 : decode cL_law 482 = .ok (.iadd, 1) := by decide +kernel
theorem dL_law_483 : decode cL_law 483 = .ok (.iaload, 1) := by decide +kernel
theorem dL_law_484 : decode cL_law 484 = .ok (.aload_n 0, 1) := by decide +kernel
theorem dL_law_485 : decode cL_law 485 = .ok (.iload_n 3, 1) := by decide +kernel
theorem dL_law_486 : decode cL_law 486 = .ok (.iconst 2, 1) := by decide +kernel
theorem dL_law_487 : decode cL_law 487 = .ok (.iadd, 1) := by decide +kernel
theorem dL_law_488 : decode cL_law 488 = .ok (.iaload, 1) := by decide +kernel
theorem dL_law_489 : decode cL_law 489 = .ok (.invokevirtual 60, 3) := by decide +kernel
theorem dL_law_492 : decode cL_law 492 = .ok (.if_icmp .eq 239, 3) := by decide +kernel
theorem dL_law_495 : decode cL_law 495 = .ok (.iconst 0, 1) := by decide +kernel
theorem dL_law_496 : decode cL_law 496 = .ok (.ireturn, 1) := by decide +kernel
theorem dL_law_497 : decode cL_law 497 = .ok (.aload_n 1, 1) := by decide +kernel
theorem dL_law_498 : decode cL_law 498 = .ok (.aload_n 0, 1) := by decide +kernel
theorem dL_law_499 : decode cL_law 499 = .ok (.iload_n 3, 1) := by decide +kernel
theorem dL_law_500 : decode cL_law 500 = .ok (.iconst 1, 1) := by decide +kernel
theorem dL_law_501 : decode cL_law 501 = .ok (.iadd, 1) := by decide +kernel
theorem dL_law_502 : decode cL_law 502 = .ok (.iaload, 1) := by decide +kernel
theorem dL_law_503 : decode cL_law 503 = .ok (.aload_n 0, 1) := by decide +kernel
theorem dL_law_504 : decode cL_law 504 = .ok (.iload_n 3, 1) := by decide +kernel
theorem dL_law_505 : decode cL_law 505 = .ok (.iconst 2, 1) := by decide +kernel
theorem dL_law_506 : decode cL_law 506 = .ok (.iadd, 1) := by decide +kernel
theorem dL_law_507 : decode cL_law 507 = .ok (.iaload, 1) := by decide +kernel
theorem dL_law_508 : decode cL_law 508 = .ok (.aload_n 0, 1) := by decide +kernel
theorem dL_law_509 : decode cL_law 509 = .ok (.iload_n 3, 1) := by decide +kernel
theorem dL_law_510 : decode cL_law 510 = .ok (.iconst 3, 1) := by decide +kernel
theorem dL_law_511 : decode cL_law 511 = .ok (.iadd, 1) := by decide +kernel
theorem dL_law_512 : decode cL_law 512 = .ok (.iaload, 1) := by decide +kernel
theorem dL_law_513 : decode cL_law 513 = .ok (.invokevirtual 61, 3) := by decide +kernel
theorem dL_law_516 : decode cL_law 516 = .ok (.aload_n 2, 1) := by decide +kernel
theorem dL_law_517 : decode cL_law 517 = .ok (.aload_n 0, 1) := by decide +kernel
theorem dL_law_518 : decode cL_law 518 = .ok (.iload_n 3, 1) := by decide +kernel
theorem dL_law_519 : decode cL_law 519 = .ok (.iconst 1, 1) := by decide +kernel
theorem dL_law_520 : decode cL_law 520 = .ok (.iadd, 1) := by decide +kernel
theorem dL_law_521 : decode cL_law 521 = .ok (.iaload, 1) := by decide +kernel
theorem dL_law_522 : decode cL_law 522 = .ok (.aload_n 0, 1) := by decide +kernel
theorem dL_law_523 : decode cL_law 523 = .ok (.iload_n 3, 1) := by decide +kernel
theorem dL_law_524 : decode cL_law 524 = .ok (.iconst 2, 1) := by decide +kernel
theorem dL_law_525 : decode cL_law 525 = .ok (.iadd, 1) := by decide +kernel
theorem dL_law_526 : decode cL_law 526 = .ok (.iaload, 1) := by decide +kernel
theorem dL_law_527 : decode cL_law 527 = .ok (.aload_n 0, 1) := by decide +kernel
theorem dL_law_528 : decode cL_law 528 = .ok (.iload_n 3, 1) := by decide +kernel
theorem dL_law_529 : decode cL_law 529 = .ok (.iconst 3, 1) := by decide +kernel
theorem dL_law_530 : decode cL_law 530 = .ok (.iadd, 1) := by decide +kernel
theorem dL_law_531 : decode cL_law 531 = .ok (.iaload, 1) := by decide +kernel
theorem dL_law_532 : decode cL_law 532 = .ok (.invokevirtual 64, 3) := by decide +kernel
theorem dL_law_535 : decode cL_law 535 = .ok (.if_icmp .eq 196, 3) := by decide +kernel
theorem dL_law_538 : decode cL_law 538 = .ok (.iconst 0, 1) := by decide +kernel
theorem dL_law_539 : decode cL_law 539 = .ok (.ireturn, 1) := by decide +kernel
theorem dL_law_540 : decode cL_law 540 = .ok (.aload_n 1, 1) := by decide +kernel
theorem dL_law_541 : decode cL_law 541 = .ok (.aload_n 0, 1) := by decide +kernel
theorem dL_law_542 : decode cL_law 542 = .ok (.iload_n 3, 1) := by decide +kernel
theorem dL_law_543 : decode cL_law 543 = .ok (.iconst 1, 1) := by decide +kernel
theorem dL_law_544 : decode cL_law 544 = .ok (.iadd, 1) := by decide +kernel
theorem dL_law_545 : decode cL_law 545 = .ok (.iaload, 1) := by decide +kernel
theorem dL_law_546 : decode cL_law 546 = .ok (.aload_n 0, 1) := by decide +kernel
theorem dL_law_547 : decode cL_law 547 = .ok (.iload_n 3, 1) := by decide +kernel
theorem dL_law_548 : decode cL_law 548 = .ok (.iconst 2, 1) := by decide +kernel
theorem dL_law_549 : decode cL_law 549 = .ok (.iadd, 1) := by decide +kernel
theorem dL_law_550 : decode cL_law 550 = .ok (.iaload, 1) := by decide +kernel
theorem dL_law_551 : decode cL_law 551 = .ok (.invokevirtual 65, 3) := by decide +kernel
theorem dL_law_554 : decode cL_law 554 = .ok (.aload_n 2, 1) := by decide +kernel
theorem dL_law_555 : decode cL_law 555 = .ok (.aload_n 0, 1) := by decide +kernel
theorem dL_law_556 : decode cL_law 556 = .ok (.iload_n 3, 1) := by decide +kernel
theorem dL_law_557 : decode cL_law 557 = .ok (.iconst 1, 1) := by decide +kernel
theorem dL_law_558 : decode cL_law 558 = .ok (.iadd, 1) := by decide +kernel
theorem dL_law_559 : decode cL_law 559 = .ok (.iaload, 1) := by decide +kernel
theorem dL_law_560 : decode cL_law 560 = .ok (.aload_n 0, 1) := by decide +kernel
theorem dL_law_561 : decode cL_law 561 = .ok (.iload_n 3, 1) := by decide +kernel
theorem dL_law_562 : decode cL_law 562 = .ok (.iconst 2, 1) := by decide +kernel
theorem dL_law_563 : decode cL_law 563 = .ok (.iadd, 1) := by decide +kernel
theorem dL_law_564 : decode cL_law 564 = .ok (.iaload, 1) := by decide +kernel
theorem dL_law_565 : decode cL_law 565 = .ok (.invokevirtual 68, 3) := by decide +kernel
theorem dL_law_568 : decode cL_law 568 = .ok (.if_icmp .eq 163, 3) := by decide +kernel
theorem dL_law_571 : decode cL_law 571 = .ok (.iconst 0, 1) := by decide +kernel
theorem dL_law_572 : decode cL_law 572 = .ok (.ireturn, 1) := by decide +kernel
theorem dL_law_573 : decode cL_law 573 = .ok (.aload_n 1, 1) := by decide +kernel
theorem dL_law_574 : decode cL_law 574 = .ok (.aload_n 0, 1) := by decide +kernel
theorem dL_law_575 : decode cL_law 575 = .ok (.iload_n 3, 1) := by decide +kernel
theorem dL_law_576 : decode cL_law 576 = .ok (.iconst 1, 1) := by decide +kernel
theorem dL_law_577 : decode cL_law 577 = .ok (.iadd, 1) := by decide +kernel
theorem dL_law_578 : decode cL_law 578 = .ok (.iaload, 1) := by decide +kernel
theorem dL_law_579 : decode cL_law 579 = .ok (.invokevirtual 69, 3) := by decide +kernel
theorem dL_law_582 : decode cL_law 582 = .ok (.aload_n 2, 1) := by decide +kernel
theorem dL_law_583 : decode cL_law 583 = .ok (.aload_n 0, 1) := by decide +kernel
theorem dL_law_584 : decode cL_law 584 = .ok (.iload_n 3, 1) := by decide +kernel
theorem dL_law_585 : decode cL_law 585 = .ok (.iconst 1, 1) := by decide +kernel
theorem dL_law_586 : decode cL_law 586 = .ok (.iadd, 1) := by decide +kernel
theorem dL_law_587 : decode cL_law 587 = .ok (.iaload, 1) := by decide +kernel
theorem dL_law_588 : decode cL_law 588 = .ok (.invokevirtual 72, 3) := by decide +kernel
theorem dL_law_591 : decode cL_law 591 = .ok (.if_icmp .eq 140, 3) := by decide +kernel
theorem dL_law_594 : decode cL_law 594 = .ok (.iconst 0, 1) := by decide +kernel
theorem dL_law_595 : decode cL_law 595 = .ok (.ireturn, 1) := by decide +kernel
theorem dL_law_596 : decode cL_law 596 = .ok (.aload_n 1, 1) := by decide +kernel
theorem dL_law_597 : decode cL_law 597 = .ok (.aload_n 0, 1) := by decide +kernel
theorem dL_law_598 : decode cL_law 598 = .ok (.iload_n 3, 1) := by decide +kernel
theorem dL_law_599 : decode cL_law 599 = .ok (.iconst 1, 1) := by decide +kernel
theorem dL_law_600 : decode cL_law 600 = .ok (.iadd, 1) := by decide +kernel
theorem dL_law_601 : decode cL_law 601 = .ok (.iaload, 1) := by decide +kernel
theorem dL_law_602 : decode cL_law 602 = .ok (.aload_n 0, 1) := by decide +kernel
theorem dL_law_603 : decode cL_law 603 = .ok (.iload_n 3, 1) := by decide +kernel
theorem dL_law_604 : decode cL_law 604 = .ok (.iconst 2, 1) := by decide +kernel
theorem dL_law_605 : decode cL_law 605 = .ok (.iadd, 1) := by decide +kernel
theorem dL_law_606 : decode cL_law 606 = .ok (.iaload, 1) := by decide +kernel
theorem dL_law_607 : decode cL_law 607 = .ok (.invokevirtual 73, 3) := by decide +kernel
theorem dL_law_610 : decode cL_law 610 = .ok (.aload_n 2, 1) := by decide +kernel
theorem dL_law_611 : decode cL_law 611 = .ok (.aload_n 0, 1) := by decide +kernel
theorem dL_law_612 : decode cL_law 612 = .ok (.iload_n 3, 1) := by decide +kernel
theorem dL_law_613 : decode cL_law 613 = .ok (.iconst 1, 1) := by decide +kernel
theorem dL_law_614 : decode cL_law 614 = .ok (.iadd, 1) := by decide +kernel
theorem dL_law_615 : decode cL_law 615 = .ok (.iaload, 1) := by decide +kernel
theorem dL_law_616 : decode cL_law 616 = .ok (.aload_n 0, 1) := by decide +kernel
theorem dL_law_617 : decode cL_law 617 = .ok (.iload_n 3, 1) := by decide +kernel
theorem dL_law_618 : decode cL_law 618 = .ok (.iconst 2, 1) := by decide +kernel
theorem dL_law_619 : decode cL_law 619 = .ok (.iadd, 1) := by decide +kernel
theorem dL_law_620 : decode cL_law 620 = .ok (.iaload, 1) := by decide +kernel
theorem dL_law_621 : decode cL_law 621 = .ok (.invokevirtual 76, 3) := by decide +kernel
theorem dL_law_624 : decode cL_law 624 = .ok (.if_icmp .eq 107, 3) := by decide +kernel
theorem dL_law_627 : decode cL_law 627 = .ok (.iconst 0, 1) := by decide +kernel
theorem dL_law_628 : decode cL_law 628 = .ok (.ireturn, 1) := by decide +kernel
theorem dL_law_629 : decode cL_law 629 = .ok (.aload_n 1, 1) := by decide +kernel
theorem dL_law_630 : decode cL_law 630 = .ok (.aload_n 0, 1) := by decide +kernel
theorem dL_law_631 : decode cL_law 631 = .ok (.iload_n 3, 1) := by decide +kernel
theorem dL_law_632 : decode cL_law 632 = .ok (.iconst 1, 1) := by decide +kernel
theorem dL_law_633 : decode cL_law 633 = .ok (.iadd, 1) := by decide +kernel
theorem dL_law_634 : decode cL_law 634 = .ok (.iaload, 1) := by decide +kernel
theorem dL_law_635 : decode cL_law 635 = .ok (.aload_n 0, 1) := by decide +kernel
theorem dL_law_636 : decode cL_law 636 = .ok (.iload_n 3, 1) := by decide +kernel
theorem dL_law_637 : decode cL_law 637 = .ok (.iconst 2, 1) := by decide +kernel
theorem dL_law_638 : decode cL_law 638 = .ok (.iadd, 1) := by decide +kernel
theorem dL_law_639 : decode cL_law 639 = .ok (.iaload, 1) := by decide +kernel
theorem dL_law_640 : decode cL_law 640 = .ok (.invokevirtual 77, 3) := by decide +kernel
theorem dL_law_643 : decode cL_law 643 = .ok (.aload_n 2, 1) := by decide +kernel
theorem dL_law_644 : decode cL_law 644 = .ok (.aload_n 0, 1) := by decide +kernel
theorem dL_law_645 : decode cL_law 645 = .ok (.iload_n 3, 1) := by decide +kernel
theorem dL_law_646 : decode cL_law 646 = .ok (.iconst 1, 1) := by decide +kernel
theorem dL_law_647 : decode cL_law 647 = .ok (.iadd, 1) := by decide +kernel
theorem dL_law_648 : decode cL_law 648 = .ok (.iaload, 1) := by decide +kernel
theorem dL_law_649 : decode cL_law 649 = .ok (.aload_n 0, 1) := by decide +kernel
theorem dL_law_650 : decode cL_law 650 = .ok (.iload_n 3, 1) := by decide +kernel
theorem dL_law_651 : decode cL_law 651 = .ok (.iconst 2, 1) := by decide +kernel
theorem dL_law_652 : decode cL_law 652 = .ok (.iadd, 1) := by decide +kernel
theorem dL_law_653 : decode cL_law 653 = .ok (.iaload, 1) := by decide +kernel
theorem dL_law_654 : decode cL_law 654 = .ok (.invokevirtual 80, 3) := by decide +kernel
theorem dL_law_657 : decode cL_law 657 = .ok (.if_icmp .eq 74, 3) := by decide +kernel
theorem dL_law_660 : decode cL_law 660 = .ok (.iconst 0, 1) := by decide +kernel
theorem dL_law_661 : decode cL_law 661 = .ok (.ireturn, 1) := by decide +kernel
theorem dL_law_662 : decode cL_law 662 = .ok (.aload_n 1, 1) := by decide +kernel
theorem dL_law_663 : decode cL_law 663 = .ok (.aload_n 0, 1) := by decide +kernel
theorem dL_law_664 : decode cL_law 664 = .ok (.iload_n 3, 1) := by decide +kernel
theorem dL_law_665 : decode cL_law 665 = .ok (.iconst 1, 1) := by decide +kernel
theorem dL_law_666 : decode cL_law 666 = .ok (.iadd, 1) := by decide +kernel
theorem dL_law_667 : decode cL_law 667 = .ok (.iaload, 1) := by decide +kernel
theorem dL_law_668 : decode cL_law 668 = .ok (.invokevirtual 81, 3) := by decide +kernel
theorem dL_law_671 : decode cL_law 671 = .ok (.aload_n 2, 1) := by decide +kernel
theorem dL_law_672 : decode cL_law 672 = .ok (.aload_n 0, 1) := by decide +kernel
theorem dL_law_673 : decode cL_law 673 = .ok (.iload_n 3, 1) := by decide +kernel
theorem dL_law_674 : decode cL_law 674 = .ok (.iconst 1, 1) := by decide +kernel
theorem dL_law_675 : decode cL_law 675 = .ok (.iadd, 1) := by decide +kernel
theorem dL_law_676 : decode cL_law 676 = .ok (.iaload, 1) := by decide +kernel
theorem dL_law_677 : decode cL_law 677 = .ok (.invokevirtual 84, 3) := by decide +kernel
theorem dL_law_680 : decode cL_law 680 = .ok (.if_icmp .eq 51, 3) := by decide +kernel
theorem dL_law_683 : decode cL_law 683 = .ok (.iconst 0, 1) := by decide +kernel
theorem dL_law_684 : decode cL_law 684 = .ok (.ireturn, 1) := by decide +kernel
theorem dL_law_685 : decode cL_law 685 = .ok (.aload_n 1, 1) := by decide +kernel
theorem dL_law_686 : decode cL_law 686 = .ok (.aload_n 0, 1) := by decide +kernel
theorem dL_law_687 : decode cL_law 687 = .ok (.iload_n 3, 1) := by decide +kernel
theorem dL_law_688 : decode cL_law 688 = .ok (.iconst 1, 1) := by decide +kernel
theorem dL_law_689 : decode cL_law 689 = .ok (.iadd, 1) := by decide +kernel
theorem dL_law_690 : decode cL_law 690 = .ok (.iaload, 1) := by decide +kernel
theorem dL_law_691 : decode cL_law 691 = .ok (.invokevirtual 85, 3) := by decide +kernel
theorem dL_law_694 : decode cL_law 694 = .ok (.aload_n 2, 1) := by decide +kernel
theorem dL_law_695 : decode cL_law 695 = .ok (.aload_n 0, 1) := by decide +kernel
theorem dL_law_696 : decode cL_law 696 = .ok (.iload_n 3, 1) := by decide +kernel
theorem dL_law_697 : decode cL_law 697 = .ok (.iconst 1, 1) := by decide +kernel
theorem dL_law_698 : decode cL_law 698 = .ok (.iadd, 1) := by decide +kernel
theorem dL_law_699 : decode cL_law 699 = .ok (.iaload, 1) := by decide +kernel
theorem dL_law_700 : decode cL_law 700 = .ok (.invokevirtual 88, 3) := by decide +kernel
theorem dL_law_703 : decode cL_law 703 = .ok (.if_icmp .eq 28, 3) := by decide +kernel
theorem dL_law_706 : decode cL_law 706 = .ok (.iconst 0, 1) := by decide +kernel
theorem dL_law_707 : decode cL_law 707 = .ok (.ireturn, 1) := by decide +kernel
theorem dL_law_708 : decode cL_law 708 = .ok (.aload_n 1, 1) := by decide +kernel
theorem dL_law_709 : decode cL_law 709 = .ok (.aload_n 0, 1) := by decide +kernel
theorem dL_law_710 : decode cL_law 710 = .ok (.iload_n 3, 1) := by decide +kernel
theorem dL_law_711 : decode cL_law 711 = .ok (.iconst 1, 1) := by decide +kernel
theorem dL_law_712 : decode cL_law 712 = .ok (.iadd, 1) := by decide +kernel
theorem dL_law_713 : decode cL_law 713 = .ok (.iaload, 1) := by decide +kernel
theorem dL_law_714 : decode cL_law 714 = .ok (.invokevirtual 89, 3) := by decide +kernel
theorem dL_law_717 : decode cL_law 717 = .ok (.aload_n 2, 1) := by decide +kernel
theorem dL_law_718 : decode cL_law 718 = .ok (.aload_n 0, 1) := by decide +kernel
theorem dL_law_719 : decode cL_law 719 = .ok (.iload_n 3, 1) := by decide +kernel
theorem dL_law_720 : decode cL_law 720 = .ok (.iconst 1, 1) := by decide +kernel
theorem dL_law_721 : decode cL_law 721 = .ok (.iadd, 1) := by decide +kernel
theorem dL_law_722 : decode cL_law 722 = .ok (.iaload, 1) := by decide +kernel
theorem dL_law_723 : decode cL_law 723 = .ok (.invokevirtual 92, 3) := by decide +kernel
theorem dL_law_726 : decode cL_law 726 = .ok (.if_icmp .eq 5, 3) := by decide +kernel
theorem dL_law_729 : decode cL_law 729 = .ok (.iconst 0, 1) := by decide +kernel
theorem dL_law_730 : decode cL_law 730 = .ok (.ireturn, 1) := by decide +kernel
theorem dL_law_731 : decode cL_law 731 = .ok (.iinc 3 5, 3) := by decide +kernel
theorem dL_law_734 : decode cL_law 734 = .ok (.goto (-716), 3) := by decide +kernel
theorem dL_law_737 : decode cL_law 737 = .ok (.iconst 1, 1) := by decide +kernel
theorem dL_law_738 : decode cL_law 738 = .ok (.ireturn, 1) := by decide +kernel
end
section
/-! ===== A SMALL MACHINE OF OUR OWN OVER THE KIT'S: the heap's shape is a fixed table T, its numbers are a state σ of whole numbers; AW says that the method's frame comes to its end with Q. Ints stand for their class mod 2^32, so sums, differences and products ask nothing. ===== -/
abbrev am_V : Type := Int ⊕ (Int64 ⊕ Nat)
abbrev vI (z : Int) : am_V := .inl z
abbrev vL (x : Int64) : am_V := .inr (.inl x)
abbrev vR (k : Nat) : am_V := .inr (.inr k)
abbrev am_S : Type := (Nat → Nat → Int) × (Nat → Nat → Int64)
abbrev am_C : Type := (Nat × List (Option Nat)) ⊕ ((Nat × Nat) ⊕ List Nat)
abbrev am_E : Type := (Nat → Nat) × va_G × (Nat → ClassId)
abbrev am_M : Type := MethodName × ByteArray × Nat × Option FieldType × Room × (Nat × Nat)
def am_tr (E : am_E) (v : am_V) : Value := match v with
  | .inl z => .int (Int32.ofInt z)
  | .inr (.inl x) => .long x
  | .inr (.inr k) => .ref (E.1 k)
def am_fv (E : am_E) (σ : am_S) (k j : Nat) (o : Option Nat) : Value := match o with
  | some r => .ref (E.1 r)
  | none => .int (Int32.ofInt (σ.1 k j))
def am_cell (E : am_E) (σ : am_S) (k : Nat) (c : am_C) : va_E := match c with
  | .inl o => .inr (o.1, o.2.mapIdx (fun j f => am_fv E σ k j f))
  | .inr (.inl a) => match a.1 with
    | 0 => .inl (E.2.2 0, a.2, .inl (fun j => Int32.ofInt (σ.1 k j)))
    | 1 => .inl (E.2.2 1, a.2, .inl (fun j => Int32.ofInt (σ.1 k j)))
    | _ => .inl (E.2.2 2, a.2, .inr (.inl (σ.2 k)))
  | .inr (.inr rs) => .inl (E.2.2 3, rs.length, .inr (.inr (.inr (.inr (fun j => (rs[j]?).map E.1)))))
def am_ws (T : List am_C) (E : am_E) (σ : am_S) : va_W := T.mapIdx (fun k c => (E.1 k, am_cell E σ k c))
def am_cl : List vw_C := [(RX0, TX0, 5), (RX1, TX1, 5), (RX2, TX2, 11), (RX3, TX3, 5), (RX4, TX4, 6), (RX5, TX5, 2), (RX6, TX6, 7), (RX7, TX7, 16)]
def am_tys (E : am_E) : List (ClassId × FieldType) := [(E.2.2 0, .int), (E.2.2 1, .boolean), (E.2.2 2, .long), (E.2.2 3, .object "BeltArms$State")]
def am_A (T : List am_C) (E : am_E) : Nat → Prop := fun q => ∃ k, k < T.length ∧ q = E.1 k
/-- the words of the tables that a callee may ask again; those on nest mates stand in the world -/
def am_tb : List Cond := lw_tbl.filter goodWord
def am_N (U : State) : Prop := va_Nw (.fieldLinkNest "BeltArms$Trays" 49 "BeltArms$Plan" "slotOf" "[I" "BeltArms") U ∧ va_Nw (.methodLinkNest "BeltArms$Arms" 33 yX6_isWithin "BeltArms") U
def am_G (T : List am_C) (E : am_E) (σ : am_S) (U : State) (H : Heap) : Prop := va_P E.2.1 am_cl (am_ws T E σ) H ∧ va_K E.2.1 am_cl (am_tys E) U ∧ va_D (am_A T E) (am_ws T E σ) ∧ am_N U
def am_Pc (T : List am_C) (E : am_E) (av : List am_V) (σ : am_S) : Array Value → State → Prop := fun v U => v = (av.map (am_tr E)).toArray ∧ am_G T E σ U U.heap
def am_Qc (T : List am_C) (E : am_E) (Q : Option am_V → am_S → Prop) : Array Value → State → Outcome → State → Prop := fun _ st oc t => (∃ (r : Option am_V) (σ' : am_S), oc = .returned (r.map (am_tr E)) ∧ Q r σ' ∧ am_G T E σ' t t.heap) ∧ va_F (am_A T E) st t
def am_lh (E : am_E) (ls : Array Slot) (n : Nat) (lv : List (Option am_V)) : Prop := ls.size = n ∧ lv_wf ls ∧ ∀ (i : Nat) (v : am_V), lv[i]? = some (some v) → (am_tr E v).category = 1 → ls[i]? = some (.val (am_tr E v))
def am_wd (M : am_M) : List Cond := .code M.1 M.2.1 M.2.2.1 M.2.2.2.1 :: am_tb
def am_Cx (M : am_M) (p : Program) (s : State) (m : MethodId) (args : Array Value) (meth : Method) (c : Code) : Prop :=
  p.tables.exec = Jvm.exec ∧ c.code = M.2.1 ∧ meth.sig.returnType = M.2.2.2.1 ∧ c.maxLocals = M.2.2.1 ∧ s.vm.findClass M.1.cls = some m.cls ∧ (∀ w ∈ am_wd M, w.before args s = true) ∧ meth.locks = false
def AW (T : List am_C) (M : am_M) (pc : Nat) (lv : List (Option am_V)) (st : List am_V) (σ : am_S) (Q : Option am_V → am_S → Prop) : Prop :=
  ∀ (E : am_E) (p : Program) (l : Launch) (e : Env) (s : State) (m : MethodId) (args : Array Value) (below : List Frame) (meth : Method) (c : Code) (H : Heap) (locs : List Loc) (ls : Array Slot),
    am_Cx M p s m args meth c → am_G T E σ s H → va_S (am_A T E) s.heap H locs → am_lh E ls M.2.2.1 lv →
    W p l e M.2.2.2.2.1 s m args below meth c H locs M.2.2.2.2.2.1 M.2.2.2.2.2.2 (MQ below (am_Qc T E Q) args s M.2.2.2.2.2.1 M.2.2.2.2.2.2 (am_A T E)) (F0 m pc ls (st.map (am_tr E)))
/-- a method's contract over the table -/
def Runs (T : List am_C) (M : am_M) (av : List am_V) (σ : am_S) (Q : Option am_V → am_S → Prop) : Prop := ∀ (l : Launch) (E : am_E), Met l M.1 (am_wd M) M.2.2.2.2.1 (am_Pc T E av σ) (am_Qc T E Q) M.2.2.2.2.2.1 M.2.2.2.2.2.2 (am_A T E)
def QI (P : Int → am_S → Prop) : Option am_V → am_S → Prop := fun r σ' => ∃ z : Int, r = some (vI z) ∧ P z σ'
def QV (P : am_S → Prop) : Option am_V → am_S → Prop := fun r σ' => r = none ∧ P σ'
def QR (P : Nat → am_S → Prop) : Option am_V → am_S → Prop := fun r σ' => ∃ k : Nat, r = some (vR k) ∧ P k σ'
def am_up (σ : am_S) (k j : Nat) (x : Int) : am_S := (fun a b => if a = k ∧ b = j then x else σ.1 a b, σ.2)
def am_upL (σ : am_S) (k j : Nat) (x : Int64) : am_S := (σ.1, fun a b => if a = k ∧ b = j then x else σ.2 a b)
def am_rm (r : Nat) : Room := { frames := r, cells := 0, slots := 0, locals := 34 * r }
-- ===== the heap's cells out of the table =====
theorem am_ws_get {T : List am_C} {E : am_E} {σ : am_S} {k : Nat} {c : am_C} (h : T[k]? = some c) : (am_ws T E σ)[k]? = some (E.1 k, am_cell E σ k c) := by
  simp [am_ws, List.getElem?_mapIdx, h]
theorem am_cell_eq {E : am_E} {σ σ' : am_S} {k : Nat} (c : am_C) (h1 : σ'.1 k = σ.1 k) (h2 : σ'.2 k = σ.2 k) : am_cell E σ' k c = am_cell E σ k c := by
  rcases c with o | a | rs
  · simp only [am_cell]
    have : (fun j f => am_fv E σ' k j f) = (fun j f => am_fv E σ k j f) := by
      funext j f
      cases f <;> simp [am_fv, h1]
    rw [this]
  · simp only [am_cell, h1, h2]
  · rfl
theorem am_ws_set {T : List am_C} {E : am_E} {σ σ' : am_S} {k : Nat} {c : am_C} (hk : T[k]? = some c) (h : ∀ a, a ≠ k → σ'.1 a = σ.1 a ∧ σ'.2 a = σ.2 a) : (am_ws T E σ).set k (E.1 k, am_cell E σ' k c) = am_ws T E σ' := by
  apply List.ext_getElem?
  intro i
  by_cases hi : i = k
  · subst hi
    rw [am_ws_get hk, List.getElem?_set_self (by
      have := am_ws_get (E := E) (σ := σ) hk
      exact (List.getElem?_eq_some_iff.mp this).1)]
  · rw [List.getElem?_set_ne (fun h => hi h.symm)]
    simp only [am_ws, List.getElem?_mapIdx]
    cases hT : T[i]? with
    | none => rfl
    | some c' => simp only [Option.map_some]; rw [am_cell_eq c' (h i hi).1 (h i hi).2]
theorem am_G.moved {T : List am_C} {E : am_E} {σ : am_S} {u U : State} {H : Heap} (hW : u.WarmedH U.vm) (h : am_G T E σ u H) : am_G T E σ U H := ⟨h.1, va_K.moved hW.alike h.2.1, h.2.2.1, va_Nw.warmF hW h.2.2.2.1, va_Nw.warmM hW h.2.2.2.2⟩
theorem am_len {T : List am_C} {k : Nat} {c : am_C} (h : T[k]? = some c) : k < T.length := (List.getElem?_eq_some_iff.mp h).1
-- ===== numbers =====
theorem i32_toInt {x : Int} (h : -2147483648 ≤ x ∧ x < 2147483648) : (Int32.ofInt x).toInt = x := Int32.toInt_ofInt_of_le (by simpa using h.1) (by simpa using h.2)
theorem i32_le {x y : Int} (hx : -2147483648 ≤ x ∧ x < 2147483648) (hy : -2147483648 ≤ y ∧ y < 2147483648) : Int32.ofInt x ≤ Int32.ofInt y ↔ x ≤ y := by rw [Int32.le_iff_toInt_le, i32_toInt hx, i32_toInt hy]
theorem i32_lt {x y : Int} (hx : -2147483648 ≤ x ∧ x < 2147483648) (hy : -2147483648 ≤ y ∧ y < 2147483648) : Int32.ofInt x < Int32.ofInt y ↔ x < y := by rw [Int32.lt_iff_toInt_lt, i32_toInt hx, i32_toInt hy]
theorem i32_eq {x y : Int} (hx : -2147483648 ≤ x ∧ x < 2147483648) (hy : -2147483648 ≤ y ∧ y < 2147483648) : Int32.ofInt x = Int32.ofInt y ↔ x = y := by
  rw [← Int32.toInt_inj, i32_toInt hx, i32_toInt hy]
theorem i32_clamp {x : Int} (h : 0 ≤ x ∧ x < 2147483648) : (Int32.ofInt x).toNatClampNeg = x.toNat := by
  show (Int32.ofInt x).toInt.toNat = x.toNat
  rw [i32_toInt ⟨by omega, h.2⟩]
theorem i32_in {x : Int} {n : Nat} (hn : n < 2147483648) (h : 0 ≤ x ∧ x < n) : vp_in (Int32.ofInt x) n := by
  rw [vp_in_iff, i32_toInt ⟨by omega, by omega⟩]
  exact h
theorem i32_zero : (0 : Int32) = Int32.ofInt 0 := rfl
-- ===== plain rows =====
section AMR
variable {T : List am_C} {M : am_M} {pc : Nat} {lv : List (Option am_V)} {st : List am_V} {σ : am_S} {Q : Option am_V → am_S → Prop}
theorem AW_iconst {n : Int} (hd : decode M.2.1 pc = .ok (.iconst n, 1)) (k : AW T M (pc + 1) lv (vI n :: st) σ Q) : AW T M pc lv st σ Q := by
  intro E p l e s m args below meth c H locs ls C G S L
  exact lv_iconst C.1 C.2.1 hd rfl (k E p l e s m args below meth c H locs ls C G S L)
theorem AW_bipush {n : Int} (hd : decode M.2.1 pc = .ok (.bipush n, 2)) (hn : (Int8.ofInt n).toInt32 = Int32.ofInt n) (k : AW T M (pc + 2) lv (vI n :: st) σ Q) : AW T M pc lv st σ Q := by
  intro E p l e s m args below meth c H locs ls C G S L
  exact lv_bipush C.1 C.2.1 hd hn (k E p l e s m args below meth c H locs ls C G S L)
theorem AW_sipush {n : Int} (hd : decode M.2.1 pc = .ok (.sipush n, 3)) (hn : (Int16.ofInt n).toInt32 = Int32.ofInt n) (k : AW T M (pc + 3) lv (vI n :: st) σ Q) : AW T M pc lv st σ Q := by
  intro E p l e s m args below meth c H locs ls C G S L
  exact lv_sipush C.1 C.2.1 hd hn (k E p l e s m args below meth c H locs ls C G S L)
theorem AW_lconst {n : Fin 2} {v : Int64} (hd : decode M.2.1 pc = .ok (.lconst n, 1)) (hv : Int64.ofNat (n : Nat) = v) (k : AW T M (pc + 1) lv (vL v :: st) σ Q) : AW T M pc lv st σ Q := by
  intro E p l e s m args below meth c H locs ls C G S L
  exact lv_lconst C.1 C.2.1 hd hv (k E p l e s m args below meth c H locs ls C G S L)
theorem AW_iload_n {j : Fin 4} {x : Int} (hd : decode M.2.1 pc = .ok (.iload_n j, 1)) (hl : lv[(j : Nat)]? = some (some (vI x))) (k : AW T M (pc + 1) lv (vI x :: st) σ Q) : AW T M pc lv st σ Q := by
  intro E p l e s m args below meth c H locs ls C G S L
  exact lv_iload_n C.1 C.2.1 hd rfl (L.2.2 _ _ hl rfl) (k E p l e s m args below meth c H locs ls C G S L)
theorem AW_iload {i : Nat} {x : Int} (hd : decode M.2.1 pc = .ok (.iload i, 2)) (hl : lv[i]? = some (some (vI x))) (k : AW T M (pc + 2) lv (vI x :: st) σ Q) : AW T M pc lv st σ Q := by
  intro E p l e s m args below meth c H locs ls C G S L
  exact lv_iload C.1 C.2.1 hd (L.2.2 _ _ hl rfl) (k E p l e s m args below meth c H locs ls C G S L)
theorem AW_aload_n {j : Fin 4} {x : Nat} (hd : decode M.2.1 pc = .ok (.aload_n j, 1)) (hl : lv[(j : Nat)]? = some (some (vR x))) (k : AW T M (pc + 1) lv (vR x :: st) σ Q) : AW T M pc lv st σ Q := by
  intro E p l e s m args below meth c H locs ls C G S L
  exact lv_aload_n C.1 C.2.1 hd rfl (L.2.2 _ _ hl rfl) (k E p l e s m args below meth c H locs ls C G S L)
theorem AW_aload {i : Nat} {x : Nat} (hd : decode M.2.1 pc = .ok (.aload i, 2)) (hl : lv[i]? = some (some (vR x))) (k : AW T M (pc + 2) lv (vR x :: st) σ Q) : AW T M pc lv st σ Q := by
  intro E p l e s m args below meth c H locs ls C G S L
  exact lv_aload C.1 C.2.1 hd (L.2.2 _ _ hl rfl) (k E p l e s m args below meth c H locs ls C G S L)
/-- the locals as the kit's list -/
def am_ll (E : am_E) (lv : List (Option am_V)) : List (Nat × Value) := lv.zipIdx.filterMap (fun q => match q.1 with
  | some v => if (am_tr E v).category = 1 then some (q.2, am_tr E v) else none
  | none => none)
theorem am_ll_mem {E : am_E} {lv : List (Option am_V)} {i : Nat} {w : Value} : (i, w) ∈ am_ll E lv ↔ ∃ v, lv[i]? = some (some v) ∧ (am_tr E v).category = 1 ∧ w = am_tr E v := by
  unfold am_ll
  rw [List.mem_filterMap]
  constructor
  · rintro ⟨⟨o, j⟩, hm, hq⟩
    rw [List.mem_zipIdx_iff_getElem?] at hm
    cases o with
    | none => simp at hq
    | some v =>
      simp only at hq
      split at hq
      · rename_i hc
        simp only [Option.some.injEq, Prod.mk.injEq] at hq
        obtain ⟨rfl, rfl⟩ := hq
        exact ⟨v, by simpa using hm, hc, rfl⟩
      · cases hq
  · rintro ⟨v, h1, h2, rfl⟩
    refine ⟨(some v, i), ?_, by simp [h2]⟩
    rw [List.mem_zipIdx_iff_getElem?]
    simpa using h1
theorem am_lh.has {E : am_E} {ls : Array Slot} {n : Nat} (h : am_lh E ls n lv) : lv_has ls n (am_ll E lv) := ⟨h.1, h.2.1, fun q hq => by
  obtain ⟨v, h1, h2, h3⟩ := am_ll_mem.mp (show (q.1, q.2) ∈ _ from hq)
  rw [h3]
  exact h.2.2 _ _ h1 h2⟩
theorem am_lh_set {E : am_E} {ls : Array Slot} {n i : Nat} {v : am_V} {w : Value} (hw : w = am_tr E v) (hlv : i < lv.length) (h : lv_has ls n ((i, w) :: (am_ll E lv).filter (fun q => !(q.1 == i) && !(q.1 + 1 == i && q.2.category == 2)))) : am_lh E ls n (lv.set i (some v)) := by
  refine ⟨h.1, h.2.1, fun j u hj hc => ?_⟩
  by_cases hji : j = i
  · subst hji
    rw [List.getElem?_set_self hlv] at hj
    cases hj
    have := h.2.2 (j, w) List.mem_cons_self
    rw [hw] at this
    exact this
  · rw [List.getElem?_set_ne (fun h => hji h.symm)] at hj
    have hm : (j, am_tr E u) ∈ am_ll E lv := am_ll_mem.mpr ⟨u, hj, hc, rfl⟩
    exact h.2.2 (j, am_tr E u) (List.mem_cons_of_mem _ (List.mem_filter.mpr ⟨hm, by simp [hji, hc]⟩))
theorem AW_istore_n {j : Fin 4} {i : Nat} {x : Int} {lv' : List (Option am_V)} (hd : decode M.2.1 pc = .ok (.istore_n j, 1)) (hi : (j : Nat) = i) (hn : i < M.2.2.1) (hlen : i < lv.length) (hl : lv.set i (some (vI x)) = lv') (k : AW T M (pc + 1) lv' st σ Q) : AW T M pc lv (vI x :: st) σ Q := by
  intro E p l e s m args below meth c H locs ls C G S L
  subst hl
  exact lv_istore_n C.1 C.2.1 hd hi L.has hn rfl (fun ls' h => k E p l e s m args below meth c H locs ls' C G S (am_lh_set (v := vI x) rfl hlen h))
theorem AW_istore {i : Nat} {x : Int} {lv' : List (Option am_V)} (hd : decode M.2.1 pc = .ok (.istore i, 2)) (hn : i < M.2.2.1) (hlen : i < lv.length) (hl : lv.set i (some (vI x)) = lv') (k : AW T M (pc + 2) lv' st σ Q) : AW T M pc lv (vI x :: st) σ Q := by
  intro E p l e s m args below meth c H locs ls C G S L
  subst hl
  exact lv_istore C.1 C.2.1 hd L.has hn rfl (fun ls' h => k E p l e s m args below meth c H locs ls' C G S (am_lh_set (v := vI x) rfl hlen h))
theorem AW_astore_n {j : Fin 4} {i : Nat} {x : Nat} {lv' : List (Option am_V)} (hd : decode M.2.1 pc = .ok (.astore_n j, 1)) (hi : (j : Nat) = i) (hn : i < M.2.2.1) (hlen : i < lv.length) (hl : lv.set i (some (vR x)) = lv') (k : AW T M (pc + 1) lv' st σ Q) : AW T M pc lv (vR x :: st) σ Q := by
  intro E p l e s m args below meth c H locs ls C G S L
  subst hl
  exact lv_astore_n C.1 C.2.1 hd hi L.has hn rfl (fun ls' h => k E p l e s m args below meth c H locs ls' C G S (am_lh_set (v := vR x) rfl hlen h))
theorem AW_astore {i : Nat} {x : Nat} {lv' : List (Option am_V)} (hd : decode M.2.1 pc = .ok (.astore i, 2)) (hn : i < M.2.2.1) (hlen : i < lv.length) (hl : lv.set i (some (vR x)) = lv') (k : AW T M (pc + 2) lv' st σ Q) : AW T M pc lv (vR x :: st) σ Q := by
  intro E p l e s m args below meth c H locs ls C G S L
  subst hl
  exact lv_astore C.1 C.2.1 hd L.has hn rfl (fun ls' h => k E p l e s m args below meth c H locs ls' C G S (am_lh_set (v := vR x) rfl hlen h))
theorem AW_iinc {i : Nat} {n x : Int} {lv' : List (Option am_V)} (hd : decode M.2.1 pc = .ok (.iinc i n, 3)) (hx : lv[i]? = some (some (vI x))) (hn : i < M.2.2.1) (hl : lv.set i (some (vI (x + n))) = lv') (k : AW T M (pc + 3) lv' st σ Q) : AW T M pc lv st σ Q := by
  intro E p l e s m args below meth c H locs ls C G S L
  subst hl
  have hm : (i, am_tr E (vI x)) ∈ am_ll E lv := am_ll_mem.mpr ⟨vI x, hx, rfl, rfl⟩
  obtain ⟨q, hq⟩ := List.getElem?_of_mem hm
  exact lv_iinc C.1 C.2.1 hd L.has hq (Int32.ofInt_add x n).symm hn rfl (fun ls' h => k E p l e s m args below meth c H locs ls' C G S (am_lh_set (v := vI (x + n)) rfl (List.getElem?_eq_some_iff.mp hx).1 h))
theorem AW_iadd {x y : Int} (hd : decode M.2.1 pc = .ok (.iadd, 1)) (k : AW T M (pc + 1) lv (vI (x + y) :: st) σ Q) : AW T M pc lv (vI y :: vI x :: st) σ Q := by
  intro E p l e s m args below meth c H locs ls C G S L
  refine lv_iadd C.1 C.2.1 hd ?_
  rw [← Int32.ofInt_add]
  exact k E p l e s m args below meth c H locs ls C G S L
theorem AW_isub {x y : Int} (hd : decode M.2.1 pc = .ok (.isub, 1)) (k : AW T M (pc + 1) lv (vI (x - y) :: st) σ Q) : AW T M pc lv (vI y :: vI x :: st) σ Q := by
  intro E p l e s m args below meth c H locs ls C G S L
  refine lv_isub C.1 C.2.1 hd ?_
  rw [← Int32.ofInt_sub]
  exact k E p l e s m args below meth c H locs ls C G S L
theorem AW_imul {x y : Int} (hd : decode M.2.1 pc = .ok (.imul, 1)) (k : AW T M (pc + 1) lv (vI (x * y) :: st) σ Q) : AW T M pc lv (vI y :: vI x :: st) σ Q := by
  intro E p l e s m args below meth c H locs ls C G S L
  refine lv_imul C.1 C.2.1 hd ?_
  rw [← Int32.ofInt_mul]
  exact k E p l e s m args below meth c H locs ls C G S L
theorem AW_ineg {x : Int} (hd : decode M.2.1 pc = .ok (.ineg, 1)) (k : AW T M (pc + 1) lv (vI (-x) :: st) σ Q) : AW T M pc lv (vI x :: st) σ Q := by
  intro E p l e s m args below meth c H locs ls C G S L
  refine lv_ineg C.1 C.2.1 hd ?_
  rw [← Int32.ofInt_neg]
  exact k E p l e s m args below meth c H locs ls C G S L
theorem i32_div {x y : Int} (hx : -2147483648 ≤ x ∧ x < 2147483648) (hy : -2147483648 ≤ y ∧ y < 2147483648) : Int32.ofInt x / Int32.ofInt y = Int32.ofInt (x.tdiv y) := by
  have h1 : (Int32.minValue.toInt : Int) = -2147483648 := rfl
  have h2 : (Int32.maxValue.toInt : Int) = 2147483647 := rfl
  rw [Int32.ofInt_tdiv] <;> omega
theorem AW_idiv {x y : Int} (hd : decode M.2.1 pc = .ok (.idiv, 1)) (hx : -2147483648 ≤ x ∧ x < 2147483648) (hy : -2147483648 ≤ y ∧ y < 2147483648) (h0 : y ≠ 0) (k : AW T M (pc + 1) lv (vI (x.tdiv y) :: st) σ Q) : AW T M pc lv (vI y :: vI x :: st) σ Q := by
  intro E p l e s m args below meth c H locs ls C G S L
  refine lv_idiv C.1 C.2.1 hd (fun h => h0 ((i32_eq hy ⟨by omega, by omega⟩).mp (h.trans i32_zero))) ?_
  rw [i32_div hx hy]
  exact k E p l e s m args below meth c H locs ls C G S L
theorem AW_irem {x y : Int} (hd : decode M.2.1 pc = .ok (.irem, 1)) (hx : -2147483648 ≤ x ∧ x < 2147483648) (hy : -2147483648 ≤ y ∧ y < 2147483648) (h0 : y ≠ 0) (k : AW T M (pc + 1) lv (vI (x.tmod y) :: st) σ Q) : AW T M pc lv (vI y :: vI x :: st) σ Q := by
  intro E p l e s m args below meth c H locs ls C G S L
  refine lv_irem C.1 C.2.1 hd (fun h => h0 ((i32_eq hy ⟨by omega, by omega⟩).mp (h.trans i32_zero))) ?_
  rw [i32_div hx hy, ← Int32.ofInt_mul, ← Int32.ofInt_sub, show x - x.tdiv y * y = x.tmod y from by rw [Int.mul_comm]; exact (Int.tmod_def x y).symm]
  exact k E p l e s m args below meth c H locs ls C G S L
/-- the int rows on bits: what they answer, as a whole number -/
theorem AW_iand {x y z : Int} (hd : decode M.2.1 pc = .ok (.iand, 1)) (hz : Int32.ofInt x &&& Int32.ofInt y = Int32.ofInt z) (k : AW T M (pc + 1) lv (vI z :: st) σ Q) : AW T M pc lv (vI y :: vI x :: st) σ Q := by
  intro E p l e s m args below meth c H locs ls C G S L
  refine lv_iand C.1 C.2.1 hd ?_
  rw [hz]
  exact k E p l e s m args below meth c H locs ls C G S L
theorem AW_ior {x y z : Int} (hd : decode M.2.1 pc = .ok (.ior, 1)) (hz : Int32.ofInt x ||| Int32.ofInt y = Int32.ofInt z) (k : AW T M (pc + 1) lv (vI z :: st) σ Q) : AW T M pc lv (vI y :: vI x :: st) σ Q := by
  intro E p l e s m args below meth c H locs ls C G S L
  refine lv_ior C.1 C.2.1 hd ?_
  rw [hz]
  exact k E p l e s m args below meth c H locs ls C G S L
theorem AW_ixor {x y z : Int} (hd : decode M.2.1 pc = .ok (.ixor, 1)) (hz : Int32.ofInt x ^^^ Int32.ofInt y = Int32.ofInt z) (k : AW T M (pc + 1) lv (vI z :: st) σ Q) : AW T M pc lv (vI y :: vI x :: st) σ Q := by
  intro E p l e s m args below meth c H locs ls C G S L
  refine lv_ixor C.1 C.2.1 hd ?_
  rw [hz]
  exact k E p l e s m args below meth c H locs ls C G S L
theorem AW_ishl {x y z : Int} (hd : decode M.2.1 pc = .ok (.ishl, 1)) (hz : Int32.ofInt x <<< (Int32.ofInt y &&& 31) = Int32.ofInt z) (k : AW T M (pc + 1) lv (vI z :: st) σ Q) : AW T M pc lv (vI y :: vI x :: st) σ Q := by
  intro E p l e s m args below meth c H locs ls C G S L
  refine lv_ishl C.1 C.2.1 hd ?_
  rw [hz]
  exact k E p l e s m args below meth c H locs ls C G S L
theorem AW_ishr {x y z : Int} (hd : decode M.2.1 pc = .ok (.ishr, 1)) (hz : Int32.ofInt x >>> (Int32.ofInt y &&& 31) = Int32.ofInt z) (k : AW T M (pc + 1) lv (vI z :: st) σ Q) : AW T M pc lv (vI y :: vI x :: st) σ Q := by
  intro E p l e s m args below meth c H locs ls C G S L
  refine lv_ishr C.1 C.2.1 hd ?_
  rw [hz]
  exact k E p l e s m args below meth c H locs ls C G S L
theorem AW_goto {off : Int} {tgt : Nat} (hd : decode M.2.1 pc = .ok (.goto off, 3)) (ht : (pc : Int) + off = (tgt : Int)) (k : AW T M tgt lv st σ Q) : AW T M pc lv st σ Q := by
  intro E p l e s m args below meth c H locs ls C G S L
  exact lv_goto C.1 C.2.1 hd ht (k E p l e s m args below meth c H locs ls C G S L)
theorem am_cat1 {E : am_E} {v : am_V} (h : ∀ x, v ≠ vL x) : (am_tr E v).category = 1 := by
  rcases v with z | x | k
  · rfl
  · exact absurd rfl (h x)
  · rfl
theorem AW_dupI {x : Int} (hd : decode M.2.1 pc = .ok (.dup, 1)) (k : AW T M (pc + 1) lv (vI x :: vI x :: st) σ Q) : AW T M pc lv (vI x :: st) σ Q := by
  intro E p l e s m args below meth c H locs ls C G S L
  exact lv_dup C.1 C.2.1 hd rfl (k E p l e s m args below meth c H locs ls C G S L)
theorem AW_dupR {x : Nat} (hd : decode M.2.1 pc = .ok (.dup, 1)) (k : AW T M (pc + 1) lv (vR x :: vR x :: st) σ Q) : AW T M pc lv (vR x :: st) σ Q := by
  intro E p l e s m args below meth c H locs ls C G S L
  exact lv_dup C.1 C.2.1 hd rfl (k E p l e s m args below meth c H locs ls C G S L)
theorem AW_dup2 {x : Int} {a : Nat} (hd : decode M.2.1 pc = .ok (.dup2, 1)) (k : AW T M (pc + 1) lv (vI x :: vR a :: vI x :: vR a :: st) σ Q) : AW T M pc lv (vI x :: vR a :: st) σ Q := by
  intro E p l e s m args below meth c H locs ls C G S L
  exact lv_dup2_11 C.1 C.2.1 hd rfl rfl (k E p l e s m args below meth c H locs ls C G S L)
theorem AW_popR {x : Nat} (hd : decode M.2.1 pc = .ok (.pop, 1)) (k : AW T M (pc + 1) lv st σ Q) : AW T M pc lv (vR x :: st) σ Q := by
  intro E p l e s m args below meth c H locs ls C G S L
  exact lv_pop C.1 C.2.1 hd rfl (k E p l e s m args below meth c H locs ls C G S L)
theorem AW_popI {x : Int} (hd : decode M.2.1 pc = .ok (.pop, 1)) (k : AW T M (pc + 1) lv st σ Q) : AW T M pc lv (vI x :: st) σ Q := by
  intro E p l e s m args below meth c H locs ls C G S L
  exact lv_pop C.1 C.2.1 hd rfl (k E p l e s m args below meth c H locs ls C G S L)
end AMR
theorem i32_z : -2147483648 ≤ (0 : Int) ∧ (0 : Int) < 2147483648 := ⟨by decide, by decide⟩
section AMC
variable {T : List am_C} {M : am_M} {pc : Nat} {lv : List (Option am_V)} {st : List am_V} {σ : am_S} {Q : Option am_V → am_S → Prop}
theorem AW_icmp_eq {x y off : Int} (tgt : Nat) (hd : decode M.2.1 pc = .ok (.if_icmp .eq off, 3)) (ht : (pc : Int) + off = (tgt : Int)) (hx : -2147483648 ≤ x ∧ x < 2147483648) (hy : -2147483648 ≤ y ∧ y < 2147483648) (kt : x = y → AW T M tgt lv st σ Q) (kf : ¬ (x = y) → AW T M (pc + 3) lv st σ Q) : AW T M pc lv (vI y :: vI x :: st) σ Q := by
  intro E p l e s m args below meth c H locs ls C G S L
  exact lv_icmp_eq C.1 C.2.1 hd ht (fun h => kt ((i32_eq hx hy).mp h) E p l e s m args below meth c H locs ls C G S L) (fun h => kf (fun h0 => h ((i32_eq hx hy).mpr h0)) E p l e s m args below meth c H locs ls C G S L)
theorem AW_if_eq {x off : Int} (tgt : Nat) (hd : decode M.2.1 pc = .ok (.ifCond .eq off, 3)) (ht : (pc : Int) + off = (tgt : Int)) (hx : -2147483648 ≤ x ∧ x < 2147483648) (kt : x = 0 → AW T M tgt lv st σ Q) (kf : ¬ (x = 0) → AW T M (pc + 3) lv st σ Q) : AW T M pc lv (vI x :: st) σ Q := by
  intro E p l e s m args below meth c H locs ls C G S L
  exact lv_if_eq C.1 C.2.1 hd ht (fun h => kt ((i32_eq hx i32_z).mp h) E p l e s m args below meth c H locs ls C G S L) (fun h => kf (fun h0 => h ((i32_eq hx i32_z).mpr h0)) E p l e s m args below meth c H locs ls C G S L)
theorem AW_icmp_ne {x y off : Int} (tgt : Nat) (hd : decode M.2.1 pc = .ok (.if_icmp .ne off, 3)) (ht : (pc : Int) + off = (tgt : Int)) (hx : -2147483648 ≤ x ∧ x < 2147483648) (hy : -2147483648 ≤ y ∧ y < 2147483648) (kt : x ≠ y → AW T M tgt lv st σ Q) (kf : ¬ (x ≠ y) → AW T M (pc + 3) lv st σ Q) : AW T M pc lv (vI y :: vI x :: st) σ Q := by
  intro E p l e s m args below meth c H locs ls C G S L
  exact lv_icmp_ne C.1 C.2.1 hd ht (fun h => kt (fun h0 => h ((i32_eq hx hy).mpr h0)) E p l e s m args below meth c H locs ls C G S L) (fun h => kf (fun h0 => h0 ((i32_eq hx hy).mp h)) E p l e s m args below meth c H locs ls C G S L)
theorem AW_if_ne {x off : Int} (tgt : Nat) (hd : decode M.2.1 pc = .ok (.ifCond .ne off, 3)) (ht : (pc : Int) + off = (tgt : Int)) (hx : -2147483648 ≤ x ∧ x < 2147483648) (kt : x ≠ 0 → AW T M tgt lv st σ Q) (kf : ¬ (x ≠ 0) → AW T M (pc + 3) lv st σ Q) : AW T M pc lv (vI x :: st) σ Q := by
  intro E p l e s m args below meth c H locs ls C G S L
  exact lv_if_ne C.1 C.2.1 hd ht (fun h => kt (fun h0 => h ((i32_eq hx i32_z).mpr h0)) E p l e s m args below meth c H locs ls C G S L) (fun h => kf (fun h0 => h0 ((i32_eq hx i32_z).mp h)) E p l e s m args below meth c H locs ls C G S L)
theorem AW_icmp_lt {x y off : Int} (tgt : Nat) (hd : decode M.2.1 pc = .ok (.if_icmp .lt off, 3)) (ht : (pc : Int) + off = (tgt : Int)) (hx : -2147483648 ≤ x ∧ x < 2147483648) (hy : -2147483648 ≤ y ∧ y < 2147483648) (kt : x < y → AW T M tgt lv st σ Q) (kf : ¬ (x < y) → AW T M (pc + 3) lv st σ Q) : AW T M pc lv (vI y :: vI x :: st) σ Q := by
  intro E p l e s m args below meth c H locs ls C G S L
  exact lv_icmp_lt C.1 C.2.1 hd ht (fun h => kt ((i32_lt hx hy).mp h) E p l e s m args below meth c H locs ls C G S L) (fun h => kf (fun h0 => h ((i32_lt hx hy).mpr h0)) E p l e s m args below meth c H locs ls C G S L)
theorem AW_if_lt {x off : Int} (tgt : Nat) (hd : decode M.2.1 pc = .ok (.ifCond .lt off, 3)) (ht : (pc : Int) + off = (tgt : Int)) (hx : -2147483648 ≤ x ∧ x < 2147483648) (kt : x < 0 → AW T M tgt lv st σ Q) (kf : ¬ (x < 0) → AW T M (pc + 3) lv st σ Q) : AW T M pc lv (vI x :: st) σ Q := by
  intro E p l e s m args below meth c H locs ls C G S L
  exact lv_if_lt C.1 C.2.1 hd ht (fun h => kt ((i32_lt hx i32_z).mp h) E p l e s m args below meth c H locs ls C G S L) (fun h => kf (fun h0 => h ((i32_lt hx i32_z).mpr h0)) E p l e s m args below meth c H locs ls C G S L)
theorem AW_icmp_ge {x y off : Int} (tgt : Nat) (hd : decode M.2.1 pc = .ok (.if_icmp .ge off, 3)) (ht : (pc : Int) + off = (tgt : Int)) (hx : -2147483648 ≤ x ∧ x < 2147483648) (hy : -2147483648 ≤ y ∧ y < 2147483648) (kt : y ≤ x → AW T M tgt lv st σ Q) (kf : ¬ (y ≤ x) → AW T M (pc + 3) lv st σ Q) : AW T M pc lv (vI y :: vI x :: st) σ Q := by
  intro E p l e s m args below meth c H locs ls C G S L
  exact lv_icmp_ge C.1 C.2.1 hd ht (fun h => kt ((i32_le hy hx).mp h) E p l e s m args below meth c H locs ls C G S L) (fun h => kf (fun h0 => h ((i32_le hy hx).mpr h0)) E p l e s m args below meth c H locs ls C G S L)
theorem AW_if_ge {x off : Int} (tgt : Nat) (hd : decode M.2.1 pc = .ok (.ifCond .ge off, 3)) (ht : (pc : Int) + off = (tgt : Int)) (hx : -2147483648 ≤ x ∧ x < 2147483648) (kt : 0 ≤ x → AW T M tgt lv st σ Q) (kf : ¬ (0 ≤ x) → AW T M (pc + 3) lv st σ Q) : AW T M pc lv (vI x :: st) σ Q := by
  intro E p l e s m args below meth c H locs ls C G S L
  exact lv_if_ge C.1 C.2.1 hd ht (fun h => kt ((i32_le i32_z hx).mp h) E p l e s m args below meth c H locs ls C G S L) (fun h => kf (fun h0 => h ((i32_le i32_z hx).mpr h0)) E p l e s m args below meth c H locs ls C G S L)
theorem AW_icmp_gt {x y off : Int} (tgt : Nat) (hd : decode M.2.1 pc = .ok (.if_icmp .gt off, 3)) (ht : (pc : Int) + off = (tgt : Int)) (hx : -2147483648 ≤ x ∧ x < 2147483648) (hy : -2147483648 ≤ y ∧ y < 2147483648) (kt : y < x → AW T M tgt lv st σ Q) (kf : ¬ (y < x) → AW T M (pc + 3) lv st σ Q) : AW T M pc lv (vI y :: vI x :: st) σ Q := by
  intro E p l e s m args below meth c H locs ls C G S L
  exact lv_icmp_gt C.1 C.2.1 hd ht (fun h => kt ((i32_lt hy hx).mp h) E p l e s m args below meth c H locs ls C G S L) (fun h => kf (fun h0 => h ((i32_lt hy hx).mpr h0)) E p l e s m args below meth c H locs ls C G S L)
theorem AW_if_gt {x off : Int} (tgt : Nat) (hd : decode M.2.1 pc = .ok (.ifCond .gt off, 3)) (ht : (pc : Int) + off = (tgt : Int)) (hx : -2147483648 ≤ x ∧ x < 2147483648) (kt : 0 < x → AW T M tgt lv st σ Q) (kf : ¬ (0 < x) → AW T M (pc + 3) lv st σ Q) : AW T M pc lv (vI x :: st) σ Q := by
  intro E p l e s m args below meth c H locs ls C G S L
  exact lv_if_gt C.1 C.2.1 hd ht (fun h => kt ((i32_lt i32_z hx).mp h) E p l e s m args below meth c H locs ls C G S L) (fun h => kf (fun h0 => h ((i32_lt i32_z hx).mpr h0)) E p l e s m args below meth c H locs ls C G S L)
theorem AW_icmp_le {x y off : Int} (tgt : Nat) (hd : decode M.2.1 pc = .ok (.if_icmp .le off, 3)) (ht : (pc : Int) + off = (tgt : Int)) (hx : -2147483648 ≤ x ∧ x < 2147483648) (hy : -2147483648 ≤ y ∧ y < 2147483648) (kt : x ≤ y → AW T M tgt lv st σ Q) (kf : ¬ (x ≤ y) → AW T M (pc + 3) lv st σ Q) : AW T M pc lv (vI y :: vI x :: st) σ Q := by
  intro E p l e s m args below meth c H locs ls C G S L
  exact lv_icmp_le C.1 C.2.1 hd ht (fun h => kt ((i32_le hx hy).mp h) E p l e s m args below meth c H locs ls C G S L) (fun h => kf (fun h0 => h ((i32_le hx hy).mpr h0)) E p l e s m args below meth c H locs ls C G S L)
theorem AW_if_le {x off : Int} (tgt : Nat) (hd : decode M.2.1 pc = .ok (.ifCond .le off, 3)) (ht : (pc : Int) + off = (tgt : Int)) (hx : -2147483648 ≤ x ∧ x < 2147483648) (kt : x ≤ 0 → AW T M tgt lv st σ Q) (kf : ¬ (x ≤ 0) → AW T M (pc + 3) lv st σ Q) : AW T M pc lv (vI x :: st) σ Q := by
  intro E p l e s m args below meth c H locs ls C G S L
  exact lv_if_le C.1 C.2.1 hd ht (fun h => kt ((i32_le hx i32_z).mp h) E p l e s m args below meth c H locs ls C G S L) (fun h => kf (fun h0 => h ((i32_le hx i32_z).mpr h0)) E p l e s m args below meth c H locs ls C G S L)
end AMC
-- ===== fields, arrays =====
def am_fl (own : String) (idx ci j : Nat) : Prop := ∃ (C : String) (T : u_T) (N : Nat), am_cl[ci]? = some (C, T, N) ∧ j < N ∧ (∀ w ∈ u_ws C T N, w ∈ am_tb) ∧ Cond.fieldLink own idx C (T j).2.1 (T j).2.2.1 ∈ am_tb ∧ (T j).1 = C
def am_fn (own : String) (idx ci j : Nat) : Prop := ∃ (C : String) (T : u_T) (N : Nat) (host : String), am_cl[ci]? = some (C, T, N) ∧ j < N ∧ (∀ w ∈ u_ws C T N, w ∈ am_tb) ∧ (∀ U, am_N U → va_Nw (.fieldLinkNest own idx C (T j).2.1 (T j).2.2.1 host) U) ∧ (T j).1 = C
def am_fp (own : String) (idx ci j : Nat) (ty : FieldType) : Prop := ∃ (C : String) (T : u_T) (N : Nat) (ty0 : Nat → FieldType), am_cl[ci]? = some (C, T, N) ∧ j < N ∧ (∀ w ∈ u_ws C T N, w ∈ am_tb) ∧ Cond.fieldLink own idx C (T j).2.1 (T j).2.2.1 ∈ am_tb ∧ (T j).1 = C ∧ (∀ k, k < N → parseFieldDescriptor (T k).2.2.1 = some (ty0 k)) ∧ (∀ a, a < N → ∀ b, b < N → a ≠ b → (T a).2.1 ≠ (T b).2.1) ∧ (T j).2.2.2 = false ∧ parseFieldDescriptor (T j).2.2.1 = some ty
/-- what a field holds -/
def am_fval (σ : am_S) (a j : Nat) (fs : List (Option Nat)) : Option am_V := match fs[j]? with
  | some (some r) => some (vR r)
  | some none => some (vI (σ.1 a j))
  | none => none
section AMF
variable {T : List am_C} {M : am_M} {pc : Nat} {lv : List (Option am_V)} {st : List am_V} {σ : am_S} {Q : Option am_V → am_S → Prop}
theorem am_fval_at {E : am_E} {a j : Nat} {fs : List (Option Nat)} {v : am_V} (hv : am_fval σ a j fs = some v) : (fs.mapIdx (fun j f => am_fv E σ a j f))[j]? = some (am_tr E v) := by
  rw [List.getElem?_mapIdx]
  unfold am_fval at hv
  cases h : fs[j]? with
  | none => rw [h] at hv; cases hv
  | some o =>
    rw [h] at hv
    cases o with
    | none => cases hv; rfl
    | some r => cases hv; rfl
theorem AW_get {a ci j idx : Nat} {fs : List (Option Nat)} {v : am_V} (hd : decode M.2.1 pc = .ok (.getfield idx, 3)) (hf : am_fl M.1.cls idx ci j) (ht : T[a]? = some (.inl (ci, fs))) (hv : am_fval σ a j fs = some v) (k : AW T M (pc + 3) lv (v :: st) σ Q) : AW T M pc lv (vR a :: st) σ Q := by
  intro E p l e s m args below meth c H locs ls C G S L
  obtain ⟨Cn, TT, N, h1, h2, h3, h4, h5⟩ := hf
  refine va_get (D := E.2.1) C.1 C.2.1 (Ts := am_wd M) C.2.2.2.2.2.1 (fun w hw => List.mem_cons_of_mem _ (h3 w hw)) C.2.2.2.2.1 G.2.1 G.1 a (am_ws_get ht) h1 j h2 (C.2.2.2.2.2.1 _ (List.mem_cons_of_mem _ h4)) (fun x hx => by rw [h5] at hx; exact hx) (am_fval_at hv) hd ?_
  exact k E p l e s m args below meth c H locs ls C G S L
theorem AW_getN {a ci j idx : Nat} {fs : List (Option Nat)} {v : am_V} (hd : decode M.2.1 pc = .ok (.getfield idx, 3)) (hf : am_fn M.1.cls idx ci j) (ht : T[a]? = some (.inl (ci, fs))) (hv : am_fval σ a j fs = some v) (k : AW T M (pc + 3) lv (v :: st) σ Q) : AW T M pc lv (vR a :: st) σ Q := by
  intro E p l e s m args below meth c H locs ls C G S L
  obtain ⟨Cn, TT, N, host, h1, h2, h3, h4, h5⟩ := hf
  refine va_getN (D := E.2.1) C.1 C.2.1 (Ts := am_wd M) C.2.2.2.2.2.1 (fun w hw => List.mem_cons_of_mem _ (h3 w hw)) C.2.2.2.2.1 G.2.1 G.1 a (am_ws_get ht) h1 j h2 (va_Nw.use rfl (h4 s G.2.2.2)) (fun x hx => by rw [h5] at hx; exact hx) (am_fval_at hv) hd ?_
  exact k E p l e s m args below meth c H locs ls C G S L
theorem am_up_off {σ : am_S} {k j : Nat} {x : Int} : ∀ a, a ≠ k → (am_up σ k j x).1 a = σ.1 a ∧ (am_up σ k j x).2 a = σ.2 a := by
  intro a ha
  refine ⟨?_, rfl⟩
  funext b
  simp [am_up, ha]
theorem am_upL_off {σ : am_S} {k j : Nat} {x : Int64} : ∀ a, a ≠ k → (am_upL σ k j x).1 a = σ.1 a ∧ (am_upL σ k j x).2 a = σ.2 a := by
  intro a ha
  refine ⟨rfl, ?_⟩
  funext b
  simp [am_upL, ha]
theorem AW_put {a ci j idx : Nat} {fs : List (Option Nat)} {x : Int} {ty : FieldType} (hd : decode M.2.1 pc = .ok (.putfield idx, 3)) (hf : am_fp M.1.cls idx ci j ty) (ht : T[a]? = some (.inl (ci, fs))) (hv : fs[j]? = some none) (hn : narrow ty (.int (Int32.ofInt x)) = .int (Int32.ofInt x)) (hfit : fits ty (.int (Int32.ofInt x)) = true) (k : AW T M (pc + 3) lv st (am_up σ a j x) Q) : AW T M pc lv (vI x :: vR a :: st) σ Q := by
  intro E p l e s m args below meth c H locs ls C G S L
  obtain ⟨Cn, TT, N, ty0, h1, h2, h3, h4, h5, h6, h7, h8, h9⟩ := hf
  refine va_put (D := E.2.1) C.1 C.2.1 (Ts := am_wd M) C.2.2.2.2.2.1 (fun w hw => List.mem_cons_of_mem _ (h3 w hw)) ty0 h6 h7 C.2.2.2.2.1 G.2.1 G.1 G.2.2.1 S a (am_ws_get ht) h1 j h2 (C.2.2.2.2.2.1 _ (List.mem_cons_of_mem _ h4)) (fun x hx => by rw [h5] at hx; exact hx) h8 h9 hn hfit (by
    rw [List.length_mapIdx]; exact (List.getElem?_eq_some_iff.mp hv).1) hd (fun H1 locs1 hP hD hS => ?_)
  have he : (fs.mapIdx (fun j f => am_fv E σ a j f)).set j (.int (Int32.ofInt x)) = fs.mapIdx (fun j' f => am_fv E (am_up σ a j x) a j' f) := by
    apply List.ext_getElem?
    intro i
    by_cases hi : i = j
    · subst hi
      rw [List.getElem?_set_self (by rw [List.length_mapIdx]; exact (List.getElem?_eq_some_iff.mp hv).1), List.getElem?_mapIdx, hv]
      simp [am_fv, am_up]
    · rw [List.getElem?_set_ne (fun h => hi h.symm), List.getElem?_mapIdx, List.getElem?_mapIdx]
      cases hfi : fs[i]? with
      | none => rfl
      | some o => cases o <;> simp [am_fv, am_up, hi]
  have hw : (am_ws T E σ).set a (E.1 a, .inr (ci, (fs.mapIdx (fun j f => am_fv E σ a j f)).set j (.int (Int32.ofInt x)))) = am_ws T E (am_up σ a j x) := by
    rw [he]
    exact am_ws_set ht am_up_off
  exact k E p l e s m args below meth c H1 locs1 ls C ⟨by rw [← hw]; exact hP, G.2.1, by rw [← hw]; exact hD, G.2.2.2⟩ hS L
theorem AW_iald {a n : Nat} {i : Int} (hd : decode M.2.1 pc = .ok (.iaload, 1)) (ht : T[a]? = some (.inr (.inl (0, n)))) (hn : n < 2147483648) (hi : 0 ≤ i ∧ i < n) (k : AW T M (pc + 1) lv (vI (σ.1 a i.toNat) :: st) σ Q) : AW T M pc lv (vI i :: vR a :: st) σ Q := by
  intro E p l e s m args below meth c H locs ls C G S L
  refine va_iald (D := E.2.1) C.1 C.2.1 G.2.1 G.1 a 0 (am_ws_get ht) rfl (i32_in hn hi) hd ?_
  rw [i32_clamp ⟨hi.1, by omega⟩]
  exact k E p l e s m args below meth c H locs ls C G S L
theorem AW_zald {a n : Nat} {i : Int} (hd : decode M.2.1 pc = .ok (.baload, 1)) (ht : T[a]? = some (.inr (.inl (1, n)))) (hn : n < 2147483648) (hi : 0 ≤ i ∧ i < n) (k : AW T M (pc + 1) lv (vI (σ.1 a i.toNat) :: st) σ Q) : AW T M pc lv (vI i :: vR a :: st) σ Q := by
  intro E p l e s m args below meth c H locs ls C G S L
  refine va_zald (D := E.2.1) C.1 C.2.1 G.2.1 G.1 a 1 (am_ws_get ht) rfl (i32_in hn hi) hd ?_
  rw [i32_clamp ⟨hi.1, by omega⟩]
  exact k E p l e s m args below meth c H locs ls C G S L
theorem AW_lald {a n : Nat} {i : Int} (hd : decode M.2.1 pc = .ok (.laload, 1)) (ht : T[a]? = some (.inr (.inl (2, n)))) (hn : n < 2147483648) (hi : 0 ≤ i ∧ i < n) (k : AW T M (pc + 1) lv (vL (σ.2 a i.toNat) :: st) σ Q) : AW T M pc lv (vI i :: vR a :: st) σ Q := by
  intro E p l e s m args below meth c H locs ls C G S L
  refine va_lald (D := E.2.1) C.1 C.2.1 G.2.1 G.1 a 2 (am_ws_get ht) rfl (i32_in hn hi) hd ?_
  rw [i32_clamp ⟨hi.1, by omega⟩]
  exact k E p l e s m args below meth c H locs ls C G S L
theorem AW_aald {a r : Nat} {i : Int} {rs : List Nat} (hd : decode M.2.1 pc = .ok (.aaload, 1)) (ht : T[a]? = some (.inr (.inr rs))) (hn : rs.length < 2147483648) (hi : 0 ≤ i ∧ i < rs.length) (hr : rs[i.toNat]? = some r) (k : AW T M (pc + 1) lv (vR r :: st) σ Q) : AW T M pc lv (vI i :: vR a :: st) σ Q := by
  intro E p l e s m args below meth c H locs ls C G S L
  refine va_aldq (D := E.2.1) C.1 C.2.1 G.2.1 G.1 a 3 (am_ws_get ht) rfl (i32_in hn hi) hd ?_
  rw [i32_clamp ⟨hi.1, by omega⟩]
  have h := k E p l e s m args below meth c H locs ls C G S L
  rw [hr]
  exact h
theorem AW_alen {a n : Nat} (hd : decode M.2.1 pc = .ok (.arraylength, 1)) (ht : T[a]? = some (.inr (.inl (0, n)))) (k : AW T M (pc + 1) lv (vI (n : Int) :: st) σ Q) : AW T M pc lv (vR a :: st) σ Q := by
  intro E p l e s m args below meth c H locs ls C G S L
  exact va_alen (D := E.2.1) C.1 C.2.1 G.2.1 G.1 a 0 (am_ws_get ht) (ty := .int) rfl (v := Int32.ofInt (n : Int)) Int32.ofInt_eq_ofNat.symm hd (k E p l e s m args below meth c H locs ls C G S L)
theorem am_upd_eq {a j : Nat} {x : Int} : upd (fun j => Int32.ofInt (σ.1 a j)) j (Int32.ofInt x) = fun b => Int32.ofInt ((am_up σ a j x).1 a b) := by
  funext b
  by_cases h : b = j <;> simp [upd, am_up, h]
theorem AW_iast {a n : Nat} {i x : Int} (hd : decode M.2.1 pc = .ok (.iastore, 1)) (ht : T[a]? = some (.inr (.inl (0, n)))) (hn : n < 2147483648) (hi : 0 ≤ i ∧ i < n) (k : AW T M (pc + 1) lv st (am_up σ a i.toNat x) Q) : AW T M pc lv (vI x :: vI i :: vR a :: st) σ Q := by
  intro E p l e s m args below meth c H locs ls C G S L
  refine va_iast (D := E.2.1) C.1 C.2.1 G.2.1 G.1 G.2.2.1 S a 0 (am_ws_get ht) rfl (i32_in hn hi) hd (fun H1 locs1 hP hD hS => ?_)
  rw [i32_clamp ⟨hi.1, by omega⟩, am_upd_eq] at hP hD
  have hw := am_ws_set (E := E) (σ := σ) (σ' := am_up σ a i.toNat x) ht am_up_off
  have hw' : (am_ws T E σ).set a (E.1 a, .inl (E.2.2 0, n, .inl (fun b => Int32.ofInt ((am_up σ a i.toNat x).1 a b)))) = am_ws T E (am_up σ a i.toNat x) := hw
  rw [hw'] at hP hD
  exact k E p l e s m args below meth c H1 locs1 ls C ⟨hP, G.2.1, hD, G.2.2.2⟩ hS L
theorem vp_nar_z {x : Int} (hx : x = 0 ∨ x = 1) : vp_nar .boolean (Int32.ofInt x) = Int32.ofInt x := by
  rcases hx with rfl | rfl <;> decide
theorem AW_zast {a n : Nat} {i x : Int} (hd : decode M.2.1 pc = .ok (.bastore, 1)) (ht : T[a]? = some (.inr (.inl (1, n)))) (hn : n < 2147483648) (hi : 0 ≤ i ∧ i < n) (hx : x = 0 ∨ x = 1) (k : AW T M (pc + 1) lv st (am_up σ a i.toNat x) Q) : AW T M pc lv (vI x :: vI i :: vR a :: st) σ Q := by
  intro E p l e s m args below meth c H locs ls C G S L
  refine va_zast (D := E.2.1) C.1 C.2.1 G.2.1 G.1 G.2.2.1 S a 1 (am_ws_get ht) rfl (i32_in hn hi) hd (fun H1 locs1 hP hD hS => ?_)
  rw [vp_nar_z hx, i32_clamp ⟨hi.1, by omega⟩, am_upd_eq] at hP hD
  have hw := am_ws_set (E := E) (σ := σ) (σ' := am_up σ a i.toNat x) ht am_up_off
  have hw' : (am_ws T E σ).set a (E.1 a, .inl (E.2.2 1, n, .inl (fun b => Int32.ofInt ((am_up σ a i.toNat x).1 a b)))) = am_ws T E (am_up σ a i.toNat x) := hw
  rw [hw'] at hP hD
  exact k E p l e s m args below meth c H1 locs1 ls C ⟨hP, G.2.1, hD, G.2.2.2⟩ hS L
theorem am_updL_eq {a j : Nat} {x : Int64} : vp_updL (σ.2 a) j x = (am_upL σ a j x).2 a := by
  funext b
  by_cases h : b = j <;> simp [vp_updL, am_upL, h]
theorem AW_last {a n : Nat} {i : Int} {x : Int64} (hd : decode M.2.1 pc = .ok (.lastore, 1)) (ht : T[a]? = some (.inr (.inl (2, n)))) (hn : n < 2147483648) (hi : 0 ≤ i ∧ i < n) (k : AW T M (pc + 1) lv st (am_upL σ a i.toNat x) Q) : AW T M pc lv (vL x :: vI i :: vR a :: st) σ Q := by
  intro E p l e s m args below meth c H locs ls C G S L
  refine va_last (D := E.2.1) C.1 C.2.1 G.2.1 G.1 G.2.2.1 S a 2 (am_ws_get ht) rfl (i32_in hn hi) hd (fun H1 locs1 hP hD hS => ?_)
  rw [i32_clamp ⟨hi.1, by omega⟩, am_updL_eq] at hP hD
  have hw := am_ws_set (E := E) (σ := σ) (σ' := am_upL σ a i.toNat x) ht am_upL_off
  have hw' : (am_ws T E σ).set a (E.1 a, .inl (E.2.2 2, n, .inr (.inl ((am_upL σ a i.toNat x).2 a)))) = am_ws T E (am_upL σ a i.toNat x) := hw
  rw [hw'] at hP hD
  exact k E p l e s m args below meth c H1 locs1 ls C ⟨hP, G.2.1, hD, G.2.2.2⟩ hS L
-- ===== longs =====
theorem AW_lushr {x v : Int64} {y : Int} (hd : decode M.2.1 pc = .ok (.lushr, 1)) (hv : (x.toUInt64 >>> ((Int32.ofInt y).toInt64.toUInt64 &&& Int64.toUInt64 63)).toInt64 = v) (k : AW T M (pc + 1) lv (vL v :: st) σ Q) : AW T M pc lv (vI y :: vL x :: st) σ Q := by
  intro E p l e s m args below meth c H locs ls C G S L
  exact lv_lushr C.1 C.2.1 hd hv (k E p l e s m args below meth c H locs ls C G S L)
theorem AW_lshl {x v : Int64} {y : Int} (hd : decode M.2.1 pc = .ok (.lshl, 1)) (hv : x <<< ((Int32.ofInt y).toInt64 &&& 63) = v) (k : AW T M (pc + 1) lv (vL v :: st) σ Q) : AW T M pc lv (vI y :: vL x :: st) σ Q := by
  intro E p l e s m args below meth c H locs ls C G S L
  exact lv_lshl C.1 C.2.1 hd hv (k E p l e s m args below meth c H locs ls C G S L)
theorem AW_land {x y : Int64} (hd : decode M.2.1 pc = .ok (.land, 1)) (k : AW T M (pc + 1) lv (vL (x &&& y) :: st) σ Q) : AW T M pc lv (vL y :: vL x :: st) σ Q := by
  intro E p l e s m args below meth c H locs ls C G S L
  exact lv_land C.1 C.2.1 hd (k E p l e s m args below meth c H locs ls C G S L)
theorem AW_lor {x y : Int64} (hd : decode M.2.1 pc = .ok (.lor, 1)) (k : AW T M (pc + 1) lv (vL (x ||| y) :: st) σ Q) : AW T M pc lv (vL y :: vL x :: st) σ Q := by
  intro E p l e s m args below meth c H locs ls C G S L
  exact lv_lor C.1 C.2.1 hd (k E p l e s m args below meth c H locs ls C G S L)
theorem AW_lcmp {x y : Int64} {z : Int} (hd : decode M.2.1 pc = .ok (.lcmp, 1)) (hz : lg_cmp x y = Int32.ofInt z) (k : AW T M (pc + 1) lv (vI z :: st) σ Q) : AW T M pc lv (vL y :: vL x :: st) σ Q := by
  intro E p l e s m args below meth c H locs ls C G S L
  refine W.lcmp C.1 C.2.1 hd ?_
  rw [hz]
  exact k E p l e s m args below meth c H locs ls C G S L
theorem AW_dup2L {x : Int} {a : Nat} (hd : decode M.2.1 pc = .ok (.dup2, 1)) (k : AW T M (pc + 1) lv (vI x :: vR a :: vI x :: vR a :: st) σ Q) : AW T M pc lv (vI x :: vR a :: st) σ Q := AW_dup2 hd k
-- ===== switches =====
theorem AW_tableIn {dflt lo hi : Int} {offs : Array Int} {len : Nat} {x off : Int} (tgt : Nat) (hd : decode M.2.1 pc = .ok (.tableswitch dflt lo hi offs, len)) (hx : -2147483648 ≤ x ∧ x < 2147483648) (h1 : lo ≤ x ∧ x ≤ hi) (ho : offs[(x - lo).toNat]? = some off) (ht : (pc : Int) + off = (tgt : Int)) (k : AW T M tgt lv st σ Q) : AW T M pc lv (vI x :: st) σ Q := by
  intro E p l e s m args below meth c H locs ls C G S L
  refine lv_tableIn C.1 C.2.1 hd (by rw [i32_toInt hx]; omega) (by rw [i32_toInt hx]; omega) (by rw [i32_toInt hx]; exact ho) ht ?_
  exact k E p l e s m args below meth c H locs ls C G S L
theorem AW_tableOut {dflt lo hi : Int} {offs : Array Int} {len : Nat} {x : Int} (tgt : Nat) (hd : decode M.2.1 pc = .ok (.tableswitch dflt lo hi offs, len)) (hx : -2147483648 ≤ x ∧ x < 2147483648) (h1 : x < lo ∨ hi < x) (ht : (pc : Int) + dflt = (tgt : Int)) (k : AW T M tgt lv st σ Q) : AW T M pc lv (vI x :: st) σ Q := by
  intro E p l e s m args below meth c H locs ls C G S L
  refine lv_tableOut C.1 C.2.1 hd (by rw [i32_toInt hx]; exact h1) ht ?_
  exact k E p l e s m args below meth c H locs ls C G S L
-- ===== ends =====
theorem am_end {E : am_E} {s t : State} {H : Heap} {locs : List Loc} {r : Option am_V} {args : Array Value} (hq : Q r σ) (G : am_G T E σ s H) (S : va_S (am_A T E) s.heap H locs) (ht : t.heap = H) (hW : s.WarmedH t.vm) : am_Qc T E Q args s (.returned (r.map (am_tr E))) t :=
  ⟨⟨r, σ, rfl, hq, by rw [ht]; exact am_G.moved hW G⟩, S.F ht⟩
theorem AW_iret {z : Int} (hd : decode M.2.1 pc = .ok (.ireturn, 1)) (hr : M.2.2.2.1 = some .int) (hq : Q (some (vI z)) σ) : AW T M pc lv [vI z] σ Q := by
  intro E p l e s m args below meth c H locs ls C G S L
  exact W.iret C.1 C.2.1 (C.2.2.1.trans hr) (fun t ht hW => am_end hq G S ht hW) S.2.2 hd C.2.2.2.2.2.2
theorem AW_zret {z : Int} (hd : decode M.2.1 pc = .ok (.ireturn, 1)) (hr : M.2.2.2.1 = some .boolean) (hz : z = 0 ∨ z = 1) (hq : Q (some (vI z)) σ) : AW T M pc lv [vI z] σ Q := by
  intro E p l e s m args below meth c H locs ls C G S L
  exact W.zret C.1 C.2.1 (C.2.2.1.trans hr) (by rcases hz with rfl | rfl <;> rfl) (fun t ht hW => am_end hq G S ht hW) S.2.2 hd C.2.2.2.2.2.2
theorem AW_vret (hd : decode M.2.1 pc = .ok (.return_, 1)) (hr : M.2.2.2.1 = none) (hq : Q none σ) : AW T M pc lv [] σ Q := by
  intro E p l e s m args below meth c H locs ls C G S L
  exact W.vret C.1 C.2.1 (C.2.2.1.trans hr) (fun t ht hW => am_end hq G S ht hW) S.2.2 hd C.2.2.2.2.2.2
theorem AW_aret {k : Nat} {n : String} (hd : decode M.2.1 pc = .ok (.areturn, 1)) (hr : M.2.2.2.1 = some (.object n)) (hq : Q (some (vR k)) σ) : AW T M pc lv [vR k] σ Q := by
  intro E p l e s m args below meth c H locs ls C G S L
  exact W.aret C.1 C.2.1 (C.2.2.1.trans hr) (Or.inl ⟨n, rfl⟩) (Or.inr ⟨_, rfl⟩) (fun t ht hW => am_end hq G S ht hW) S.2.2 hd C.2.2.2.2.2.2
theorem AW_weaken {Q' : Option am_V → am_S → Prop} (h : ∀ r σ', Q' r σ' → Q r σ') (k : AW T M pc lv st σ Q') : AW T M pc lv st σ Q := by
  intro E p l e s m args below meth c H locs ls C G S L U hU X
  obtain ⟨t, h1, o, h2, h3, ⟨⟨r, σ', h4, h5, h6⟩, h7⟩, h8⟩ := k E p l e s m args below meth c H locs ls C G S L U hU X
  exact ⟨t, h1, o, h2, h3, ⟨⟨r, σ', h4, h _ _ h5, h6⟩, h7⟩, h8⟩
end AMF
-- ===== methods: a contract out of a walk, a call out of a contract =====
theorem lw_good : ∀ w ∈ am_tb, (w.onTables && w.keeps) = true ∨ ∃ ty, w = .arrayClass ty := fun w hw => good_of_word (List.mem_filter.mp hw).2
theorem am_lv_args {E : am_E} : ∀ (av : List am_V) (n i : Nat) (v : am_V), (∀ u ∈ av, (am_tr E u).category = 1) → av[i]? = some v → (n + i, am_tr E v) ∈ lv_args n (av.map (am_tr E)) := by
  intro av
  induction av with
  | nil => intro n i v _ h; cases h
  | cons a av ih =>
    intro n i v hc h
    have h1 : lv_args n ((a :: av).map (am_tr E)) = (n, am_tr E a) :: lv_args (n + 1) (av.map (am_tr E)) := by
      simp only [List.map_cons, lv_args, hc a List.mem_cons_self]
      rfl
    rw [h1]
    cases i with
    | zero => cases h; exact List.mem_cons_self
    | succ i =>
      have := ih (n + 1) i v (fun u hu => hc u (List.mem_cons_of_mem _ hu)) h
      rw [show n + (i + 1) = n + 1 + i by omega]
      exact List.mem_cons_of_mem _ this
theorem am_sl_len {E : am_E} : ∀ (av : List am_V), (∀ u ∈ av, (am_tr E u).category = 1) → (lg_sl (av.map (am_tr E))).length = av.length := by
  intro av
  induction av with
  | nil => intro _; rfl
  | cons a av ih =>
    intro hc
    have h1 := hc a List.mem_cons_self
    have h2 := ih (fun u hu => hc u (List.mem_cons_of_mem _ hu))
    simp [lg_sl, h1, h2] at *
    try omega
/-- the locals at a method's entry -/
def am_lv0 (av : List am_V) (n : Nat) : List (Option am_V) := av.map some ++ List.replicate (n - av.length) none
theorem Runs.of {T : List am_C} {M : am_M} {av : List am_V} {σ : am_S} {Q : Option am_V → am_S → Prop} (hy : plainName M.1.cls = true) (hk : M.2.2.2.2.2 = (0, 0)) (hcat : ∀ u ∈ av, ∀ x, u ≠ vL x) (hlen : av.length ≤ M.2.2.1) (h : AW T M 0 (am_lv0 av M.2.2.1) [] σ Q) : Runs T M av σ Q := by
  intro l E
  refine Met.ofW (cc := M.2.1) (maxL := M.2.2.1) (ret := M.2.2.2.1) hy rfl ?_
  intro p e s m args below meth c s₁ B hml hv
  obtain ⟨rfl, G⟩ := hv
  have hc : ∀ u ∈ av, (am_tr E u).category = 1 := fun u hu => am_cat1 (hcat u hu)
  have hl := lv_entry (av.map (am_tr E)) (n := M.2.2.1) (by rw [am_sl_len av hc]; exact hlen)
  rw [lg_entry_eq]
  have C : am_Cx M p s m (av.map (am_tr E)).toArray meth c := ⟨B.exec, B.bytes, B.returns, hml, findClass_of_methodNamed B.named, atoms_spec (ws := am_wd M) B.pre, B.notSynchronized⟩
  have hk1 : M.2.2.2.2.2.1 = 0 := by rw [hk]
  have hk2 : M.2.2.2.2.2.2 = 0 := by rw [hk]
  have hw := h E p l e s m (av.map (am_tr E)).toArray below meth c s.heap [] _ C G va_S.rf ⟨hl.1, hl.2.1, fun i v hi hcv => ?_⟩
  · rw [hk1, hk2] at hw ⊢
    exact hw
  · have : av[i]? = some v := by
      unfold am_lv0 at hi
      by_cases hlt : i < av.length
      · rw [List.getElem?_append_left (by simpa using hlt), List.getElem?_map] at hi
        cases hav : av[i]? with
        | none => rw [hav] at hi; cases hi
        | some w => rw [hav] at hi; cases hi; rfl
      · rw [List.getElem?_append_right (by simpa using hlt), List.getElem?_replicate] at hi
        split at hi <;> cases hi
    have hm := am_lv_args (E := E) av 0 i v hc this
    have := hl.2.2 _ hm
    simpa using this
theorem am_blind {T : List am_C} {E : am_E} {av : List am_V} {σ : am_S} : FrameBlind (am_Pc T E av σ) := by
  intro a U g mk h
  exact ⟨h.1, h.2.1, va_K.moved (u := U) (U := U.calling g mk a) (Vm.Alike.refl U.vm) h.2.2.1, h.2.2.2.1, va_Nw.same rfl (u := U) rfl h.2.2.2.2.1, va_Nw.same rfl (u := U) rfl h.2.2.2.2.2⟩
/-- a link to a method, among the tables' words -/
def am_lk (own : String) (idx : Nat) (y : am_M) (n : Nat) : Prop := Cond.methodLink own idx y.1 ∈ am_tb ∧ Cond.code y.1 y.2.1 y.2.2.1 y.2.2.2.1 ∈ am_tb ∧ Cond.initialized y.1.cls ∈ am_tb ∧ (y.1.cls ≠ "java/lang/invoke/MethodHandle" ∧ y.1.cls ≠ "java/lang/invoke/VarHandle") ∧ (parseMethodDescriptor y.1.desc).map (fun d => d.parameters.length) = some n
def am_lv' (own : String) (idx : Nat) (y : am_M) (n : Nat) : Prop := am_lk own idx y n ∧ Cond.instanceMethod y.1 ∈ am_tb ∧ Cond.selects y.1.cls y.1 y.1 ∈ am_tb
def am_ls (own : String) (idx : Nat) (y : am_M) (n : Nat) : Prop := am_lk own idx y n ∧ Cond.static y.1 ∈ am_tb
/-- a call's room: the callee's frames and words, no cell -/
def am_fit (M y : am_M) : Prop := y.2.2.2.2.1.cells = 0 ∧ y.2.2.2.2.1.slots = 0 ∧ y.2.2.2.2.2 = (0, 0) ∧ y.2.2.2.2.1.frames + 1 ≤ M.2.2.2.2.1.frames ∧ 8 + (y.2.2.1 + 11) + y.2.2.2.2.1.locals ≤ M.2.2.2.2.1.locals ∧ M.2.2.2.2.2.1 ≤ M.2.2.2.2.1.cells ∧ M.2.2.2.2.2.2 ≤ M.2.2.2.2.1.slots
theorem am_cats {E : am_E} (rest : List am_V) (h : rest.length ≤ 4) : ((rest.map (am_tr E)).map fun v => v.category).sum ≤ 8 := by
  have h2 : ∀ r : List am_V, ((r.map (am_tr E)).map fun v => v.category).sum ≤ 2 * r.length := by
    intro r
    induction r with
    | nil => simp
    | cons a r ih =>
      have : (am_tr E a).category ≤ 2 := by rcases a with z | x | k <;> simp [am_tr, Value.category]
      simp only [List.map_cons, List.sum_cons, List.length_cons]
      omega
  have := h2 rest
  omega
section AMK
variable {T : List am_C} {M : am_M} {pc : Nat} {lv : List (Option am_V)} {st : List am_V} {σ : am_S} {Q : Option am_V → am_S → Prop}
theorem am_words {s : State} {args : Array Value} {y : am_M} (hts : ∀ w ∈ am_wd M, w.before args s = true) (hcode : Cond.code y.1 y.2.1 y.2.2.1 y.2.2.2.1 ∈ am_tb) : ∀ w ∈ am_wd y, ∀ (a' : Array Value) (U : State), s.WarmedH U.vm → w.before a' U = true := by
  intro w hw a' U hW
  have hm : w ∈ am_tb := by
    rcases List.mem_cons.mp hw with rfl | h
    · exact hcode
    · exact h
  exact word_at hW (lw_good w hm) (hts w (List.mem_cons_of_mem _ hm))
theorem AW_ofRun {y : am_M} {Q' : Option am_V → am_S → Prop} {rest : List am_V} {E : am_E} {p : Program} {l : Launch} {e : Env} {s : State} {m : MethodId} {args a : Array Value} {below : List Frame} {meth : Method} {c : Code} {H : Heap} {locs : List Loc} {ls : Array Slot} {cells slots : Nat} {R : Room} {Z : State → Prop} {st0 : List Value}
    (hr : va_Run p l e R s m args below meth c H locs cells slots 0 0 (F0 m pc ls st0) (rest.map (am_tr E)) (am_Qc T E Q' a) (am_A T E)) (G : am_G T E σ s H) (S : va_S (am_A T E) s.heap H locs)
    (kk : ∀ (r : Option am_V) (σ' : am_S) (H1 : Heap) (locs1 : List Loc), Q' r σ' → am_G T E σ' s H1 → va_S (am_A T E) s.heap H1 locs1 → W p l e R s m args below meth c H1 locs1 cells slots Z (F0 m (pc + 3) ls ((r.toList ++ rest).map (am_tr E)))) : W p l e R s m args below meth c H locs cells slots Z (F0 m pc ls st0) := by
  intro U hU X
  obtain ⟨v, st₀, t, T', L, h0, X', hL, e1, e2, ⟨⟨r, σ', hv, hq, hG⟩, hz, hk⟩, go⟩ := hr U hU X
  have hv' : v = r.map (am_tr E) := by injection hv
  have hS : va_S (am_A T E) s.heap T'.heap (locs ++ L) := by
    refine ⟨Nat.le_trans S.1 (by rw [e1, ← h0]; exact hz), fun q h1 h2 => ?_, fun q hq => ?_⟩
    · rw [e1, hk q (by rw [h0]; exact Nat.lt_of_lt_of_le h1 S.1) h2, h0]
      exact S.2.1 q h1 h2
    · rcases List.mem_append.mp hq with h | h
      · exact S.2.2 q h
      · exact hL q h
  have hG' : am_G T E σ' s T'.heap := ⟨by rw [e1]; exact hG.1, G.2.1, hG.2.2.1, G.2.2.2⟩
  obtain ⟨t2, a1, b1⟩ := kk r σ' T'.heap (locs ++ L) hq hG' hS T' rfl X'
  refine ⟨t2, go t2 ?_, b1⟩
  have he : v.toList ++ rest.map (am_tr E) = (r.toList ++ rest).map (am_tr E) := by
    rw [hv', List.map_append]
    cases r <;> rfl
  rw [he]
  exact a1
theorem AW_callV {y : am_M} {idx n b ci : Nat} {fs : List (Option Nat)} {Q' : Option am_V → am_S → Prop} {av rest : List am_V} (hd : decode M.2.1 pc = .ok (.invokevirtual idx, 3)) (hk : am_lv' M.1.cls idx y n) (hfit : am_fit M y) (ht : T[b]? = some (.inl (ci, fs))) (hc : (am_cl[ci]?).map (fun q => q.1) = some y.1.cls) (hn : av.length = n) (h4 : rest.length ≤ 4) (hR : Runs T y (vR b :: av) σ Q') (kk : ∀ r σ', Q' r σ' → AW T M (pc + 3) lv (r.toList ++ rest) σ' Q) : AW T M pc lv (av.reverse ++ vR b :: rest) σ Q := by
  intro E p l e s m args below meth c H locs ls C G S L
  obtain ⟨⟨k1, k2, k3, k4, k5⟩, k6, k7⟩ := hk
  obtain ⟨f1, f2, f3, f4, f5, f6, f7⟩ := hfit
  have hts := C.2.2.2.2.2.1
  have hT : ∀ w ∈ am_tb, w.before args s = true := fun w hw => hts w (List.mem_cons_of_mem _ hw)
  obtain ⟨qc, hqc, hqn⟩ : ∃ qc, am_cl[ci]? = some qc ∧ qc.1 = y.1.cls := by
    cases h : am_cl[ci]? with
    | none => rw [h] at hc; cases hc
    | some q => rw [h] at hc; exact ⟨q, rfl, Option.some.inj hc⟩
  have hrun := va_runV (p := p) (l := l) (e := e) (R := M.2.2.2.2.1) (s := s) (m := m) (args := args) (below := below) (meth := meth) (c := c) (H := H) (locs := locs) (cells := M.2.2.2.2.2.1) (slots := M.2.2.2.2.2.2) (As := av.map (am_tr E)) (rest := rest.map (am_tr E)) (b := E.1 b) (C := y.1.cls) (g := F0 m pc ls ((av.reverse ++ vR b :: rest).map (am_tr E))) (n := n)
    ⟨C.1, C.2.1, C.2.2.2.1, C.2.2.2.2.1, hts⟩ (hR l E) ⟨⟨by rw [f1, f3], by rw [f2, f3], f4, f5, am_words hts k2, List.mem_cons_self, hT _ k2, hT _ k3, k4, fun sig h => by rw [h] at k5; exact (Option.some.inj k5).symm, hT _ k1⟩, hT _ k6, hT _ k7⟩
    ⟨am_blind, by obtain ⟨cell, x1, x2, x3⟩ := va_recv G.2.1 G.1 hqc (am_ws_get ht); exact ⟨cell, x1, x2, by rw [← hqn]; exact x3⟩, fun U hU hW => ⟨rfl, by rw [hU]; exact am_G.moved hW G⟩⟩ rfl (by rw [List.length_map]; exact hn) L.1 (by simp [am_tr, List.map_reverse]) (by simpa using (lv_room (m := m) (pc := pc) (ls := ls) (rest := []) (am_cats (E := E) rest h4))) hd (by rw [f3]; exact ⟨f6, f7⟩)
  rw [f3] at hrun
  refine AW_ofRun (y := y) (rest := rest) hrun G S (fun r σ' H1 locs1 hq G1 S1 => ?_)
  exact kk r σ' hq E p l e s m args below meth c H1 locs1 ls C G1 S1 L
theorem AW_callS {y : am_M} {idx n : Nat} {Q' : Option am_V → am_S → Prop} {av rest : List am_V} (hd : decode M.2.1 pc = .ok (.invokestatic idx, 3)) (hk : am_ls M.1.cls idx y n) (hfit : am_fit M y) (hn : av.length = n) (h4 : rest.length ≤ 4) (hR : Runs T y av σ Q') (kk : ∀ r σ', Q' r σ' → AW T M (pc + 3) lv (r.toList ++ rest) σ' Q) : AW T M pc lv (av.reverse ++ rest) σ Q := by
  intro E p l e s m args below meth c H locs ls C G S L
  obtain ⟨⟨k1, k2, k3, k4, k5⟩, k6⟩ := hk
  obtain ⟨f1, f2, f3, f4, f5, f6, f7⟩ := hfit
  have hts := C.2.2.2.2.2.1
  have hT : ∀ w ∈ am_tb, w.before args s = true := fun w hw => hts w (List.mem_cons_of_mem _ hw)
  have hrun := va_runS (p := p) (l := l) (e := e) (R := M.2.2.2.2.1) (s := s) (m := m) (args := args) (below := below) (meth := meth) (c := c) (H := H) (locs := locs) (cells := M.2.2.2.2.2.1) (slots := M.2.2.2.2.2.2) (As := av.map (am_tr E)) (rest := rest.map (am_tr E)) (g := F0 m pc ls ((av.reverse ++ rest).map (am_tr E))) (n := n)
    ⟨C.1, C.2.1, C.2.2.2.1, C.2.2.2.2.1, hts⟩ (hR l E) ⟨⟨by rw [f1, f3], by rw [f2, f3], f4, f5, am_words hts k2, List.mem_cons_self, hT _ k2, hT _ k3, k4, fun sig h => by rw [h] at k5; exact (Option.some.inj k5).symm, hT _ k1⟩, hT _ k6⟩
    ⟨am_blind, fun U hU hW => ⟨rfl, by rw [hU]; exact am_G.moved hW G⟩⟩ rfl (by rw [List.length_map]; exact hn) L.1 (by simp [List.map_reverse]) (by simpa using (lv_room (m := m) (pc := pc) (ls := ls) (rest := []) (am_cats (E := E) rest h4))) hd (by rw [f3]; exact ⟨f6, f7⟩)
  rw [f3] at hrun
  refine AW_ofRun (y := y) (rest := rest) hrun G S (fun r σ' H1 locs1 hq G1 S1 => ?_)
  exact kk r σ' hq E p l e s m args below meth c H1 locs1 ls C G1 S1 L
theorem AW_callSN {y : am_M} {idx n : Nat} {host : String} {Q' : Option am_V → am_S → Prop} {av rest : List am_V} (hd : decode M.2.1 pc = .ok (.invokestatic idx, 3)) (hk : Cond.code y.1 y.2.1 y.2.2.1 y.2.2.2.1 ∈ am_tb ∧ Cond.initialized y.1.cls ∈ am_tb ∧ (y.1.cls ≠ "java/lang/invoke/MethodHandle" ∧ y.1.cls ≠ "java/lang/invoke/VarHandle") ∧ (parseMethodDescriptor y.1.desc).map (fun d => d.parameters.length) = some n ∧ Cond.static y.1 ∈ am_tb) (hnest : ∀ U, am_N U → va_Nw (.methodLinkNest M.1.cls idx y.1 host) U) (hfit : am_fit M y) (hn : av.length = n) (h4 : rest.length ≤ 4) (hR : Runs T y av σ Q') (kk : ∀ r σ', Q' r σ' → AW T M (pc + 3) lv (r.toList ++ rest) σ' Q) : AW T M pc lv (av.reverse ++ rest) σ Q := by
  intro E p l e s m args below meth c H locs ls C G S L
  obtain ⟨k2, k3, k4, k5, k6⟩ := hk
  obtain ⟨f1, f2, f3, f4, f5, f6, f7⟩ := hfit
  have hts := C.2.2.2.2.2.1
  have hT : ∀ w ∈ am_tb, w.before args s = true := fun w hw => hts w (List.mem_cons_of_mem _ hw)
  have hrun := va_runSN (p := p) (l := l) (e := e) (R := M.2.2.2.2.1) (s := s) (m := m) (args := args) (below := below) (meth := meth) (c := c) (H := H) (locs := locs) (cells := M.2.2.2.2.2.1) (slots := M.2.2.2.2.2.2) (As := av.map (am_tr E)) (rest := rest.map (am_tr E)) (g := F0 m pc ls ((av.reverse ++ rest).map (am_tr E))) (n := n) (host := host) (index := idx)
    ⟨C.1, C.2.1, C.2.2.2.1, C.2.2.2.2.1, hts⟩ (hR l E) ⟨⟨⟨by rw [f1, f3], by rw [f2, f3], f4, f5, am_words hts k2, List.mem_cons_self⟩, hT _ k2, hT _ k3, k4, fun sig h => by rw [h] at k5; exact (Option.some.inj k5).symm, va_Nw.use rfl (hnest s G.2.2.2)⟩, hT _ k6, trivial⟩
    ⟨am_blind, fun U hU hW => ⟨rfl, by rw [hU]; exact am_G.moved hW G⟩⟩ rfl (by rw [List.length_map]; exact hn) L.1 (by simp [List.map_reverse]) (by simpa using (lv_room (m := m) (pc := pc) (ls := ls) (rest := []) (am_cats (E := E) rest h4))) hd (by rw [f3]; exact ⟨f6, f7⟩)
  rw [f3] at hrun
  refine AW_ofRun (y := y) (rest := rest) hrun G S (fun r σ' H1 locs1 hq G1 S1 => ?_)
  exact kk r σ' hq E p l e s m args below meth c H1 locs1 ls C G1 S1 L
end AMK
end
section
section AMK2
variable {T : List am_C} {M : am_M} {pc : Nat} {lv : List (Option am_V)} {σ : am_S} {Q : Option am_V → am_S → Prop} {y : am_M} {idx b ci : Nat} {fs : List (Option Nat)} {rest : List am_V}
theorem AW_cVI0 {P : Int → am_S → Prop} (hd : decode M.2.1 pc = .ok (.invokevirtual idx, 3)) (hk : am_lv' M.1.cls idx y 0) (hfit : am_fit M y) (ht : T[b]? = some (.inl (ci, fs))) (hc : (am_cl[ci]?).map (fun q => q.1) = some y.1.cls) (h4 : rest.length ≤ 4) (hR : Runs T y [vR b] σ (QI P)) (kk : ∀ z σ', P z σ' → AW T M (pc + 3) lv (vI z :: rest) σ' Q) : AW T M pc lv (vR b :: rest) σ Q :=
  AW_callV (av := []) hd hk hfit ht hc rfl h4 hR (fun r σ' h => by obtain ⟨z, rfl, hp⟩ := h; exact kk z σ' hp)
theorem AW_cVV0 {P : am_S → Prop} (hd : decode M.2.1 pc = .ok (.invokevirtual idx, 3)) (hk : am_lv' M.1.cls idx y 0) (hfit : am_fit M y) (ht : T[b]? = some (.inl (ci, fs))) (hc : (am_cl[ci]?).map (fun q => q.1) = some y.1.cls) (h4 : rest.length ≤ 4) (hR : Runs T y [vR b] σ (QV P)) (kk : ∀ σ', P σ' → AW T M (pc + 3) lv rest σ' Q) : AW T M pc lv (vR b :: rest) σ Q :=
  AW_callV (av := []) hd hk hfit ht hc rfl h4 hR (fun r σ' h => by obtain ⟨rfl, hp⟩ := h; exact kk σ' hp)
theorem AW_cVR0 {P : Nat → am_S → Prop} (hd : decode M.2.1 pc = .ok (.invokevirtual idx, 3)) (hk : am_lv' M.1.cls idx y 0) (hfit : am_fit M y) (ht : T[b]? = some (.inl (ci, fs))) (hc : (am_cl[ci]?).map (fun q => q.1) = some y.1.cls) (h4 : rest.length ≤ 4) (hR : Runs T y [vR b] σ (QR P)) (kk : ∀ z σ', P z σ' → AW T M (pc + 3) lv (vR z :: rest) σ' Q) : AW T M pc lv (vR b :: rest) σ Q :=
  AW_callV (av := []) hd hk hfit ht hc rfl h4 hR (fun r σ' h => by obtain ⟨z, rfl, hp⟩ := h; exact kk z σ' hp)
theorem AW_cVI1 {a1 : am_V} {P : Int → am_S → Prop} (hd : decode M.2.1 pc = .ok (.invokevirtual idx, 3)) (hk : am_lv' M.1.cls idx y 1) (hfit : am_fit M y) (ht : T[b]? = some (.inl (ci, fs))) (hc : (am_cl[ci]?).map (fun q => q.1) = some y.1.cls) (h4 : rest.length ≤ 4) (hR : Runs T y [vR b, a1] σ (QI P)) (kk : ∀ z σ', P z σ' → AW T M (pc + 3) lv (vI z :: rest) σ' Q) : AW T M pc lv (a1 :: vR b :: rest) σ Q :=
  AW_callV (av := [a1]) hd hk hfit ht hc rfl h4 hR (fun r σ' h => by obtain ⟨z, rfl, hp⟩ := h; exact kk z σ' hp)
theorem AW_cSI1 {a1 : am_V} {P : Int → am_S → Prop} (hd : decode M.2.1 pc = .ok (.invokestatic idx, 3)) (hk : am_ls M.1.cls idx y 1) (hfit : am_fit M y) (h4 : rest.length ≤ 4) (hR : Runs T y [a1] σ (QI P)) (kk : ∀ z σ', P z σ' → AW T M (pc + 3) lv (vI z :: rest) σ' Q) : AW T M pc lv (a1 :: rest) σ Q :=
  AW_callS (av := [a1]) hd hk hfit rfl h4 hR (fun r σ' h => by obtain ⟨z, rfl, hp⟩ := h; exact kk z σ' hp)
theorem AW_cVV1 {a1 : am_V} {P : am_S → Prop} (hd : decode M.2.1 pc = .ok (.invokevirtual idx, 3)) (hk : am_lv' M.1.cls idx y 1) (hfit : am_fit M y) (ht : T[b]? = some (.inl (ci, fs))) (hc : (am_cl[ci]?).map (fun q => q.1) = some y.1.cls) (h4 : rest.length ≤ 4) (hR : Runs T y [vR b, a1] σ (QV P)) (kk : ∀ σ', P σ' → AW T M (pc + 3) lv rest σ' Q) : AW T M pc lv (a1 :: vR b :: rest) σ Q :=
  AW_callV (av := [a1]) hd hk hfit ht hc rfl h4 hR (fun r σ' h => by obtain ⟨rfl, hp⟩ := h; exact kk σ' hp)
theorem AW_cSV1 {a1 : am_V} {P : am_S → Prop} (hd : decode M.2.1 pc = .ok (.invokestatic idx, 3)) (hk : am_ls M.1.cls idx y 1) (hfit : am_fit M y) (h4 : rest.length ≤ 4) (hR : Runs T y [a1] σ (QV P)) (kk : ∀ σ', P σ' → AW T M (pc + 3) lv rest σ' Q) : AW T M pc lv (a1 :: rest) σ Q :=
  AW_callS (av := [a1]) hd hk hfit rfl h4 hR (fun r σ' h => by obtain ⟨rfl, hp⟩ := h; exact kk σ' hp)
theorem AW_cVI2 {a1 a2 : am_V} {P : Int → am_S → Prop} (hd : decode M.2.1 pc = .ok (.invokevirtual idx, 3)) (hk : am_lv' M.1.cls idx y 2) (hfit : am_fit M y) (ht : T[b]? = some (.inl (ci, fs))) (hc : (am_cl[ci]?).map (fun q => q.1) = some y.1.cls) (h4 : rest.length ≤ 4) (hR : Runs T y [vR b, a1, a2] σ (QI P)) (kk : ∀ z σ', P z σ' → AW T M (pc + 3) lv (vI z :: rest) σ' Q) : AW T M pc lv (a2 :: a1 :: vR b :: rest) σ Q :=
  AW_callV (av := [a1, a2]) hd hk hfit ht hc rfl h4 hR (fun r σ' h => by obtain ⟨z, rfl, hp⟩ := h; exact kk z σ' hp)
theorem AW_cSI2 {a1 a2 : am_V} {P : Int → am_S → Prop} (hd : decode M.2.1 pc = .ok (.invokestatic idx, 3)) (hk : am_ls M.1.cls idx y 2) (hfit : am_fit M y) (h4 : rest.length ≤ 4) (hR : Runs T y [a1, a2] σ (QI P)) (kk : ∀ z σ', P z σ' → AW T M (pc + 3) lv (vI z :: rest) σ' Q) : AW T M pc lv (a2 :: a1 :: rest) σ Q :=
  AW_callS (av := [a1, a2]) hd hk hfit rfl h4 hR (fun r σ' h => by obtain ⟨z, rfl, hp⟩ := h; exact kk z σ' hp)
theorem AW_cVV2 {a1 a2 : am_V} {P : am_S → Prop} (hd : decode M.2.1 pc = .ok (.invokevirtual idx, 3)) (hk : am_lv' M.1.cls idx y 2) (hfit : am_fit M y) (ht : T[b]? = some (.inl (ci, fs))) (hc : (am_cl[ci]?).map (fun q => q.1) = some y.1.cls) (h4 : rest.length ≤ 4) (hR : Runs T y [vR b, a1, a2] σ (QV P)) (kk : ∀ σ', P σ' → AW T M (pc + 3) lv rest σ' Q) : AW T M pc lv (a2 :: a1 :: vR b :: rest) σ Q :=
  AW_callV (av := [a1, a2]) hd hk hfit ht hc rfl h4 hR (fun r σ' h => by obtain ⟨rfl, hp⟩ := h; exact kk σ' hp)
theorem AW_cSV2 {a1 a2 : am_V} {P : am_S → Prop} (hd : decode M.2.1 pc = .ok (.invokestatic idx, 3)) (hk : am_ls M.1.cls idx y 2) (hfit : am_fit M y) (h4 : rest.length ≤ 4) (hR : Runs T y [a1, a2] σ (QV P)) (kk : ∀ σ', P σ' → AW T M (pc + 3) lv rest σ' Q) : AW T M pc lv (a2 :: a1 :: rest) σ Q :=
  AW_callS (av := [a1, a2]) hd hk hfit rfl h4 hR (fun r σ' h => by obtain ⟨rfl, hp⟩ := h; exact kk σ' hp)
theorem AW_cVI3 {a1 a2 a3 : am_V} {P : Int → am_S → Prop} (hd : decode M.2.1 pc = .ok (.invokevirtual idx, 3)) (hk : am_lv' M.1.cls idx y 3) (hfit : am_fit M y) (ht : T[b]? = some (.inl (ci, fs))) (hc : (am_cl[ci]?).map (fun q => q.1) = some y.1.cls) (h4 : rest.length ≤ 4) (hR : Runs T y [vR b, a1, a2, a3] σ (QI P)) (kk : ∀ z σ', P z σ' → AW T M (pc + 3) lv (vI z :: rest) σ' Q) : AW T M pc lv (a3 :: a2 :: a1 :: vR b :: rest) σ Q :=
  AW_callV (av := [a1, a2, a3]) hd hk hfit ht hc rfl h4 hR (fun r σ' h => by obtain ⟨z, rfl, hp⟩ := h; exact kk z σ' hp)
theorem AW_cSI3 {a1 a2 a3 : am_V} {P : Int → am_S → Prop} (hd : decode M.2.1 pc = .ok (.invokestatic idx, 3)) (hk : am_ls M.1.cls idx y 3) (hfit : am_fit M y) (h4 : rest.length ≤ 4) (hR : Runs T y [a1, a2, a3] σ (QI P)) (kk : ∀ z σ', P z σ' → AW T M (pc + 3) lv (vI z :: rest) σ' Q) : AW T M pc lv (a3 :: a2 :: a1 :: rest) σ Q :=
  AW_callS (av := [a1, a2, a3]) hd hk hfit rfl h4 hR (fun r σ' h => by obtain ⟨z, rfl, hp⟩ := h; exact kk z σ' hp)
theorem AW_cVV3 {a1 a2 a3 : am_V} {P : am_S → Prop} (hd : decode M.2.1 pc = .ok (.invokevirtual idx, 3)) (hk : am_lv' M.1.cls idx y 3) (hfit : am_fit M y) (ht : T[b]? = some (.inl (ci, fs))) (hc : (am_cl[ci]?).map (fun q => q.1) = some y.1.cls) (h4 : rest.length ≤ 4) (hR : Runs T y [vR b, a1, a2, a3] σ (QV P)) (kk : ∀ σ', P σ' → AW T M (pc + 3) lv rest σ' Q) : AW T M pc lv (a3 :: a2 :: a1 :: vR b :: rest) σ Q :=
  AW_callV (av := [a1, a2, a3]) hd hk hfit ht hc rfl h4 hR (fun r σ' h => by obtain ⟨rfl, hp⟩ := h; exact kk σ' hp)
theorem AW_cSV3 {a1 a2 a3 : am_V} {P : am_S → Prop} (hd : decode M.2.1 pc = .ok (.invokestatic idx, 3)) (hk : am_ls M.1.cls idx y 3) (hfit : am_fit M y) (h4 : rest.length ≤ 4) (hR : Runs T y [a1, a2, a3] σ (QV P)) (kk : ∀ σ', P σ' → AW T M (pc + 3) lv rest σ' Q) : AW T M pc lv (a3 :: a2 :: a1 :: rest) σ Q :=
  AW_callS (av := [a1, a2, a3]) hd hk hfit rfl h4 hR (fun r σ' h => by obtain ⟨rfl, hp⟩ := h; exact kk σ' hp)
theorem AW_cVI4 {a1 a2 a3 a4 : am_V} {P : Int → am_S → Prop} (hd : decode M.2.1 pc = .ok (.invokevirtual idx, 3)) (hk : am_lv' M.1.cls idx y 4) (hfit : am_fit M y) (ht : T[b]? = some (.inl (ci, fs))) (hc : (am_cl[ci]?).map (fun q => q.1) = some y.1.cls) (h4 : rest.length ≤ 4) (hR : Runs T y [vR b, a1, a2, a3, a4] σ (QI P)) (kk : ∀ z σ', P z σ' → AW T M (pc + 3) lv (vI z :: rest) σ' Q) : AW T M pc lv (a4 :: a3 :: a2 :: a1 :: vR b :: rest) σ Q :=
  AW_callV (av := [a1, a2, a3, a4]) hd hk hfit ht hc rfl h4 hR (fun r σ' h => by obtain ⟨z, rfl, hp⟩ := h; exact kk z σ' hp)
theorem AW_cSI4 {a1 a2 a3 a4 : am_V} {P : Int → am_S → Prop} (hd : decode M.2.1 pc = .ok (.invokestatic idx, 3)) (hk : am_ls M.1.cls idx y 4) (hfit : am_fit M y) (h4 : rest.length ≤ 4) (hR : Runs T y [a1, a2, a3, a4] σ (QI P)) (kk : ∀ z σ', P z σ' → AW T M (pc + 3) lv (vI z :: rest) σ' Q) : AW T M pc lv (a4 :: a3 :: a2 :: a1 :: rest) σ Q :=
  AW_callS (av := [a1, a2, a3, a4]) hd hk hfit rfl h4 hR (fun r σ' h => by obtain ⟨z, rfl, hp⟩ := h; exact kk z σ' hp)
theorem AW_cVV4 {a1 a2 a3 a4 : am_V} {P : am_S → Prop} (hd : decode M.2.1 pc = .ok (.invokevirtual idx, 3)) (hk : am_lv' M.1.cls idx y 4) (hfit : am_fit M y) (ht : T[b]? = some (.inl (ci, fs))) (hc : (am_cl[ci]?).map (fun q => q.1) = some y.1.cls) (h4 : rest.length ≤ 4) (hR : Runs T y [vR b, a1, a2, a3, a4] σ (QV P)) (kk : ∀ σ', P σ' → AW T M (pc + 3) lv rest σ' Q) : AW T M pc lv (a4 :: a3 :: a2 :: a1 :: vR b :: rest) σ Q :=
  AW_callV (av := [a1, a2, a3, a4]) hd hk hfit ht hc rfl h4 hR (fun r σ' h => by obtain ⟨rfl, hp⟩ := h; exact kk σ' hp)
theorem AW_cSV4 {a1 a2 a3 a4 : am_V} {P : am_S → Prop} (hd : decode M.2.1 pc = .ok (.invokestatic idx, 3)) (hk : am_ls M.1.cls idx y 4) (hfit : am_fit M y) (h4 : rest.length ≤ 4) (hR : Runs T y [a1, a2, a3, a4] σ (QV P)) (kk : ∀ σ', P σ' → AW T M (pc + 3) lv rest σ' Q) : AW T M pc lv (a4 :: a3 :: a2 :: a1 :: rest) σ Q :=
  AW_callS (av := [a1, a2, a3, a4]) hd hk hfit rfl h4 hR (fun r σ' h => by obtain ⟨rfl, hp⟩ := h; exact kk σ' hp)
/-- a row copied into a row -/
def am_cp (σ : am_S) (a0 a : Nat) (sp dp n : Nat) : am_S := (fun k j => if k = a ∧ dp ≤ j ∧ j < dp + n then σ.1 a0 (sp + (j - dp)) else σ.1 k j, σ.2)
def am_cpL (σ : am_S) (a0 a : Nat) (sp dp n : Nat) : am_S := (σ.1, fun k j => if k = a ∧ dp ≤ j ∧ j < dp + n then σ.2 a0 (sp + (j - dp)) else σ.2 k j)
theorem am_cpy_eq (a0 a sp dp n : Nat) : va_cpy (fun j => Int32.ofInt (σ.1 a0 j)) (fun j => Int32.ofInt (σ.1 a j)) sp dp n = fun j => Int32.ofInt ((am_cp σ a0 a sp dp n).1 a j) := by
  funext j
  by_cases h : dp ≤ j ∧ j < dp + n
  · simp [va_cpy, am_cp, h]
  · simp only [va_cpy, am_cp, h, if_false, and_false]
theorem am_cpyL_eq (a0 a sp dp n : Nat) : va_cpy (σ.2 a0) (σ.2 a) sp dp n = (am_cpL σ a0 a sp dp n).2 a := by
  funext j
  by_cases h : dp ≤ j ∧ j < dp + n
  · simp [va_cpy, am_cpL, h]
  · simp only [va_cpy, am_cpL, h, if_false, and_false]
theorem AW_copyi {a a0 n0 n1 : Nat} {sp dp n : Int} (hd : decode M.2.1 pc = .ok (.invokestatic idx, 3)) (hk : Cond.methodLink M.1.cls idx arraycopyName ∈ am_tb ∧ Cond.native arraycopyName ∈ am_tb ∧ Cond.static arraycopyName ∈ am_tb ∧ Cond.initialized "java/lang/System" ∈ am_tb) (hf : 1 ≤ M.2.2.2.2.1.frames) (hlo : 8 + (nativeFrameWords "java/lang/System" "arraycopy" 5 + 11) ≤ M.2.2.2.2.1.locals) (h4 : rest.length ≤ 4) (h0 : T[a0]? = some (.inr (.inl (0, n0)))) (h1 : T[a]? = some (.inr (.inl (0, n1)))) (hb : n0 < 2147483648 ∧ n1 < 2147483648) (hs : 0 ≤ sp ∧ 0 ≤ dp ∧ 0 ≤ n ∧ sp + n ≤ n0 ∧ dp + n ≤ n1) (k : AW T M (pc + 3) lv rest (am_cp σ a0 a sp.toNat dp.toNat n.toNat) Q) : AW T M pc lv (vI n :: vI dp :: vR a :: vI sp :: vR a0 :: rest) σ Q := by
  intro E p l e s m args below meth c H locs ls C G S L
  have hT : ∀ w ∈ am_tb, w.before args s = true := fun w hw => C.2.2.2.2.2.1 w (List.mem_cons_of_mem _ hw)
  have e1 := i32_clamp (x := sp) ⟨hs.1, by omega⟩
  have e2 := i32_clamp (x := dp) ⟨hs.2.1, by omega⟩
  have e3 := i32_clamp (x := n) ⟨hs.2.2.1, by omega⟩
  have hneg : ∀ x : Int, 0 ≤ x → x < 2147483648 → ¬ Int32.ofInt x < 0 := fun x hx hx2 h => by
    rw [i32_zero, i32_lt ⟨by omega, hx2⟩ i32_z] at h
    omega
  refine va_copyi (D := E.2.1) C.1 C.2.1 (C.2.2.2.1.trans L.1.symm) C.2.2.2.2.1 (hT _ hk.1) (hT _ hk.2.1) (hT _ hk.2.2.1) (hT _ hk.2.2.2) G.2.1 G.1 G.2.2.1 S a0 a 0 0 (am_ws_get h0) (am_ws_get h1) (ty := .int) rfl rfl rfl (hneg sp hs.1 (by omega)) (hneg dp hs.2.1 (by omega)) (hneg n hs.2.2.1 (by omega)) (by rw [e1, e3]; omega) (by rw [e2, e3]; omega) (fun i _ => rfl) hf (by have := am_cats (E := E) rest h4; omega) hd (fun H1 locs1 hP hD hS => ?_)
  rw [e1, e2, e3] at hP hD
  have hc := am_cpy_eq (σ := σ) a0 a sp.toNat dp.toNat n.toNat
  rw [hc] at hP hD
  have hw := am_ws_set (E := E) (σ := σ) (σ' := am_cp σ a0 a sp.toNat dp.toNat n.toNat) h1 (fun b hb => ⟨by funext j; simp [am_cp, hb], rfl⟩)
  have hw' : (am_ws T E σ).set a (E.1 a, .inl (E.2.2 0, n1, .inl (fun j => Int32.ofInt ((am_cp σ a0 a sp.toNat dp.toNat n.toNat).1 a j)))) = am_ws T E (am_cp σ a0 a sp.toNat dp.toNat n.toNat) := hw
  rw [hw'] at hP hD
  exact k E p l e s m args below meth c H1 locs1 ls C ⟨hP, G.2.1, hD, G.2.2.2⟩ hS L
theorem AW_copyl {a a0 n0 n1 : Nat} {sp dp n : Int} (hd : decode M.2.1 pc = .ok (.invokestatic idx, 3)) (hk : Cond.methodLink M.1.cls idx arraycopyName ∈ am_tb ∧ Cond.native arraycopyName ∈ am_tb ∧ Cond.static arraycopyName ∈ am_tb ∧ Cond.initialized "java/lang/System" ∈ am_tb) (hf : 1 ≤ M.2.2.2.2.1.frames) (hlo : 8 + (nativeFrameWords "java/lang/System" "arraycopy" 5 + 11) ≤ M.2.2.2.2.1.locals) (h4 : rest.length ≤ 4) (h0 : T[a0]? = some (.inr (.inl (2, n0)))) (h1 : T[a]? = some (.inr (.inl (2, n1)))) (hb : n0 < 2147483648 ∧ n1 < 2147483648) (hs : 0 ≤ sp ∧ 0 ≤ dp ∧ 0 ≤ n ∧ sp + n ≤ n0 ∧ dp + n ≤ n1) (k : AW T M (pc + 3) lv rest (am_cpL σ a0 a sp.toNat dp.toNat n.toNat) Q) : AW T M pc lv (vI n :: vI dp :: vR a :: vI sp :: vR a0 :: rest) σ Q := by
  intro E p l e s m args below meth c H locs ls C G S L
  have hT : ∀ w ∈ am_tb, w.before args s = true := fun w hw => C.2.2.2.2.2.1 w (List.mem_cons_of_mem _ hw)
  have e1 := i32_clamp (x := sp) ⟨hs.1, by omega⟩
  have e2 := i32_clamp (x := dp) ⟨hs.2.1, by omega⟩
  have e3 := i32_clamp (x := n) ⟨hs.2.2.1, by omega⟩
  have hneg : ∀ x : Int, 0 ≤ x → x < 2147483648 → ¬ Int32.ofInt x < 0 := fun x hx hx2 h => by
    rw [i32_zero, i32_lt ⟨by omega, hx2⟩ i32_z] at h
    omega
  refine va_copyl (D := E.2.1) C.1 C.2.1 (C.2.2.2.1.trans L.1.symm) C.2.2.2.2.1 (hT _ hk.1) (hT _ hk.2.1) (hT _ hk.2.2.1) (hT _ hk.2.2.2) G.2.1 G.1 G.2.2.1 S a0 a 2 2 (am_ws_get h0) (am_ws_get h1) (ty := .long) rfl rfl rfl (hneg sp hs.1 (by omega)) (hneg dp hs.2.1 (by omega)) (hneg n hs.2.2.1 (by omega)) (by rw [e1, e3]; omega) (by rw [e2, e3]; omega) (fun i _ => rfl) hf (by have := am_cats (E := E) rest h4; omega) hd (fun H1 locs1 hP hD hS => ?_)
  rw [e1, e2, e3] at hP hD
  have hc := am_cpyL_eq (σ := σ) a0 a sp.toNat dp.toNat n.toNat
  rw [hc] at hP hD
  have hw := am_ws_set (E := E) (σ := σ) (σ' := am_cpL σ a0 a sp.toNat dp.toNat n.toNat) h1 (fun b hb => ⟨rfl, by funext j; simp [am_cpL, hb]⟩)
  have hw' : (am_ws T E σ).set a (E.1 a, .inl (E.2.2 2, n1, .inr (.inl ((am_cpL σ a0 a sp.toNat dp.toNat n.toNat).2 a)))) = am_ws T E (am_cpL σ a0 a sp.toNat dp.toNat n.toNat) := hw
  rw [hw'] at hP hD
  exact k E p l e s m args below meth c H1 locs1 ls C ⟨hP, G.2.1, hD, G.2.2.2⟩ hS L
end AMK2
end
section
theorem in_tb {w : Cond} (i : Nat) (h : lw_tbl[i]? = some w) (hg : goodWord w = true) : w ∈ am_tb := List.mem_filter.mpr ⟨List.mem_of_getElem? h, hg⟩
/-! the heap: 0 BeltArms, 1 its two images, 2.. 19.. 36.. the three States (State, Belt and 3 rows, Things and 5 rows, Arms and 5 rows), 53.. 60.. the two Plans (and 6 rows), 67 Trays (68, 69), 70 the reference and its rows 71 to 85 -/
def am_tab : List am_C := [.inl (6, [some 2, some 1, none, some 53, some 60, some 67, none]),
  .inr (.inr [19, 36]),
  .inl (3, [some 3, some 7, some 13, none, none]),
  .inl (1, [none, none, some 4, some 5, some 6]),
  .inr (.inl (0, 8)),
  .inr (.inl (0, 8)),
  .inr (.inl (0, 301)),
  .inl (4, [none, some 8, some 9, some 10, some 11, some 12]),
  .inr (.inl (0, 20)),
  .inr (.inl (0, 20)),
  .inr (.inl (0, 20)),
  .inr (.inl (0, 20)),
  .inr (.inl (2, 100)),
  .inl (0, [some 14, some 15, some 16, some 17, some 18]),
  .inr (.inl (0, 4)),
  .inr (.inl (0, 4)),
  .inr (.inl (0, 4)),
  .inr (.inl (0, 4)),
  .inr (.inl (0, 4)),
  .inl (3, [some 20, some 24, some 30, none, none]),
  .inl (1, [none, none, some 21, some 22, some 23]),
  .inr (.inl (0, 8)),
  .inr (.inl (0, 8)),
  .inr (.inl (0, 301)),
  .inl (4, [none, some 25, some 26, some 27, some 28, some 29]),
  .inr (.inl (0, 20)),
  .inr (.inl (0, 20)),
  .inr (.inl (0, 20)),
  .inr (.inl (0, 20)),
  .inr (.inl (2, 100)),
  .inl (0, [some 31, some 32, some 33, some 34, some 35]),
  .inr (.inl (0, 4)),
  .inr (.inl (0, 4)),
  .inr (.inl (0, 4)),
  .inr (.inl (0, 4)),
  .inr (.inl (0, 4)),
  .inl (3, [some 37, some 41, some 47, none, none]),
  .inl (1, [none, none, some 38, some 39, some 40]),
  .inr (.inl (0, 8)),
  .inr (.inl (0, 8)),
  .inr (.inl (0, 301)),
  .inl (4, [none, some 42, some 43, some 44, some 45, some 46]),
  .inr (.inl (0, 20)),
  .inr (.inl (0, 20)),
  .inr (.inl (0, 20)),
  .inr (.inl (0, 20)),
  .inr (.inl (2, 100)),
  .inl (0, [some 48, some 49, some 50, some 51, some 52]),
  .inr (.inl (0, 4)),
  .inr (.inl (0, 4)),
  .inr (.inl (0, 4)),
  .inr (.inl (0, 4)),
  .inr (.inl (0, 4)),
  .inl (2, [none, none, some 54, some 55, some 56, some 57, some 58, some 59, none, none, none]),
  .inr (.inl (0, 400)),
  .inr (.inl (0, 20)),
  .inr (.inl (0, 20)),
  .inr (.inl (0, 1204)),
  .inr (.inl (0, 20)),
  .inr (.inl (0, 20)),
  .inl (2, [none, none, some 61, some 62, some 63, some 64, some 65, some 66, none, none, none]),
  .inr (.inl (0, 400)),
  .inr (.inl (0, 20)),
  .inr (.inl (0, 20)),
  .inr (.inl (0, 1204)),
  .inr (.inl (0, 20)),
  .inr (.inl (0, 20)),
  .inl (5, [some 68, some 69]),
  .inr (.inl (0, 20)),
  .inr (.inl (0, 18)),
  .inl (7, [some 71, some 72, some 73, some 74, some 75, some 76, some 77, some 78, some 79, some 80, some 81, some 82, some 83, none, some 84, some 85]),
  .inr (.inl (0, 6424)),
  .inr (.inl (0, 12848)),
  .inr (.inl (1, 2)),
  .inr (.inl (0, 301)),
  .inr (.inl (0, 6020)),
  .inr (.inl (0, 1204)),
  .inr (.inl (1, 1204)),
  .inr (.inl (1, 20)),
  .inr (.inl (0, 20)),
  .inr (.inl (0, 1204)),
  .inr (.inl (0, 20)),
  .inr (.inl (0, 20)),
  .inr (.inl (0, 20)),
  .inr (.inl (0, 18)),
  .inr (.inl (0, 20))]
abbrev mX0_copyFrom : am_M := (yX0_copyFrom, cX0_copyFrom, 2, none, am_rm 1, (0, 0))
abbrev mX0_othersReach : am_M := (yX0_othersReach, cX0_othersReach, 5, (some .boolean), am_rm 0, (0, 0))
abbrev mX0_hasLane : am_M := (yX0_hasLane, cX0_hasLane, 3, (some .boolean), am_rm 0, (0, 0))
abbrev mX0_reaches : am_M := (yX0_reaches, cX0_reaches, 3, (some .boolean), am_rm 1, (0, 0))
abbrev mX0_hasBeatAt : am_M := (yX0_hasBeatAt, cX0_hasBeatAt, 3, (some .boolean), am_rm 2, (0, 0))
abbrev mX0_beatFrom : am_M := (yX0_beatFrom, cX0_beatFrom, 4, (some .int), am_rm 1, (0, 0))
abbrev mX0_beatTill : am_M := (yX0_beatTill, cX0_beatTill, 4, (some .int), am_rm 1, (0, 0))
abbrev mX0_nextAlong : am_M := (yX0_nextAlong, cX0_nextAlong, 4, (some .int), am_rm 0, (0, 0))
abbrev mX1_copyFrom : am_M := (yX1_copyFrom, cX1_copyFrom, 2, none, am_rm 1, (0, 0))
abbrev mX1_begunBy : am_M := (yX1_begunBy, cX1_begunBy, 3, (some .int), am_rm 0, (0, 0))
abbrev mX1_speedAt : am_M := (yX1_speedAt, cX1_speedAt, 3, (some .int), am_rm 1, (0, 0))
abbrev mX1_changeAt : am_M := (yX1_changeAt, cX1_changeAt, 3, (some .int), am_rm 1, (0, 0))
abbrev mX1_tell : am_M := (yX1_tell, cX1_tell, 4, none, am_rm 2, (0, 0))
abbrev mX1_insert : am_M := (yX1_insert, cX1_insert, 5, none, am_rm 0, (0, 0))
abbrev mX1_forget : am_M := (yX1_forget, cX1_forget, 3, none, am_rm 1, (0, 0))
abbrev mX1_addUp : am_M := (yX1_addUp, cX1_addUp, 5, none, am_rm 0, (0, 0))
abbrev mX1_firstTickGone : am_M := (yX1_firstTickGone, cX1_firstTickGone, 4, (some .int), am_rm 0, (0, 0))
abbrev mX2_takeMost : am_M := (yX2_takeMost, cX2_takeMost, 4, none, am_rm 5, (0, 0))
abbrev mX2_listSlots : am_M := (yX2_listSlots, cX2_listSlots, 6, none, am_rm 4, (0, 0))
abbrev mX2_listSlotsOf : am_M := (yX2_listSlotsOf, cX2_listSlotsOf, 7, none, am_rm 3, (0, 0))
abbrev mX2_settle : am_M := (yX2_settle, cX2_settle, 4, none, am_rm 4, (0, 0))
abbrev mX2_settleAt : am_M := (yX2_settleAt, cX2_settleAt, 5, (some .boolean), am_rm 3, (0, 0))
abbrev mX2_hold : am_M := (yX2_hold, cX2_hold, 3, none, am_rm 0, (0, 0))
abbrev mX2_leave : am_M := (yX2_leave, cX2_leave, 3, none, am_rm 0, (0, 0))
abbrev mX2_takeOneMore : am_M := (yX2_takeOneMore, cX2_takeOneMore, 5, (some .boolean), am_rm 2, (0, 0))
abbrev mX2_freeSlot : am_M := (yX2_freeSlot, cX2_freeSlot, 6, (some .int), am_rm 1, (0, 0))
abbrev mX2_enqueue : am_M := (yX2_enqueue, cX2_enqueue, 3, none, am_rm 0, (0, 0))
abbrev mX2_moveUp : am_M := (yX2_moveUp, cX2_moveUp, 7, none, am_rm 1, (0, 0))
abbrev mX2_tickOf : am_M := (yX2_tickOf, cX2_tickOf, 2, (some .int), am_rm 0, (0, 0))
abbrev mX2_armOf : am_M := (yX2_armOf, cX2_armOf, 2, (some .int), am_rm 0, (0, 0))
abbrev mX2_takenAt : am_M := (yX2_takenAt, cX2_takenAt, 3, (some .int), am_rm 0, (0, 0))
abbrev mX2_takenBy : am_M := (yX2_takenBy, cX2_takenBy, 4, (some .int), am_rm 1, (0, 0))
abbrev mX2_lastTick : am_M := (yX2_lastTick, cX2_lastTick, 3, (some .int), am_rm 1, (0, 0))
abbrev mX2_missedSet : am_M := (yX2_missedSet, cX2_missedSet, 3, (some .int), am_rm 0, (0, 0))
abbrev mX2_neededSet : am_M := (yX2_neededSet, cX2_neededSet, 1, (some .int), am_rm 0, (0, 0))
abbrev mX2_nextTaken : am_M := (yX2_nextTaken, cX2_nextTaken, 4, (some .int), am_rm 0, (0, 0))
abbrev mX3_copyFrom : am_M := (yX3_copyFrom, cX3_copyFrom, 2, none, am_rm 2, (0, 0))
abbrev mX3_placeAt : am_M := (yX3_placeAt, cX3_placeAt, 3, (some .int), am_rm 0, (0, 0))
abbrev mX3_nearest : am_M := (yX3_nearest, cX3_nearest, 9, (some .int), am_rm 1, (0, 0))
abbrev mX3_canTake : am_M := (yX3_canTake, cX3_canTake, 4, (some .boolean), am_rm 3, (0, 0))
abbrev mX3_firstChanceOf : am_M := (yX3_firstChanceOf, cX3_firstChanceOf, 4, (some .int), am_rm 2, (0, 0))
abbrev mX3_lastChanceOf : am_M := (yX3_lastChanceOf, cX3_lastChanceOf, 4, (some .int), am_rm 2, (0, 0))
abbrev mX3_firstChance : am_M := (yX3_firstChance, cX3_firstChance, 5, (some .int), am_rm 3, (0, 0))
abbrev mX3_lastChance : am_M := (yX3_lastChance, cX3_lastChance, 5, (some .int), am_rm 3, (0, 0))
abbrev mX3_chances : am_M := (yX3_chances, cX3_chances, 5, (some .int), am_rm 3, (0, 0))
abbrev mX4_copyFrom : am_M := (yX4_copyFrom, cX4_copyFrom, 2, none, am_rm 1, (0, 0))
abbrev mX4_append : am_M := (yX4_append, cX4_append, 6, none, am_rm 1, (0, 0))
abbrev mX4_remove : am_M := (yX4_remove, cX4_remove, 3, none, am_rm 1, (0, 0))
abbrev mX4_markSeen : am_M := (yX4_markSeen, cX4_markSeen, 3, none, am_rm 0, (0, 0))
abbrev mX4_wasSeen : am_M := (yX4_wasSeen, cX4_wasSeen, 3, (some .boolean), am_rm 0, (0, 0))
abbrev mX4_timesSeen : am_M := (yX4_timesSeen, cX4_timesSeen, 4, (some .int), am_rm 1, (0, 0))
abbrev mX4_seenOften : am_M := (yX4_seenOften, cX4_seenOften, 3, (some .int), am_rm 2, (0, 0))
abbrev mX4_ofKind : am_M := (yX4_ofKind, cX4_ofKind, 4, (some .int), am_rm 0, (0, 0))
abbrev mX5_lay : am_M := (yX5_lay, cX5_lay, 7, none, am_rm 1, (0, 0))
abbrev mX5_emptiest : am_M := (yX5_emptiest, cX5_emptiest, 5, (some .int), am_rm 0, (0, 0))
abbrev mX6_speed : am_M := (yX6_speed, cX6_speed, 5, (some .int), am_rm 3, (0, 0))
abbrev mX6_level : am_M := (yX6_level, cX6_level, 3, (some .int), am_rm 2, (0, 0))
abbrev mX6_gone : am_M := (yX6_gone, cX6_gone, 2, (some .int), am_rm 2, (0, 0))
abbrev mX6_see : am_M := (yX6_see, cX6_see, 7, (some .int), am_rm 2, (0, 0))
abbrev mX6_drop : am_M := (yX6_drop, cX6_drop, 2, (some .int), am_rm 2, (0, 0))
abbrev mX6_thing : am_M := (yX6_thing, cX6_thing, 4, (some .int), am_rm 7, (0, 0))
abbrev mX6_place : am_M := (yX6_place, cX6_place, 3, (some .int), am_rm 2, (0, 0))
abbrev mX6_reach : am_M := (yX6_reach, cX6_reach, 4, (some .int), am_rm 2, (0, 0))
abbrev mX6_beat : am_M := (yX6_beat, cX6_beat, 4, (some .int), am_rm 2, (0, 0))
abbrev mX6_lanes : am_M := (yX6_lanes, cX6_lanes, 4, (some .int), am_rm 2, (0, 0))
abbrev mX6_arm : am_M := (yX6_arm, cX6_arm, 4, (some .int), am_rm 7, (0, 0))
abbrev mX6_can : am_M := (yX6_can, cX6_can, 4, (some .int), am_rm 4, (0, 0))
abbrev mX6_takes : am_M := (yX6_takes, cX6_takes, 4, (some .int), am_rm 7, (0, 0))
abbrev mX6_plan : am_M := (yX6_plan, cX6_plan, 2, (some .int), am_rm 7, (0, 0))
abbrev mX6_tray : am_M := (yX6_tray, cX6_tray, 3, (some .int), am_rm 7, (0, 0))
abbrev mX6_set : am_M := (yX6_set, cX6_set, 4, (some .int), am_rm 1, (0, 0))
abbrev mX6_image : am_M := (yX6_image, cX6_image, 2, (some .int), am_rm 3, (0, 0))
abbrev mX6_restore : am_M := (yX6_restore, cX6_restore, 2, (some .int), am_rm 3, (0, 0))
abbrev mX6_count : am_M := (yX6_count, cX6_count, 2, (some .int), am_rm 3, (0, 0))
abbrev mX6_isWithin : am_M := (yX6_isWithin, cX6_isWithin, 3, (some .boolean), am_rm 0, (0, 0))
abbrev mX6_isTick : am_M := (yX6_isTick, cX6_isTick, 1, (some .boolean), am_rm 1, (0, 0))
abbrev mX6_isArm : am_M := (yX6_isArm, cX6_isArm, 1, (some .boolean), am_rm 1, (0, 0))
abbrev mX6_isThing : am_M := (yX6_isThing, cX6_isThing, 2, (some .boolean), am_rm 1, (0, 0))
abbrev mX6_freshPlan : am_M := (yX6_freshPlan, cX6_freshPlan, 1, (some (.object "BeltArms$Plan")), am_rm 6, (0, 0))
abbrev mX7_in : am_M := (yX7_in, cX7_in, 3, (some .boolean), am_rm 0, (0, 0))
abbrev mX7_isTick : am_M := (yX7_isTick, cX7_isTick, 1, (some .boolean), am_rm 1, (0, 0))
abbrev mX7_isThing : am_M := (yX7_isThing, cX7_isThing, 2, (some .boolean), am_rm 1, (0, 0))
abbrev mX7_isArm : am_M := (yX7_isArm, cX7_isArm, 1, (some .boolean), am_rm 1, (0, 0))
abbrev mX7_size : am_M := (yX7_size, cX7_size, 1, (some .int), am_rm 0, (0, 0))
abbrev mX7_changes : am_M := (yX7_changes, cX7_changes, 3, (some .int), am_rm 0, (0, 0))
abbrev mX7_speedAt : am_M := (yX7_speedAt, cX7_speedAt, 3, (some .int), am_rm 0, (0, 0))
abbrev mX7_speed : am_M := (yX7_speed, cX7_speed, 4, (some .int), am_rm 2, (0, 0))
abbrev mX7_level : am_M := (yX7_level, cX7_level, 2, (some .int), am_rm 1, (0, 0))
abbrev mX7_layGone : am_M := (yX7_layGone, cX7_layGone, 2, none, am_rm 1, (0, 0))
abbrev mX7_gone : am_M := (yX7_gone, cX7_gone, 2, (some .int), am_rm 2, (0, 0))
abbrev mX7_placeOf : am_M := (yX7_placeOf, cX7_placeOf, 3, (some .int), am_rm 0, (0, 0))
abbrev mX7_wasSeen : am_M := (yX7_wasSeen, cX7_wasSeen, 3, (some .boolean), am_rm 0, (0, 0))
abbrev mX7_see : am_M := (yX7_see, cX7_see, 9, (some .int), am_rm 2, (0, 0))
abbrev mX7_drop : am_M := (yX7_drop, cX7_drop, 4, (some .int), am_rm 2, (0, 0))
abbrev mX7_place : am_M := (yX7_place, cX7_place, 3, (some .int), am_rm 2, (0, 0))
abbrev mX7_seenOf : am_M := (yX7_seenOf, cX7_seenOf, 4, (some .int), am_rm 1, (0, 0))
abbrev mX7_reach : am_M := (yX7_reach, cX7_reach, 5, (some .int), am_rm 2, (0, 0))
abbrev mX7_beat : am_M := (yX7_beat, cX7_beat, 4, (some .int), am_rm 2, (0, 0))
abbrev mX7_lanes : am_M := (yX7_lanes, cX7_lanes, 4, (some .int), am_rm 2, (0, 0))
abbrev mX7_canTake : am_M := (yX7_canTake, cX7_canTake, 7, (some .boolean), am_rm 1, (0, 0))
abbrev mX7_can : am_M := (yX7_can, cX7_can, 4, (some .int), am_rm 2, (0, 0))
abbrev mX7_layArms : am_M := (yX7_layArms, cX7_layArms, 6, none, am_rm 2, (0, 0))
abbrev mX7_slot : am_M := (yX7_slot, cX7_slot, 2, (some .int), am_rm 0, (0, 0))
abbrev mX7_find : am_M := (yX7_find, cX7_find, 8, (some .boolean), am_rm 1, (0, 0))
abbrev mX7_turn : am_M := (yX7_turn, cX7_turn, 7, none, am_rm 0, (0, 0))
abbrev mX7_most : am_M := (yX7_most, cX7_most, 4, (some .int), am_rm 2, (0, 0))
abbrev mX7_clear : am_M := (yX7_clear, cX7_clear, 2, none, am_rm 0, (0, 0))
abbrev mX7_layPlan : am_M := (yX7_layPlan, cX7_layPlan, 5, none, am_rm 3, (0, 0))
abbrev mX7_mostWithout : am_M := (yX7_mostWithout, cX7_mostWithout, 2, (some .int), am_rm 3, (0, 0))
abbrev mX7_layTrays : am_M := (yX7_layTrays, cX7_layTrays, 8, none, am_rm 0, (0, 0))
abbrev mX7_tray : am_M := (yX7_tray, cX7_tray, 3, (some .int), am_rm 4, (0, 0))
abbrev mX7_canAt : am_M := (yX7_canAt, cX7_canAt, 7, (some .int), am_rm 3, (0, 0))
abbrev mX7_planned : am_M := (yX7_planned, cX7_planned, 3, (some .int), am_rm 4, (0, 0))
abbrev mX7_thing : am_M := (yX7_thing, cX7_thing, 3, (some .int), am_rm 5, (0, 0))
abbrev mX7_takenBy : am_M := (yX7_takenBy, cX7_takenBy, 4, (some .int), am_rm 4, (0, 0))
abbrev mX7_arm : am_M := (yX7_arm, cX7_arm, 3, (some .int), am_rm 5, (0, 0))
abbrev mX7_takes : am_M := (yX7_takes, cX7_takes, 5, (some .int), am_rm 4, (0, 0))
abbrev mX7_inEach : am_M := (yX7_inEach, cX7_inEach, 4, (some .int), am_rm 4, (0, 0))
abbrev mX7_plan : am_M := (yX7_plan, cX7_plan, 5, (some .int), am_rm 5, (0, 0))
abbrev mX7_set : am_M := (yX7_set, cX7_set, 4, (some .int), am_rm 1, (0, 0))
abbrev mX7_image : am_M := (yX7_image, cX7_image, 3, (some .int), am_rm 1, (0, 0))
abbrev mX7_restore : am_M := (yX7_restore, cX7_restore, 3, (some .int), am_rm 1, (0, 0))
abbrev mX7_seenTwice : am_M := (yX7_seenTwice, cX7_seenTwice, 3, (some .int), am_rm 2, (0, 0))
abbrev mX7_ofKind : am_M := (yX7_ofKind, cX7_ofKind, 4, (some .int), am_rm 0, (0, 0))
abbrev mX7_count : am_M := (yX7_count, cX7_count, 2, (some .int), am_rm 3, (0, 0))
abbrev mJ13_bitCount_95d88 : am_M := (yJ13_bitCount_95d88, cJ13_bitCount_95d88, 2, (some .int), am_rm 0, (0, 0))
abbrev mJ9_floorMod_7cf53 : am_M := (yJ9_floorMod_7cf53, cJ9_floorMod_7cf53, 3, (some .int), am_rm 0, (0, 0))
abbrev mJ9_abs_0f7a4 : am_M := (yJ9_abs_0f7a4, cJ9_abs_0f7a4, 1, (some .int), am_rm 0, (0, 0))
abbrev mJ9_max_7cf53 : am_M := (yJ9_max_7cf53, cJ9_max_7cf53, 2, (some .int), am_rm 0, (0, 0))
abbrev mJ9_min_7cf53 : am_M := (yJ9_min_7cf53, cJ9_min_7cf53, 2, (some .int), am_rm 0, (0, 0))
abbrev mJ7_fill_53178 : am_M := (yJ7_fill_53178, cJ7_fill_53178, 4, none, am_rm 0, (0, 0))
def am_fitb (M y : am_M) : Bool := Nat.beq y.2.2.2.2.1.cells 0 && Nat.beq y.2.2.2.2.1.slots 0 && Nat.beq y.2.2.2.2.2.1 0 && Nat.beq y.2.2.2.2.2.2 0 && Nat.ble (y.2.2.2.2.1.frames + 1) M.2.2.2.2.1.frames && Nat.ble (8 + (y.2.2.1 + 11) + y.2.2.2.2.1.locals) M.2.2.2.2.1.locals && Nat.ble M.2.2.2.2.2.1 M.2.2.2.2.1.cells && Nat.ble M.2.2.2.2.2.2 M.2.2.2.2.1.slots
theorem am_fit_b {M y : am_M} (h : am_fitb M y = true) : am_fit M y := by
  simp only [am_fitb, Bool.and_eq_true] at h
  obtain ⟨⟨⟨⟨⟨⟨⟨h1, h2⟩, h3⟩, h4⟩, h5⟩, h6⟩, h7⟩, h8⟩ := h
  exact ⟨Nat.eq_of_beq_eq_true h1, Nat.eq_of_beq_eq_true h2, Prod.ext (Nat.eq_of_beq_eq_true h3) (Nat.eq_of_beq_eq_true h4), Nat.le_of_ble_eq_true h5, Nat.le_of_ble_eq_true h6, Nat.le_of_ble_eq_true h7, Nat.le_of_ble_eq_true h8⟩
theorem wtX0 : ∀ w ∈ u_ws RX0 TX0 5, w ∈ am_tb := List.forall_mem_cons.mpr ⟨(in_tb 152 (by decide +kernel) rfl), List.forall_mem_cons.mpr ⟨(in_tb 154 (by decide +kernel) rfl), List.forall_mem_cons.mpr ⟨(in_tb 156 (by decide +kernel) rfl), List.forall_mem_cons.mpr ⟨(in_tb 158 (by decide +kernel) rfl), List.forall_mem_cons.mpr ⟨(in_tb 160 (by decide +kernel) rfl), fun _ h => absurd h List.not_mem_nil⟩⟩⟩⟩⟩
theorem wtX1 : ∀ w ∈ u_ws RX1 TX1 5, w ∈ am_tb := List.forall_mem_cons.mpr ⟨(in_tb 82 (by decide +kernel) rfl), List.forall_mem_cons.mpr ⟨(in_tb 84 (by decide +kernel) rfl), List.forall_mem_cons.mpr ⟨(in_tb 86 (by decide +kernel) rfl), List.forall_mem_cons.mpr ⟨(in_tb 88 (by decide +kernel) rfl), List.forall_mem_cons.mpr ⟨(in_tb 90 (by decide +kernel) rfl), fun _ h => absurd h List.not_mem_nil⟩⟩⟩⟩⟩
theorem wtX2 : ∀ w ∈ u_ws RX2 TX2 11, w ∈ am_tb := List.forall_mem_cons.mpr ⟨(in_tb 208 (by decide +kernel) rfl), List.forall_mem_cons.mpr ⟨(in_tb 210 (by decide +kernel) rfl), List.forall_mem_cons.mpr ⟨(in_tb 212 (by decide +kernel) rfl), List.forall_mem_cons.mpr ⟨(in_tb 214 (by decide +kernel) rfl), List.forall_mem_cons.mpr ⟨(in_tb 216 (by decide +kernel) rfl), List.forall_mem_cons.mpr ⟨(in_tb 218 (by decide +kernel) rfl), List.forall_mem_cons.mpr ⟨(in_tb 220 (by decide +kernel) rfl), List.forall_mem_cons.mpr ⟨(in_tb 222 (by decide +kernel) rfl), List.forall_mem_cons.mpr ⟨(in_tb 224 (by decide +kernel) rfl), List.forall_mem_cons.mpr ⟨(in_tb 226 (by decide +kernel) rfl), List.forall_mem_cons.mpr ⟨(in_tb 228 (by decide +kernel) rfl), fun _ h => absurd h List.not_mem_nil⟩⟩⟩⟩⟩⟩⟩⟩⟩⟩⟩
theorem wtX3 : ∀ w ∈ u_ws RX3 TX3 5, w ∈ am_tb := List.forall_mem_cons.mpr ⟨(in_tb 177 (by decide +kernel) rfl), List.forall_mem_cons.mpr ⟨(in_tb 179 (by decide +kernel) rfl), List.forall_mem_cons.mpr ⟨(in_tb 181 (by decide +kernel) rfl), List.forall_mem_cons.mpr ⟨(in_tb 183 (by decide +kernel) rfl), List.forall_mem_cons.mpr ⟨(in_tb 185 (by decide +kernel) rfl), fun _ h => absurd h List.not_mem_nil⟩⟩⟩⟩⟩
theorem wtX4 : ∀ w ∈ u_ws RX4 TX4 6, w ∈ am_tb := List.forall_mem_cons.mpr ⟨(in_tb 118 (by decide +kernel) rfl), List.forall_mem_cons.mpr ⟨(in_tb 120 (by decide +kernel) rfl), List.forall_mem_cons.mpr ⟨(in_tb 122 (by decide +kernel) rfl), List.forall_mem_cons.mpr ⟨(in_tb 124 (by decide +kernel) rfl), List.forall_mem_cons.mpr ⟨(in_tb 126 (by decide +kernel) rfl), List.forall_mem_cons.mpr ⟨(in_tb 128 (by decide +kernel) rfl), fun _ h => absurd h List.not_mem_nil⟩⟩⟩⟩⟩⟩
theorem wtX5 : ∀ w ∈ u_ws RX5 TX5 2, w ∈ am_tb := List.forall_mem_cons.mpr ⟨(in_tb 241 (by decide +kernel) rfl), List.forall_mem_cons.mpr ⟨(in_tb 243 (by decide +kernel) rfl), fun _ h => absurd h List.not_mem_nil⟩⟩
theorem wtX6 : ∀ w ∈ u_ws RX6 TX6 7, w ∈ am_tb := List.forall_mem_cons.mpr ⟨(in_tb 253 (by decide +kernel) rfl), List.forall_mem_cons.mpr ⟨(in_tb 255 (by decide +kernel) rfl), List.forall_mem_cons.mpr ⟨(in_tb 257 (by decide +kernel) rfl), List.forall_mem_cons.mpr ⟨(in_tb 259 (by decide +kernel) rfl), List.forall_mem_cons.mpr ⟨(in_tb 261 (by decide +kernel) rfl), List.forall_mem_cons.mpr ⟨(in_tb 263 (by decide +kernel) rfl), List.forall_mem_cons.mpr ⟨(in_tb 265 (by decide +kernel) rfl), fun _ h => absurd h List.not_mem_nil⟩⟩⟩⟩⟩⟩⟩
theorem wtX7 : ∀ w ∈ u_ws RX7 TX7 16, w ∈ am_tb := List.forall_mem_cons.mpr ⟨(in_tb 639 (by decide +kernel) rfl), List.forall_mem_cons.mpr ⟨(in_tb 641 (by decide +kernel) rfl), List.forall_mem_cons.mpr ⟨(in_tb 643 (by decide +kernel) rfl), List.forall_mem_cons.mpr ⟨(in_tb 645 (by decide +kernel) rfl), List.forall_mem_cons.mpr ⟨(in_tb 647 (by decide +kernel) rfl), List.forall_mem_cons.mpr ⟨(in_tb 649 (by decide +kernel) rfl), List.forall_mem_cons.mpr ⟨(in_tb 651 (by decide +kernel) rfl), List.forall_mem_cons.mpr ⟨(in_tb 653 (by decide +kernel) rfl), List.forall_mem_cons.mpr ⟨(in_tb 655 (by decide +kernel) rfl), List.forall_mem_cons.mpr ⟨(in_tb 657 (by decide +kernel) rfl), List.forall_mem_cons.mpr ⟨(in_tb 659 (by decide +kernel) rfl), List.forall_mem_cons.mpr ⟨(in_tb 661 (by decide +kernel) rfl), List.forall_mem_cons.mpr ⟨(in_tb 663 (by decide +kernel) rfl), List.forall_mem_cons.mpr ⟨(in_tb 665 (by decide +kernel) rfl), List.forall_mem_cons.mpr ⟨(in_tb 667 (by decide +kernel) rfl), List.forall_mem_cons.mpr ⟨(in_tb 669 (by decide +kernel) rfl), fun _ h => absurd h List.not_mem_nil⟩⟩⟩⟩⟩⟩⟩⟩⟩⟩⟩⟩⟩⟩⟩⟩
theorem fX1_9 : am_fl RX1 9 1 0 := ⟨RX1, TX1, 5, rfl, by decide, wtX1, (in_tb 74 (by decide +kernel) rfl), rfl⟩
theorem pX1_9 : am_fp RX1 9 1 0 .int := ⟨RX1, TX1, 5, tyX1, rfl, by decide, wtX1, (in_tb 74 (by decide +kernel) rfl), rfl, tyX1_ok, nmX1, rfl, by decide +kernel⟩
theorem fX1_15 : am_fl RX1 15 1 1 := ⟨RX1, TX1, 5, rfl, by decide, wtX1, (in_tb 75 (by decide +kernel) rfl), rfl⟩
theorem pX1_15 : am_fp RX1 15 1 1 .int := ⟨RX1, TX1, 5, tyX1, rfl, by decide, wtX1, (in_tb 75 (by decide +kernel) rfl), rfl, tyX1_ok, nmX1, rfl, by decide +kernel⟩
theorem fX6_63 : am_fl RX6 63 1 1 := ⟨RX1, TX1, 5, rfl, by decide, wtX1, (in_tb 76 (by decide +kernel) rfl), rfl⟩
theorem pX6_63 : am_fp RX6 63 1 1 .int := ⟨RX1, TX1, 5, tyX1, rfl, by decide, wtX1, (in_tb 76 (by decide +kernel) rfl), rfl, tyX1_ok, nmX1, rfl, by decide +kernel⟩
theorem fX1_18 : am_fl RX1 18 1 2 := ⟨RX1, TX1, 5, rfl, by decide, wtX1, (in_tb 77 (by decide +kernel) rfl), rfl⟩
theorem fX1_22 : am_fl RX1 22 1 3 := ⟨RX1, TX1, 5, rfl, by decide, wtX1, (in_tb 78 (by decide +kernel) rfl), rfl⟩
theorem fX1_25 : am_fl RX1 25 1 4 := ⟨RX1, TX1, 5, rfl, by decide, wtX1, (in_tb 79 (by decide +kernel) rfl), rfl⟩
theorem fX3_53 : am_fl RX3 53 1 4 := ⟨RX1, TX1, 5, rfl, by decide, wtX1, (in_tb 80 (by decide +kernel) rfl), rfl⟩
theorem fX6_77 : am_fl RX6 77 1 4 := ⟨RX1, TX1, 5, rfl, by decide, wtX1, (in_tb 81 (by decide +kernel) rfl), rfl⟩
theorem fX4_11 : am_fl RX4 11 4 0 := ⟨RX4, TX4, 6, rfl, by decide, wtX4, (in_tb 100 (by decide +kernel) rfl), rfl⟩
theorem pX4_11 : am_fp RX4 11 4 0 .int := ⟨RX4, TX4, 6, tyX4, rfl, by decide, wtX4, (in_tb 100 (by decide +kernel) rfl), rfl, tyX4_ok, nmX4, rfl, by decide +kernel⟩
theorem fX2_52 : am_fl RX2 52 4 0 := ⟨RX4, TX4, 6, rfl, by decide, wtX4, (in_tb 101 (by decide +kernel) rfl), rfl⟩
theorem pX2_52 : am_fp RX2 52 4 0 .int := ⟨RX4, TX4, 6, tyX4, rfl, by decide, wtX4, (in_tb 101 (by decide +kernel) rfl), rfl, tyX4_ok, nmX4, rfl, by decide +kernel⟩
theorem fX3_59 : am_fl RX3 59 4 0 := ⟨RX4, TX4, 6, rfl, by decide, wtX4, (in_tb 102 (by decide +kernel) rfl), rfl⟩
theorem pX3_59 : am_fp RX3 59 4 0 .int := ⟨RX4, TX4, 6, tyX4, rfl, by decide, wtX4, (in_tb 102 (by decide +kernel) rfl), rfl, tyX4_ok, nmX4, rfl, by decide +kernel⟩
theorem fX6_94 : am_fl RX6 94 4 0 := ⟨RX4, TX4, 6, rfl, by decide, wtX4, (in_tb 103 (by decide +kernel) rfl), rfl⟩
theorem pX6_94 : am_fp RX6 94 4 0 .int := ⟨RX4, TX4, 6, tyX4, rfl, by decide, wtX4, (in_tb 103 (by decide +kernel) rfl), rfl, tyX4_ok, nmX4, rfl, by decide +kernel⟩
theorem fX4_15 : am_fl RX4 15 4 1 := ⟨RX4, TX4, 6, rfl, by decide, wtX4, (in_tb 104 (by decide +kernel) rfl), rfl⟩
theorem fX3_56 : am_fl RX3 56 4 1 := ⟨RX4, TX4, 6, rfl, by decide, wtX4, (in_tb 105 (by decide +kernel) rfl), rfl⟩
theorem fX6_107 : am_fl RX6 107 4 1 := ⟨RX4, TX4, 6, rfl, by decide, wtX4, (in_tb 106 (by decide +kernel) rfl), rfl⟩
theorem fX4_19 : am_fl RX4 19 4 2 := ⟨RX4, TX4, 6, rfl, by decide, wtX4, (in_tb 107 (by decide +kernel) rfl), rfl⟩
theorem fX3_62 : am_fl RX3 62 4 2 := ⟨RX4, TX4, 6, rfl, by decide, wtX4, (in_tb 108 (by decide +kernel) rfl), rfl⟩
theorem fX6_110 : am_fl RX6 110 4 2 := ⟨RX4, TX4, 6, rfl, by decide, wtX4, (in_tb 109 (by decide +kernel) rfl), rfl⟩
theorem fX4_22 : am_fl RX4 22 4 3 := ⟨RX4, TX4, 6, rfl, by decide, wtX4, (in_tb 110 (by decide +kernel) rfl), rfl⟩
theorem fX3_49 : am_fl RX3 49 4 3 := ⟨RX4, TX4, 6, rfl, by decide, wtX4, (in_tb 111 (by decide +kernel) rfl), rfl⟩
theorem fX6_113 : am_fl RX6 113 4 3 := ⟨RX4, TX4, 6, rfl, by decide, wtX4, (in_tb 112 (by decide +kernel) rfl), rfl⟩
theorem fX4_25 : am_fl RX4 25 4 4 := ⟨RX4, TX4, 6, rfl, by decide, wtX4, (in_tb 113 (by decide +kernel) rfl), rfl⟩
theorem fX5_36 : am_fl RX5 36 4 4 := ⟨RX4, TX4, 6, rfl, by decide, wtX4, (in_tb 114 (by decide +kernel) rfl), rfl⟩
theorem fX3_65 : am_fl RX3 65 4 4 := ⟨RX4, TX4, 6, rfl, by decide, wtX4, (in_tb 115 (by decide +kernel) rfl), rfl⟩
theorem fX6_116 : am_fl RX6 116 4 4 := ⟨RX4, TX4, 6, rfl, by decide, wtX4, (in_tb 116 (by decide +kernel) rfl), rfl⟩
theorem fX4_28 : am_fl RX4 28 4 5 := ⟨RX4, TX4, 6, rfl, by decide, wtX4, (in_tb 117 (by decide +kernel) rfl), rfl⟩
theorem fX0_9 : am_fl RX0 9 0 0 := ⟨RX0, TX0, 5, rfl, by decide, wtX0, (in_tb 138 (by decide +kernel) rfl), rfl⟩
theorem fX2_82 : am_fl RX2 82 0 0 := ⟨RX0, TX0, 5, rfl, by decide, wtX0, (in_tb 139 (by decide +kernel) rfl), rfl⟩
theorem fX3_91 : am_fl RX3 91 0 0 := ⟨RX0, TX0, 5, rfl, by decide, wtX0, (in_tb 140 (by decide +kernel) rfl), rfl⟩
theorem fX6_160 : am_fl RX6 160 0 0 := ⟨RX0, TX0, 5, rfl, by decide, wtX0, (in_tb 141 (by decide +kernel) rfl), rfl⟩
theorem fX0_15 : am_fl RX0 15 0 1 := ⟨RX0, TX0, 5, rfl, by decide, wtX0, (in_tb 142 (by decide +kernel) rfl), rfl⟩
theorem fX3_103 : am_fl RX3 103 0 1 := ⟨RX0, TX0, 5, rfl, by decide, wtX0, (in_tb 143 (by decide +kernel) rfl), rfl⟩
theorem fX6_163 : am_fl RX6 163 0 1 := ⟨RX0, TX0, 5, rfl, by decide, wtX0, (in_tb 144 (by decide +kernel) rfl), rfl⟩
theorem fX0_18 : am_fl RX0 18 0 2 := ⟨RX0, TX0, 5, rfl, by decide, wtX0, (in_tb 145 (by decide +kernel) rfl), rfl⟩
theorem fX3_118 : am_fl RX3 118 0 2 := ⟨RX0, TX0, 5, rfl, by decide, wtX0, (in_tb 146 (by decide +kernel) rfl), rfl⟩
theorem fX6_166 : am_fl RX6 166 0 2 := ⟨RX0, TX0, 5, rfl, by decide, wtX0, (in_tb 147 (by decide +kernel) rfl), rfl⟩
theorem fX0_21 : am_fl RX0 21 0 3 := ⟨RX0, TX0, 5, rfl, by decide, wtX0, (in_tb 148 (by decide +kernel) rfl), rfl⟩
theorem fX6_169 : am_fl RX6 169 0 3 := ⟨RX0, TX0, 5, rfl, by decide, wtX0, (in_tb 149 (by decide +kernel) rfl), rfl⟩
theorem fX0_24 : am_fl RX0 24 0 4 := ⟨RX0, TX0, 5, rfl, by decide, wtX0, (in_tb 150 (by decide +kernel) rfl), rfl⟩
theorem fX6_172 : am_fl RX6 172 0 4 := ⟨RX0, TX0, 5, rfl, by decide, wtX0, (in_tb 151 (by decide +kernel) rfl), rfl⟩
theorem fX3_12 : am_fl RX3 12 3 0 := ⟨RX3, TX3, 5, rfl, by decide, wtX3, (in_tb 163 (by decide +kernel) rfl), rfl⟩
theorem fX6_53 : am_fl RX6 53 3 0 := ⟨RX3, TX3, 5, rfl, by decide, wtX3, (in_tb 164 (by decide +kernel) rfl), rfl⟩
theorem fX3_21 : am_fl RX3 21 3 1 := ⟨RX3, TX3, 5, rfl, by decide, wtX3, (in_tb 165 (by decide +kernel) rfl), rfl⟩
theorem fX2_46 : am_fl RX2 46 3 1 := ⟨RX3, TX3, 5, rfl, by decide, wtX3, (in_tb 166 (by decide +kernel) rfl), rfl⟩
theorem fX5_30 : am_fl RX5 30 3 1 := ⟨RX3, TX3, 5, rfl, by decide, wtX3, (in_tb 167 (by decide +kernel) rfl), rfl⟩
theorem fX6_81 : am_fl RX6 81 3 1 := ⟨RX3, TX3, 5, rfl, by decide, wtX3, (in_tb 168 (by decide +kernel) rfl), rfl⟩
theorem fX3_28 : am_fl RX3 28 3 2 := ⟨RX3, TX3, 5, rfl, by decide, wtX3, (in_tb 169 (by decide +kernel) rfl), rfl⟩
theorem fX2_69 : am_fl RX2 69 3 2 := ⟨RX3, TX3, 5, rfl, by decide, wtX3, (in_tb 170 (by decide +kernel) rfl), rfl⟩
theorem fX6_151 : am_fl RX6 151 3 2 := ⟨RX3, TX3, 5, rfl, by decide, wtX3, (in_tb 171 (by decide +kernel) rfl), rfl⟩
theorem fX3_32 : am_fl RX3 32 3 3 := ⟨RX3, TX3, 5, rfl, by decide, wtX3, (in_tb 172 (by decide +kernel) rfl), rfl⟩
theorem pX3_32 : am_fp RX3 32 3 3 .int := ⟨RX3, TX3, 5, tyX3, rfl, by decide, wtX3, (in_tb 172 (by decide +kernel) rfl), rfl, tyX3_ok, nmX3, rfl, by decide +kernel⟩
theorem fX6_207 : am_fl RX6 207 3 3 := ⟨RX3, TX3, 5, rfl, by decide, wtX3, (in_tb 173 (by decide +kernel) rfl), rfl⟩
theorem pX6_207 : am_fp RX6 207 3 3 .int := ⟨RX3, TX3, 5, tyX3, rfl, by decide, wtX3, (in_tb 173 (by decide +kernel) rfl), rfl, tyX3_ok, nmX3, rfl, by decide +kernel⟩
theorem fX3_36 : am_fl RX3 36 3 4 := ⟨RX3, TX3, 5, rfl, by decide, wtX3, (in_tb 174 (by decide +kernel) rfl), rfl⟩
theorem pX3_36 : am_fp RX3 36 3 4 .int := ⟨RX3, TX3, 5, tyX3, rfl, by decide, wtX3, (in_tb 174 (by decide +kernel) rfl), rfl, tyX3_ok, nmX3, rfl, by decide +kernel⟩
theorem fX5_41 : am_fl RX5 41 3 4 := ⟨RX3, TX3, 5, rfl, by decide, wtX3, (in_tb 175 (by decide +kernel) rfl), rfl⟩
theorem pX5_41 : am_fp RX5 41 3 4 .int := ⟨RX3, TX3, 5, tyX3, rfl, by decide, wtX3, (in_tb 175 (by decide +kernel) rfl), rfl, tyX3_ok, nmX3, rfl, by decide +kernel⟩
theorem fX6_201 : am_fl RX6 201 3 4 := ⟨RX3, TX3, 5, rfl, by decide, wtX3, (in_tb 176 (by decide +kernel) rfl), rfl⟩
theorem pX6_201 : am_fp RX6 201 3 4 .int := ⟨RX3, TX3, 5, tyX3, rfl, by decide, wtX3, (in_tb 176 (by decide +kernel) rfl), rfl, tyX3_ok, nmX3, rfl, by decide +kernel⟩
theorem fX2_9 : am_fl RX2 9 2 0 := ⟨RX2, TX2, 11, rfl, by decide, wtX2, (in_tb 195 (by decide +kernel) rfl), rfl⟩
theorem pX2_9 : am_fp RX2 9 2 0 .int := ⟨RX2, TX2, 11, tyX2, rfl, by decide, wtX2, (in_tb 195 (by decide +kernel) rfl), rfl, tyX2_ok, nmX2, rfl, by decide +kernel⟩
theorem fX2_15 : am_fl RX2 15 2 1 := ⟨RX2, TX2, 11, rfl, by decide, wtX2, (in_tb 196 (by decide +kernel) rfl), rfl⟩
theorem pX2_15 : am_fp RX2 15 2 1 .int := ⟨RX2, TX2, 11, tyX2, rfl, by decide, wtX2, (in_tb 196 (by decide +kernel) rfl), rfl, tyX2_ok, nmX2, rfl, by decide +kernel⟩
theorem fX6_182 : am_fl RX6 182 2 1 := ⟨RX2, TX2, 11, rfl, by decide, wtX2, (in_tb 197 (by decide +kernel) rfl), rfl⟩
theorem pX6_182 : am_fp RX6 182 2 1 .int := ⟨RX2, TX2, 11, tyX2, rfl, by decide, wtX2, (in_tb 197 (by decide +kernel) rfl), rfl, tyX2_ok, nmX2, rfl, by decide +kernel⟩
theorem fX2_18 : am_fl RX2 18 2 2 := ⟨RX2, TX2, 11, rfl, by decide, wtX2, (in_tb 198 (by decide +kernel) rfl), rfl⟩
theorem fX2_22 : am_fl RX2 22 2 3 := ⟨RX2, TX2, 11, rfl, by decide, wtX2, (in_tb 199 (by decide +kernel) rfl), rfl⟩
theorem fX2_25 : am_fl RX2 25 2 4 := ⟨RX2, TX2, 11, rfl, by decide, wtX2, (in_tb 200 (by decide +kernel) rfl), rfl⟩
theorem fX5_49 : am_fn RX5 49 2 4 := ⟨RX2, TX2, 11, "BeltArms", rfl, by decide, wtX2, fun U h => h.1, rfl⟩
theorem fX2_28 : am_fl RX2 28 2 5 := ⟨RX2, TX2, 11, rfl, by decide, wtX2, (in_tb 202 (by decide +kernel) rfl), rfl⟩
theorem fX2_31 : am_fl RX2 31 2 6 := ⟨RX2, TX2, 11, rfl, by decide, wtX2, (in_tb 203 (by decide +kernel) rfl), rfl⟩
theorem fX2_34 : am_fl RX2 34 2 7 := ⟨RX2, TX2, 11, rfl, by decide, wtX2, (in_tb 204 (by decide +kernel) rfl), rfl⟩
theorem fX2_37 : am_fl RX2 37 2 8 := ⟨RX2, TX2, 11, rfl, by decide, wtX2, (in_tb 205 (by decide +kernel) rfl), rfl⟩
theorem pX2_37 : am_fp RX2 37 2 8 .int := ⟨RX2, TX2, 11, tyX2, rfl, by decide, wtX2, (in_tb 205 (by decide +kernel) rfl), rfl, tyX2_ok, nmX2, rfl, by decide +kernel⟩
theorem fX2_40 : am_fl RX2 40 2 9 := ⟨RX2, TX2, 11, rfl, by decide, wtX2, (in_tb 206 (by decide +kernel) rfl), rfl⟩
theorem pX2_40 : am_fp RX2 40 2 9 .int := ⟨RX2, TX2, 11, tyX2, rfl, by decide, wtX2, (in_tb 206 (by decide +kernel) rfl), rfl, tyX2_ok, nmX2, rfl, by decide +kernel⟩
theorem fX2_43 : am_fl RX2 43 2 10 := ⟨RX2, TX2, 11, rfl, by decide, wtX2, (in_tb 207 (by decide +kernel) rfl), rfl⟩
theorem pX2_43 : am_fp RX2 43 2 10 .int := ⟨RX2, TX2, 11, tyX2, rfl, by decide, wtX2, (in_tb 207 (by decide +kernel) rfl), rfl, tyX2_ok, nmX2, rfl, by decide +kernel⟩
theorem fX5_9 : am_fl RX5 9 5 0 := ⟨RX5, TX5, 2, rfl, by decide, wtX5, (in_tb 237 (by decide +kernel) rfl), rfl⟩
theorem fX6_132 : am_fl RX6 132 5 0 := ⟨RX5, TX5, 2, rfl, by decide, wtX5, (in_tb 238 (by decide +kernel) rfl), rfl⟩
theorem fX5_15 : am_fl RX5 15 5 1 := ⟨RX5, TX5, 2, rfl, by decide, wtX5, (in_tb 239 (by decide +kernel) rfl), rfl⟩
theorem fX6_204 : am_fl RX6 204 5 1 := ⟨RX5, TX5, 2, rfl, by decide, wtX5, (in_tb 240 (by decide +kernel) rfl), rfl⟩
theorem fX6_12 : am_fl RX6 12 6 0 := ⟨RX6, TX6, 7, rfl, by decide, wtX6, (in_tb 246 (by decide +kernel) rfl), rfl⟩
theorem fX6_16 : am_fl RX6 16 6 1 := ⟨RX6, TX6, 7, rfl, by decide, wtX6, (in_tb 247 (by decide +kernel) rfl), rfl⟩
theorem fX6_20 : am_fl RX6 20 6 2 := ⟨RX6, TX6, 7, rfl, by decide, wtX6, (in_tb 248 (by decide +kernel) rfl), rfl⟩
theorem pX6_20 : am_fp RX6 20 6 2 .int := ⟨RX6, TX6, 7, tyX6, rfl, by decide, wtX6, (in_tb 248 (by decide +kernel) rfl), rfl, tyX6_ok, nmX6, rfl, by decide +kernel⟩
theorem fX6_27 : am_fl RX6 27 6 3 := ⟨RX6, TX6, 7, rfl, by decide, wtX6, (in_tb 249 (by decide +kernel) rfl), rfl⟩
theorem fX6_31 : am_fl RX6 31 6 4 := ⟨RX6, TX6, 7, rfl, by decide, wtX6, (in_tb 250 (by decide +kernel) rfl), rfl⟩
theorem fX6_37 : am_fl RX6 37 6 5 := ⟨RX6, TX6, 7, rfl, by decide, wtX6, (in_tb 251 (by decide +kernel) rfl), rfl⟩
theorem fX6_41 : am_fl RX6 41 6 6 := ⟨RX6, TX6, 7, rfl, by decide, wtX6, (in_tb 252 (by decide +kernel) rfl), rfl⟩
theorem pX6_41 : am_fp RX6 41 6 6 .boolean := ⟨RX6, TX6, 7, tyX6, rfl, by decide, wtX6, (in_tb 252 (by decide +kernel) rfl), rfl, tyX6_ok, nmX6, rfl, by decide +kernel⟩
theorem fX7_7 : am_fl RX7 7 7 0 := ⟨RX7, TX7, 16, rfl, by decide, wtX7, (in_tb 623 (by decide +kernel) rfl), rfl⟩
theorem fX7_13 : am_fl RX7 13 7 1 := ⟨RX7, TX7, 16, rfl, by decide, wtX7, (in_tb 624 (by decide +kernel) rfl), rfl⟩
theorem fX7_16 : am_fl RX7 16 7 2 := ⟨RX7, TX7, 16, rfl, by decide, wtX7, (in_tb 625 (by decide +kernel) rfl), rfl⟩
theorem fX7_20 : am_fl RX7 20 7 3 := ⟨RX7, TX7, 16, rfl, by decide, wtX7, (in_tb 626 (by decide +kernel) rfl), rfl⟩
theorem fX7_23 : am_fl RX7 23 7 4 := ⟨RX7, TX7, 16, rfl, by decide, wtX7, (in_tb 627 (by decide +kernel) rfl), rfl⟩
theorem fX7_26 : am_fl RX7 26 7 5 := ⟨RX7, TX7, 16, rfl, by decide, wtX7, (in_tb 628 (by decide +kernel) rfl), rfl⟩
theorem fX7_29 : am_fl RX7 29 7 6 := ⟨RX7, TX7, 16, rfl, by decide, wtX7, (in_tb 629 (by decide +kernel) rfl), rfl⟩
theorem fX7_32 : am_fl RX7 32 7 7 := ⟨RX7, TX7, 16, rfl, by decide, wtX7, (in_tb 630 (by decide +kernel) rfl), rfl⟩
theorem fX7_35 : am_fl RX7 35 7 8 := ⟨RX7, TX7, 16, rfl, by decide, wtX7, (in_tb 631 (by decide +kernel) rfl), rfl⟩
theorem fX7_38 : am_fl RX7 38 7 9 := ⟨RX7, TX7, 16, rfl, by decide, wtX7, (in_tb 632 (by decide +kernel) rfl), rfl⟩
theorem fX7_41 : am_fl RX7 41 7 10 := ⟨RX7, TX7, 16, rfl, by decide, wtX7, (in_tb 633 (by decide +kernel) rfl), rfl⟩
theorem fX7_44 : am_fl RX7 44 7 11 := ⟨RX7, TX7, 16, rfl, by decide, wtX7, (in_tb 634 (by decide +kernel) rfl), rfl⟩
theorem fX7_47 : am_fl RX7 47 7 12 := ⟨RX7, TX7, 16, rfl, by decide, wtX7, (in_tb 635 (by decide +kernel) rfl), rfl⟩
theorem fX7_115 : am_fl RX7 115 7 13 := ⟨RX7, TX7, 16, rfl, by decide, wtX7, (in_tb 636 (by decide +kernel) rfl), rfl⟩
theorem pX7_115 : am_fp RX7 115 7 13 .int := ⟨RX7, TX7, 16, tyX7, rfl, by decide, wtX7, (in_tb 636 (by decide +kernel) rfl), rfl, tyX7_ok, nmX7, rfl, by decide +kernel⟩
theorem fX7_50 : am_fl RX7 50 7 14 := ⟨RX7, TX7, 16, rfl, by decide, wtX7, (in_tb 637 (by decide +kernel) rfl), rfl⟩
theorem fX7_53 : am_fl RX7 53 7 15 := ⟨RX7, TX7, 16, rfl, by decide, wtX7, (in_tb 638 (by decide +kernel) rfl), rfl⟩
theorem kX1_28 : am_lv' RX1 28 mX1_addUp 0 := ⟨⟨(in_tb 70 (by decide +kernel) rfl), (in_tb 73 (by decide +kernel) rfl), (in_tb 40 (by decide +kernel) rfl), by decide +kernel, by decide +kernel⟩, (in_tb 72 (by decide +kernel) rfl), (in_tb 0 (by decide +kernel) rfl)⟩
theorem kL_13 : am_lv' RL 13 mX6_speed 2 := ⟨⟨(in_tb 268 (by decide +kernel) rfl), (in_tb 271 (by decide +kernel) rfl), (in_tb 38 (by decide +kernel) rfl), by decide +kernel, by decide +kernel⟩, (in_tb 269 (by decide +kernel) rfl), (in_tb 270 (by decide +kernel) rfl)⟩
theorem kX6_45 : am_ls RX6 45 mX6_isTick 1 := ⟨⟨(in_tb 272 (by decide +kernel) rfl), (in_tb 274 (by decide +kernel) rfl), (in_tb 38 (by decide +kernel) rfl), by decide +kernel, by decide +kernel⟩, (in_tb 273 (by decide +kernel) rfl)⟩
theorem kX6_49 : am_ls RX6 49 mX6_isWithin 3 := ⟨⟨(in_tb 275 (by decide +kernel) rfl), (in_tb 277 (by decide +kernel) rfl), (in_tb 38 (by decide +kernel) rfl), by decide +kernel, by decide +kernel⟩, (in_tb 276 (by decide +kernel) rfl)⟩
theorem kX6_57 : am_lv' RX6 57 mX1_changeAt 1 := ⟨⟨(in_tb 278 (by decide +kernel) rfl), (in_tb 281 (by decide +kernel) rfl), (in_tb 40 (by decide +kernel) rfl), by decide +kernel, by decide +kernel⟩, (in_tb 279 (by decide +kernel) rfl), (in_tb 280 (by decide +kernel) rfl)⟩
theorem kX1_37 : am_lv' RX1 37 mX1_begunBy 1 := ⟨⟨(in_tb 282 (by decide +kernel) rfl), (in_tb 285 (by decide +kernel) rfl), (in_tb 40 (by decide +kernel) rfl), by decide +kernel, by decide +kernel⟩, (in_tb 284 (by decide +kernel) rfl), (in_tb 1 (by decide +kernel) rfl)⟩
theorem kX6_66 : am_lv' RX6 66 mX1_speedAt 1 := ⟨⟨(in_tb 286 (by decide +kernel) rfl), (in_tb 289 (by decide +kernel) rfl), (in_tb 40 (by decide +kernel) rfl), by decide +kernel, by decide +kernel⟩, (in_tb 287 (by decide +kernel) rfl), (in_tb 288 (by decide +kernel) rfl)⟩
theorem kX6_69 : am_lv' RX6 69 mX1_tell 2 := ⟨⟨(in_tb 290 (by decide +kernel) rfl), (in_tb 293 (by decide +kernel) rfl), (in_tb 40 (by decide +kernel) rfl), by decide +kernel, by decide +kernel⟩, (in_tb 291 (by decide +kernel) rfl), (in_tb 292 (by decide +kernel) rfl)⟩
theorem kX1_41 : am_lv' RX1 41 mX1_changeAt 1 := ⟨⟨(in_tb 294 (by decide +kernel) rfl), (in_tb 281 (by decide +kernel) rfl), (in_tb 40 (by decide +kernel) rfl), by decide +kernel, by decide +kernel⟩, (in_tb 279 (by decide +kernel) rfl), (in_tb 280 (by decide +kernel) rfl)⟩
theorem kX1_44 : am_lv' RX1 44 mX1_insert 3 := ⟨⟨(in_tb 295 (by decide +kernel) rfl), (in_tb 298 (by decide +kernel) rfl), (in_tb 40 (by decide +kernel) rfl), by decide +kernel, by decide +kernel⟩, (in_tb 297 (by decide +kernel) rfl), (in_tb 2 (by decide +kernel) rfl)⟩
theorem kL_18 : am_lv' RL 18 mX6_level 1 := ⟨⟨(in_tb 299 (by decide +kernel) rfl), (in_tb 302 (by decide +kernel) rfl), (in_tb 38 (by decide +kernel) rfl), by decide +kernel, by decide +kernel⟩, (in_tb 300 (by decide +kernel) rfl), (in_tb 301 (by decide +kernel) rfl)⟩
theorem kX6_73 : am_lv' RX6 73 mX1_forget 1 := ⟨⟨(in_tb 303 (by decide +kernel) rfl), (in_tb 306 (by decide +kernel) rfl), (in_tb 40 (by decide +kernel) rfl), by decide +kernel, by decide +kernel⟩, (in_tb 304 (by decide +kernel) rfl), (in_tb 305 (by decide +kernel) rfl)⟩
theorem kL_23 : am_lv' RL 23 mX6_gone 1 := ⟨⟨(in_tb 307 (by decide +kernel) rfl), (in_tb 310 (by decide +kernel) rfl), (in_tb 38 (by decide +kernel) rfl), by decide +kernel, by decide +kernel⟩, (in_tb 308 (by decide +kernel) rfl), (in_tb 309 (by decide +kernel) rfl)⟩
theorem kL_27 : am_lv' RL 27 mX6_see 4 := ⟨⟨(in_tb 311 (by decide +kernel) rfl), (in_tb 314 (by decide +kernel) rfl), (in_tb 38 (by decide +kernel) rfl), by decide +kernel, by decide +kernel⟩, (in_tb 312 (by decide +kernel) rfl), (in_tb 313 (by decide +kernel) rfl)⟩
theorem kX6_85 : am_lv' RX6 85 mX3_nearest 4 := ⟨⟨(in_tb 315 (by decide +kernel) rfl), (in_tb 318 (by decide +kernel) rfl), (in_tb 39 (by decide +kernel) rfl), by decide +kernel, by decide +kernel⟩, (in_tb 316 (by decide +kernel) rfl), (in_tb 317 (by decide +kernel) rfl)⟩
theorem kX3_68 : am_lv' RX3 68 mX4_wasSeen 2 := ⟨⟨(in_tb 319 (by decide +kernel) rfl), (in_tb 322 (by decide +kernel) rfl), (in_tb 41 (by decide +kernel) rfl), by decide +kernel, by decide +kernel⟩, (in_tb 320 (by decide +kernel) rfl), (in_tb 321 (by decide +kernel) rfl)⟩
theorem kX3_72 : am_lv' RX3 72 mX3_placeAt 2 := ⟨⟨(in_tb 323 (by decide +kernel) rfl), (in_tb 326 (by decide +kernel) rfl), (in_tb 39 (by decide +kernel) rfl), by decide +kernel, by decide +kernel⟩, (in_tb 324 (by decide +kernel) rfl), (in_tb 325 (by decide +kernel) rfl)⟩
theorem kX3_76 : am_ls RX3 76 mJ9_abs_0f7a4 1 := ⟨⟨(in_tb 327 (by decide +kernel) rfl), (in_tb 329 (by decide +kernel) rfl), (in_tb 46 (by decide +kernel) rfl), by decide +kernel, by decide +kernel⟩, (in_tb 328 (by decide +kernel) rfl)⟩
theorem kX6_89 : am_lv' RX6 89 mX4_markSeen 2 := ⟨⟨(in_tb 330 (by decide +kernel) rfl), (in_tb 333 (by decide +kernel) rfl), (in_tb 41 (by decide +kernel) rfl), by decide +kernel, by decide +kernel⟩, (in_tb 331 (by decide +kernel) rfl), (in_tb 332 (by decide +kernel) rfl)⟩
theorem kX6_97 : am_lv' RX6 97 mX4_append 4 := ⟨⟨(in_tb 334 (by decide +kernel) rfl), (in_tb 337 (by decide +kernel) rfl), (in_tb 41 (by decide +kernel) rfl), by decide +kernel, by decide +kernel⟩, (in_tb 335 (by decide +kernel) rfl), (in_tb 336 (by decide +kernel) rfl)⟩
theorem kX4_38 : am_lv' RX4 38 mX4_markSeen 2 := ⟨⟨(in_tb 338 (by decide +kernel) rfl), (in_tb 333 (by decide +kernel) rfl), (in_tb 41 (by decide +kernel) rfl), by decide +kernel, by decide +kernel⟩, (in_tb 331 (by decide +kernel) rfl), (in_tb 332 (by decide +kernel) rfl)⟩
theorem kL_32 : am_lv' RL 32 mX6_drop 1 := ⟨⟨(in_tb 339 (by decide +kernel) rfl), (in_tb 342 (by decide +kernel) rfl), (in_tb 38 (by decide +kernel) rfl), by decide +kernel, by decide +kernel⟩, (in_tb 340 (by decide +kernel) rfl), (in_tb 341 (by decide +kernel) rfl)⟩
theorem kX6_101 : am_lv' RX6 101 mX6_isThing 1 := ⟨⟨(in_tb 343 (by decide +kernel) rfl), (in_tb 346 (by decide +kernel) rfl), (in_tb 38 (by decide +kernel) rfl), by decide +kernel, by decide +kernel⟩, (in_tb 345 (by decide +kernel) rfl), (in_tb 3 (by decide +kernel) rfl)⟩
theorem kX6_104 : am_lv' RX6 104 mX4_remove 1 := ⟨⟨(in_tb 347 (by decide +kernel) rfl), (in_tb 350 (by decide +kernel) rfl), (in_tb 41 (by decide +kernel) rfl), by decide +kernel, by decide +kernel⟩, (in_tb 348 (by decide +kernel) rfl), (in_tb 349 (by decide +kernel) rfl)⟩
theorem kX4_32 : Cond.methodLink RX4 32 arraycopyName ∈ am_tb ∧ Cond.native arraycopyName ∈ am_tb ∧ Cond.static arraycopyName ∈ am_tb ∧ Cond.initialized "java/lang/System" ∈ am_tb := ⟨(in_tb 351 (by decide +kernel) rfl), (in_tb 353 (by decide +kernel) rfl), (in_tb 352 (by decide +kernel) rfl), (in_tb 47 (by decide +kernel) rfl)⟩
theorem kL_36 : am_lv' RL 36 mX6_thing 2 := ⟨⟨(in_tb 354 (by decide +kernel) rfl), (in_tb 357 (by decide +kernel) rfl), (in_tb 38 (by decide +kernel) rfl), by decide +kernel, by decide +kernel⟩, (in_tb 355 (by decide +kernel) rfl), (in_tb 356 (by decide +kernel) rfl)⟩
theorem kX6_119 : am_lv' RX6 119 mX4_timesSeen 1 := ⟨⟨(in_tb 358 (by decide +kernel) rfl), (in_tb 361 (by decide +kernel) rfl), (in_tb 41 (by decide +kernel) rfl), by decide +kernel, by decide +kernel⟩, (in_tb 359 (by decide +kernel) rfl), (in_tb 360 (by decide +kernel) rfl)⟩
theorem kX4_42 : am_ls RX4 42 mJ13_bitCount_95d88 1 := ⟨⟨(in_tb 362 (by decide +kernel) rfl), (in_tb 364 (by decide +kernel) rfl), (in_tb 48 (by decide +kernel) rfl), by decide +kernel, by decide +kernel⟩, (in_tb 363 (by decide +kernel) rfl)⟩
theorem kX6_122 : am_lv' RX6 122 mX6_freshPlan 0 := ⟨⟨(in_tb 368 (by decide +kernel) rfl), (in_tb 371 (by decide +kernel) rfl), (in_tb 38 (by decide +kernel) rfl), by decide +kernel, by decide +kernel⟩, (in_tb 370 (by decide +kernel) rfl), (in_tb 4 (by decide +kernel) rfl)⟩
theorem kX6_178 : am_lv' RX6 178 mX2_takeMost 2 := ⟨⟨(in_tb 372 (by decide +kernel) rfl), (in_tb 375 (by decide +kernel) rfl), (in_tb 43 (by decide +kernel) rfl), by decide +kernel, by decide +kernel⟩, (in_tb 373 (by decide +kernel) rfl), (in_tb 374 (by decide +kernel) rfl)⟩
theorem kX2_55 : am_ls RX2 55 mJ7_fill_53178 2 := ⟨⟨(in_tb 376 (by decide +kernel) rfl), (in_tb 378 (by decide +kernel) rfl), (in_tb 49 (by decide +kernel) rfl), by decide +kernel, by decide +kernel⟩, (in_tb 377 (by decide +kernel) rfl)⟩
theorem kX2_61 : am_lv' RX2 61 mX2_listSlots 3 := ⟨⟨(in_tb 379 (by decide +kernel) rfl), (in_tb 382 (by decide +kernel) rfl), (in_tb 43 (by decide +kernel) rfl), by decide +kernel, by decide +kernel⟩, (in_tb 381 (by decide +kernel) rfl), (in_tb 5 (by decide +kernel) rfl)⟩
theorem kX2_73 : am_lv' RX2 73 mX0_nextAlong 1 := ⟨⟨(in_tb 383 (by decide +kernel) rfl), (in_tb 386 (by decide +kernel) rfl), (in_tb 42 (by decide +kernel) rfl), by decide +kernel, by decide +kernel⟩, (in_tb 384 (by decide +kernel) rfl), (in_tb 385 (by decide +kernel) rfl)⟩
theorem kX2_79 : am_lv' RX2 79 mX2_listSlotsOf 3 := ⟨⟨(in_tb 387 (by decide +kernel) rfl), (in_tb 390 (by decide +kernel) rfl), (in_tb 43 (by decide +kernel) rfl), by decide +kernel, by decide +kernel⟩, (in_tb 389 (by decide +kernel) rfl), (in_tb 6 (by decide +kernel) rfl)⟩
theorem kX2_85 : am_lv' RX2 85 mX3_lastChanceOf 2 := ⟨⟨(in_tb 391 (by decide +kernel) rfl), (in_tb 394 (by decide +kernel) rfl), (in_tb 39 (by decide +kernel) rfl), by decide +kernel, by decide +kernel⟩, (in_tb 392 (by decide +kernel) rfl), (in_tb 393 (by decide +kernel) rfl)⟩
theorem kX3_85 : am_lv' RX3 85 mX0_hasLane 2 := ⟨⟨(in_tb 395 (by decide +kernel) rfl), (in_tb 398 (by decide +kernel) rfl), (in_tb 42 (by decide +kernel) rfl), by decide +kernel, by decide +kernel⟩, (in_tb 396 (by decide +kernel) rfl), (in_tb 397 (by decide +kernel) rfl)⟩
theorem kX3_94 : am_lv' RX3 94 mX1_firstTickGone 1 := ⟨⟨(in_tb 399 (by decide +kernel) rfl), (in_tb 402 (by decide +kernel) rfl), (in_tb 40 (by decide +kernel) rfl), by decide +kernel, by decide +kernel⟩, (in_tb 400 (by decide +kernel) rfl), (in_tb 401 (by decide +kernel) rfl)⟩
theorem kX3_106 : am_lv' RX3 106 mX0_beatTill 2 := ⟨⟨(in_tb 403 (by decide +kernel) rfl), (in_tb 406 (by decide +kernel) rfl), (in_tb 42 (by decide +kernel) rfl), by decide +kernel, by decide +kernel⟩, (in_tb 404 (by decide +kernel) rfl), (in_tb 405 (by decide +kernel) rfl)⟩
theorem kX0_41 : am_ls RX0 41 mJ9_max_7cf53 2 := ⟨⟨(in_tb 407 (by decide +kernel) rfl), (in_tb 409 (by decide +kernel) rfl), (in_tb 46 (by decide +kernel) rfl), by decide +kernel, by decide +kernel⟩, (in_tb 408 (by decide +kernel) rfl)⟩
theorem kX0_46 : am_ls RX0 46 mJ9_floorMod_7cf53 2 := ⟨⟨(in_tb 410 (by decide +kernel) rfl), (in_tb 412 (by decide +kernel) rfl), (in_tb 46 (by decide +kernel) rfl), by decide +kernel, by decide +kernel⟩, (in_tb 411 (by decide +kernel) rfl)⟩
theorem kX2_89 : am_lv' RX2 89 mX3_firstChanceOf 2 := ⟨⟨(in_tb 413 (by decide +kernel) rfl), (in_tb 416 (by decide +kernel) rfl), (in_tb 39 (by decide +kernel) rfl), by decide +kernel, by decide +kernel⟩, (in_tb 414 (by decide +kernel) rfl), (in_tb 415 (by decide +kernel) rfl)⟩
theorem kX3_97 : am_ls RX3 97 mJ9_max_7cf53 2 := ⟨⟨(in_tb 417 (by decide +kernel) rfl), (in_tb 409 (by decide +kernel) rfl), (in_tb 46 (by decide +kernel) rfl), by decide +kernel, by decide +kernel⟩, (in_tb 408 (by decide +kernel) rfl)⟩
theorem kX3_100 : am_lv' RX3 100 mX0_beatFrom 2 := ⟨⟨(in_tb 418 (by decide +kernel) rfl), (in_tb 421 (by decide +kernel) rfl), (in_tb 42 (by decide +kernel) rfl), by decide +kernel, by decide +kernel⟩, (in_tb 419 (by decide +kernel) rfl), (in_tb 420 (by decide +kernel) rfl)⟩
theorem kX2_92 : am_lv' RX2 92 mX0_beatFrom 2 := ⟨⟨(in_tb 422 (by decide +kernel) rfl), (in_tb 421 (by decide +kernel) rfl), (in_tb 42 (by decide +kernel) rfl), by decide +kernel, by decide +kernel⟩, (in_tb 419 (by decide +kernel) rfl), (in_tb 420 (by decide +kernel) rfl)⟩
theorem kX2_65 : am_lv' RX2 65 mX2_takeOneMore 1 := ⟨⟨(in_tb 423 (by decide +kernel) rfl), (in_tb 426 (by decide +kernel) rfl), (in_tb 43 (by decide +kernel) rfl), by decide +kernel, by decide +kernel⟩, (in_tb 425 (by decide +kernel) rfl), (in_tb 7 (by decide +kernel) rfl)⟩
theorem kX2_107 : am_lv' RX2 107 mX2_enqueue 2 := ⟨⟨(in_tb 427 (by decide +kernel) rfl), (in_tb 430 (by decide +kernel) rfl), (in_tb 43 (by decide +kernel) rfl), by decide +kernel, by decide +kernel⟩, (in_tb 429 (by decide +kernel) rfl), (in_tb 8 (by decide +kernel) rfl)⟩
theorem kX2_110 : am_lv' RX2 110 mX2_freeSlot 2 := ⟨⟨(in_tb 431 (by decide +kernel) rfl), (in_tb 434 (by decide +kernel) rfl), (in_tb 43 (by decide +kernel) rfl), by decide +kernel, by decide +kernel⟩, (in_tb 433 (by decide +kernel) rfl), (in_tb 9 (by decide +kernel) rfl)⟩
theorem kX2_113 : am_lv' RX2 113 mX2_moveUp 2 := ⟨⟨(in_tb 435 (by decide +kernel) rfl), (in_tb 438 (by decide +kernel) rfl), (in_tb 43 (by decide +kernel) rfl), by decide +kernel, by decide +kernel⟩, (in_tb 437 (by decide +kernel) rfl), (in_tb 10 (by decide +kernel) rfl)⟩
theorem kX2_103 : am_lv' RX2 103 mX2_hold 2 := ⟨⟨(in_tb 439 (by decide +kernel) rfl), (in_tb 442 (by decide +kernel) rfl), (in_tb 43 (by decide +kernel) rfl), by decide +kernel, by decide +kernel⟩, (in_tb 441 (by decide +kernel) rfl), (in_tb 11 (by decide +kernel) rfl)⟩
theorem kX6_220 : am_lv' RX6 220 mX2_settle 0 := ⟨⟨(in_tb 443 (by decide +kernel) rfl), (in_tb 446 (by decide +kernel) rfl), (in_tb 43 (by decide +kernel) rfl), by decide +kernel, by decide +kernel⟩, (in_tb 444 (by decide +kernel) rfl), (in_tb 445 (by decide +kernel) rfl)⟩
theorem kX2_95 : am_lv' RX2 95 mX2_settleAt 2 := ⟨⟨(in_tb 447 (by decide +kernel) rfl), (in_tb 450 (by decide +kernel) rfl), (in_tb 43 (by decide +kernel) rfl), by decide +kernel, by decide +kernel⟩, (in_tb 449 (by decide +kernel) rfl), (in_tb 12 (by decide +kernel) rfl)⟩
theorem kX2_99 : am_lv' RX2 99 mX2_leave 1 := ⟨⟨(in_tb 451 (by decide +kernel) rfl), (in_tb 454 (by decide +kernel) rfl), (in_tb 43 (by decide +kernel) rfl), by decide +kernel, by decide +kernel⟩, (in_tb 453 (by decide +kernel) rfl), (in_tb 13 (by decide +kernel) rfl)⟩
theorem kX6_223 : am_lv' RX6 223 mX5_lay 2 := ⟨⟨(in_tb 455 (by decide +kernel) rfl), (in_tb 458 (by decide +kernel) rfl), (in_tb 44 (by decide +kernel) rfl), by decide +kernel, by decide +kernel⟩, (in_tb 456 (by decide +kernel) rfl), (in_tb 457 (by decide +kernel) rfl)⟩
theorem kX5_18 : am_ls RX5 18 mJ7_fill_53178 2 := ⟨⟨(in_tb 459 (by decide +kernel) rfl), (in_tb 378 (by decide +kernel) rfl), (in_tb 49 (by decide +kernel) rfl), by decide +kernel, by decide +kernel⟩, (in_tb 377 (by decide +kernel) rfl)⟩
theorem kX5_24 : am_lv' RX5 24 mX2_nextTaken 1 := ⟨⟨(in_tb 460 (by decide +kernel) rfl), (in_tb 463 (by decide +kernel) rfl), (in_tb 43 (by decide +kernel) rfl), by decide +kernel, by decide +kernel⟩, (in_tb 461 (by decide +kernel) rfl), (in_tb 462 (by decide +kernel) rfl)⟩
theorem kX5_45 : am_lv' RX5 45 mX5_emptiest 2 := ⟨⟨(in_tb 464 (by decide +kernel) rfl), (in_tb 467 (by decide +kernel) rfl), (in_tb 44 (by decide +kernel) rfl), by decide +kernel, by decide +kernel⟩, (in_tb 466 (by decide +kernel) rfl), (in_tb 14 (by decide +kernel) rfl)⟩
theorem kX6_126 : am_lv' RX6 126 mX2_tickOf 1 := ⟨⟨(in_tb 468 (by decide +kernel) rfl), (in_tb 471 (by decide +kernel) rfl), (in_tb 43 (by decide +kernel) rfl), by decide +kernel, by decide +kernel⟩, (in_tb 469 (by decide +kernel) rfl), (in_tb 470 (by decide +kernel) rfl)⟩
theorem kX6_129 : am_lv' RX6 129 mX2_armOf 1 := ⟨⟨(in_tb 472 (by decide +kernel) rfl), (in_tb 475 (by decide +kernel) rfl), (in_tb 43 (by decide +kernel) rfl), by decide +kernel, by decide +kernel⟩, (in_tb 473 (by decide +kernel) rfl), (in_tb 474 (by decide +kernel) rfl)⟩
theorem kX6_135 : am_lv' RX6 135 mX3_firstChance 1 := ⟨⟨(in_tb 476 (by decide +kernel) rfl), (in_tb 479 (by decide +kernel) rfl), (in_tb 39 (by decide +kernel) rfl), by decide +kernel, by decide +kernel⟩, (in_tb 477 (by decide +kernel) rfl), (in_tb 478 (by decide +kernel) rfl)⟩
theorem kX3_109 : am_lv' RX3 109 mX3_firstChanceOf 2 := ⟨⟨(in_tb 480 (by decide +kernel) rfl), (in_tb 416 (by decide +kernel) rfl), (in_tb 39 (by decide +kernel) rfl), by decide +kernel, by decide +kernel⟩, (in_tb 414 (by decide +kernel) rfl), (in_tb 415 (by decide +kernel) rfl)⟩
theorem kX3_112 : am_lv' RX3 112 mX3_lastChanceOf 2 := ⟨⟨(in_tb 481 (by decide +kernel) rfl), (in_tb 394 (by decide +kernel) rfl), (in_tb 39 (by decide +kernel) rfl), by decide +kernel, by decide +kernel⟩, (in_tb 392 (by decide +kernel) rfl), (in_tb 393 (by decide +kernel) rfl)⟩
theorem kX3_115 : am_ls RX3 115 mJ9_min_7cf53 2 := ⟨⟨(in_tb 482 (by decide +kernel) rfl), (in_tb 484 (by decide +kernel) rfl), (in_tb 46 (by decide +kernel) rfl), by decide +kernel, by decide +kernel⟩, (in_tb 483 (by decide +kernel) rfl)⟩
theorem kX6_138 : am_lv' RX6 138 mX3_lastChance 1 := ⟨⟨(in_tb 485 (by decide +kernel) rfl), (in_tb 488 (by decide +kernel) rfl), (in_tb 39 (by decide +kernel) rfl), by decide +kernel, by decide +kernel⟩, (in_tb 486 (by decide +kernel) rfl), (in_tb 487 (by decide +kernel) rfl)⟩
theorem kX6_141 : am_lv' RX6 141 mX3_chances 1 := ⟨⟨(in_tb 489 (by decide +kernel) rfl), (in_tb 492 (by decide +kernel) rfl), (in_tb 39 (by decide +kernel) rfl), by decide +kernel, by decide +kernel⟩, (in_tb 490 (by decide +kernel) rfl), (in_tb 491 (by decide +kernel) rfl)⟩
theorem kL_40 : am_lv' RL 40 mX6_place 2 := ⟨⟨(in_tb 493 (by decide +kernel) rfl), (in_tb 496 (by decide +kernel) rfl), (in_tb 38 (by decide +kernel) rfl), by decide +kernel, by decide +kernel⟩, (in_tb 494 (by decide +kernel) rfl), (in_tb 495 (by decide +kernel) rfl)⟩
theorem kX6_144 : am_lv' RX6 144 mX3_placeAt 2 := ⟨⟨(in_tb 497 (by decide +kernel) rfl), (in_tb 326 (by decide +kernel) rfl), (in_tb 39 (by decide +kernel) rfl), by decide +kernel, by decide +kernel⟩, (in_tb 324 (by decide +kernel) rfl), (in_tb 325 (by decide +kernel) rfl)⟩
theorem kL_44 : am_lv' RL 44 mX6_reach 3 := ⟨⟨(in_tb 498 (by decide +kernel) rfl), (in_tb 501 (by decide +kernel) rfl), (in_tb 38 (by decide +kernel) rfl), by decide +kernel, by decide +kernel⟩, (in_tb 499 (by decide +kernel) rfl), (in_tb 500 (by decide +kernel) rfl)⟩
theorem kX6_148 : am_ls RX6 148 mX6_isArm 1 := ⟨⟨(in_tb 502 (by decide +kernel) rfl), (in_tb 504 (by decide +kernel) rfl), (in_tb 38 (by decide +kernel) rfl), by decide +kernel, by decide +kernel⟩, (in_tb 503 (by decide +kernel) rfl)⟩
theorem kX6_155 : am_lv' RX6 155 mX0_othersReach 3 := ⟨⟨(in_tb 505 (by decide +kernel) rfl), (in_tb 508 (by decide +kernel) rfl), (in_tb 42 (by decide +kernel) rfl), by decide +kernel, by decide +kernel⟩, (in_tb 506 (by decide +kernel) rfl), (in_tb 507 (by decide +kernel) rfl)⟩
theorem kL_49 : am_lv' RL 49 mX6_beat 3 := ⟨⟨(in_tb 509 (by decide +kernel) rfl), (in_tb 512 (by decide +kernel) rfl), (in_tb 38 (by decide +kernel) rfl), by decide +kernel, by decide +kernel⟩, (in_tb 510 (by decide +kernel) rfl), (in_tb 511 (by decide +kernel) rfl)⟩
theorem kL_53 : am_lv' RL 53 mX6_lanes 2 := ⟨⟨(in_tb 513 (by decide +kernel) rfl), (in_tb 516 (by decide +kernel) rfl), (in_tb 38 (by decide +kernel) rfl), by decide +kernel, by decide +kernel⟩, (in_tb 514 (by decide +kernel) rfl), (in_tb 515 (by decide +kernel) rfl)⟩
theorem kL_57 : am_lv' RL 57 mX6_arm 2 := ⟨⟨(in_tb 517 (by decide +kernel) rfl), (in_tb 520 (by decide +kernel) rfl), (in_tb 38 (by decide +kernel) rfl), by decide +kernel, by decide +kernel⟩, (in_tb 518 (by decide +kernel) rfl), (in_tb 519 (by decide +kernel) rfl)⟩
theorem kX6_175 : am_lv' RX6 175 mX2_takenBy 1 := ⟨⟨(in_tb 521 (by decide +kernel) rfl), (in_tb 524 (by decide +kernel) rfl), (in_tb 43 (by decide +kernel) rfl), by decide +kernel, by decide +kernel⟩, (in_tb 522 (by decide +kernel) rfl), (in_tb 523 (by decide +kernel) rfl)⟩
theorem kX2_116 : am_lv' RX2 116 mX2_armOf 1 := ⟨⟨(in_tb 525 (by decide +kernel) rfl), (in_tb 475 (by decide +kernel) rfl), (in_tb 43 (by decide +kernel) rfl), by decide +kernel, by decide +kernel⟩, (in_tb 473 (by decide +kernel) rfl), (in_tb 474 (by decide +kernel) rfl)⟩
theorem kL_61 : am_lv' RL 61 mX6_can 3 := ⟨⟨(in_tb 526 (by decide +kernel) rfl), (in_tb 529 (by decide +kernel) rfl), (in_tb 38 (by decide +kernel) rfl), by decide +kernel, by decide +kernel⟩, (in_tb 527 (by decide +kernel) rfl), (in_tb 528 (by decide +kernel) rfl)⟩
theorem kX6_185 : am_lv' RX6 185 mX3_canTake 3 := ⟨⟨(in_tb 530 (by decide +kernel) rfl), (in_tb 533 (by decide +kernel) rfl), (in_tb 39 (by decide +kernel) rfl), by decide +kernel, by decide +kernel⟩, (in_tb 531 (by decide +kernel) rfl), (in_tb 532 (by decide +kernel) rfl)⟩
theorem kX3_82 : am_lv' RX3 82 mX0_hasBeatAt 2 := ⟨⟨(in_tb 534 (by decide +kernel) rfl), (in_tb 537 (by decide +kernel) rfl), (in_tb 42 (by decide +kernel) rfl), by decide +kernel, by decide +kernel⟩, (in_tb 535 (by decide +kernel) rfl), (in_tb 536 (by decide +kernel) rfl)⟩
theorem kX0_37 : am_lv' RX0 37 mX0_beatFrom 2 := ⟨⟨(in_tb 538 (by decide +kernel) rfl), (in_tb 421 (by decide +kernel) rfl), (in_tb 42 (by decide +kernel) rfl), by decide +kernel, by decide +kernel⟩, (in_tb 419 (by decide +kernel) rfl), (in_tb 420 (by decide +kernel) rfl)⟩
theorem kX3_88 : am_lv' RX3 88 mX0_reaches 2 := ⟨⟨(in_tb 539 (by decide +kernel) rfl), (in_tb 542 (by decide +kernel) rfl), (in_tb 42 (by decide +kernel) rfl), by decide +kernel, by decide +kernel⟩, (in_tb 540 (by decide +kernel) rfl), (in_tb 541 (by decide +kernel) rfl)⟩
theorem kX0_33 : Cond.code mX6_isWithin.1 mX6_isWithin.2.1 mX6_isWithin.2.2.1 mX6_isWithin.2.2.2.1 ∈ am_tb ∧ Cond.initialized mX6_isWithin.1.cls ∈ am_tb ∧ (mX6_isWithin.1.cls ≠ "java/lang/invoke/MethodHandle" ∧ mX6_isWithin.1.cls ≠ "java/lang/invoke/VarHandle") ∧ (parseMethodDescriptor mX6_isWithin.1.desc).map (fun d => d.parameters.length) = some 3 ∧ Cond.static mX6_isWithin.1 ∈ am_tb := ⟨(in_tb 277 (by decide +kernel) rfl), (in_tb 38 (by decide +kernel) rfl), by decide +kernel, by decide +kernel, (in_tb 276 (by decide +kernel) rfl)⟩
theorem kL_65 : am_lv' RL 65 mX6_takes 2 := ⟨⟨(in_tb 544 (by decide +kernel) rfl), (in_tb 547 (by decide +kernel) rfl), (in_tb 38 (by decide +kernel) rfl), by decide +kernel, by decide +kernel⟩, (in_tb 545 (by decide +kernel) rfl), (in_tb 546 (by decide +kernel) rfl)⟩
theorem kX6_188 : am_lv' RX6 188 mX2_takenAt 2 := ⟨⟨(in_tb 548 (by decide +kernel) rfl), (in_tb 551 (by decide +kernel) rfl), (in_tb 43 (by decide +kernel) rfl), by decide +kernel, by decide +kernel⟩, (in_tb 549 (by decide +kernel) rfl), (in_tb 550 (by decide +kernel) rfl)⟩
theorem kL_69 : am_lv' RL 69 mX6_plan 1 := ⟨⟨(in_tb 552 (by decide +kernel) rfl), (in_tb 555 (by decide +kernel) rfl), (in_tb 38 (by decide +kernel) rfl), by decide +kernel, by decide +kernel⟩, (in_tb 553 (by decide +kernel) rfl), (in_tb 554 (by decide +kernel) rfl)⟩
theorem kX6_191 : am_lv' RX6 191 mX2_lastTick 0 := ⟨⟨(in_tb 556 (by decide +kernel) rfl), (in_tb 559 (by decide +kernel) rfl), (in_tb 43 (by decide +kernel) rfl), by decide +kernel, by decide +kernel⟩, (in_tb 557 (by decide +kernel) rfl), (in_tb 558 (by decide +kernel) rfl)⟩
theorem kX2_119 : am_lv' RX2 119 mX2_tickOf 1 := ⟨⟨(in_tb 560 (by decide +kernel) rfl), (in_tb 471 (by decide +kernel) rfl), (in_tb 43 (by decide +kernel) rfl), by decide +kernel, by decide +kernel⟩, (in_tb 469 (by decide +kernel) rfl), (in_tb 470 (by decide +kernel) rfl)⟩
theorem kX2_122 : am_ls RX2 122 mJ9_max_7cf53 2 := ⟨⟨(in_tb 561 (by decide +kernel) rfl), (in_tb 409 (by decide +kernel) rfl), (in_tb 46 (by decide +kernel) rfl), by decide +kernel, by decide +kernel⟩, (in_tb 408 (by decide +kernel) rfl)⟩
theorem kX6_195 : am_lv' RX6 195 mX2_missedSet 0 := ⟨⟨(in_tb 562 (by decide +kernel) rfl), (in_tb 565 (by decide +kernel) rfl), (in_tb 43 (by decide +kernel) rfl), by decide +kernel, by decide +kernel⟩, (in_tb 563 (by decide +kernel) rfl), (in_tb 564 (by decide +kernel) rfl)⟩
theorem kX6_198 : am_lv' RX6 198 mX2_neededSet 0 := ⟨⟨(in_tb 566 (by decide +kernel) rfl), (in_tb 569 (by decide +kernel) rfl), (in_tb 43 (by decide +kernel) rfl), by decide +kernel, by decide +kernel⟩, (in_tb 567 (by decide +kernel) rfl), (in_tb 568 (by decide +kernel) rfl)⟩
theorem kL_73 : am_lv' RL 73 mX6_tray 2 := ⟨⟨(in_tb 570 (by decide +kernel) rfl), (in_tb 573 (by decide +kernel) rfl), (in_tb 38 (by decide +kernel) rfl), by decide +kernel, by decide +kernel⟩, (in_tb 571 (by decide +kernel) rfl), (in_tb 572 (by decide +kernel) rfl)⟩
theorem kL_77 : am_lv' RL 77 mX6_set 2 := ⟨⟨(in_tb 574 (by decide +kernel) rfl), (in_tb 577 (by decide +kernel) rfl), (in_tb 38 (by decide +kernel) rfl), by decide +kernel, by decide +kernel⟩, (in_tb 575 (by decide +kernel) rfl), (in_tb 576 (by decide +kernel) rfl)⟩
theorem kL_81 : am_lv' RL 81 mX6_image 1 := ⟨⟨(in_tb 578 (by decide +kernel) rfl), (in_tb 581 (by decide +kernel) rfl), (in_tb 38 (by decide +kernel) rfl), by decide +kernel, by decide +kernel⟩, (in_tb 579 (by decide +kernel) rfl), (in_tb 580 (by decide +kernel) rfl)⟩
theorem kX6_210 : am_lv' RX6 210 mX3_copyFrom 1 := ⟨⟨(in_tb 582 (by decide +kernel) rfl), (in_tb 585 (by decide +kernel) rfl), (in_tb 39 (by decide +kernel) rfl), by decide +kernel, by decide +kernel⟩, (in_tb 583 (by decide +kernel) rfl), (in_tb 584 (by decide +kernel) rfl)⟩
theorem kX3_39 : am_lv' RX3 39 mX1_copyFrom 1 := ⟨⟨(in_tb 586 (by decide +kernel) rfl), (in_tb 589 (by decide +kernel) rfl), (in_tb 40 (by decide +kernel) rfl), by decide +kernel, by decide +kernel⟩, (in_tb 587 (by decide +kernel) rfl), (in_tb 588 (by decide +kernel) rfl)⟩
theorem kX1_31 : Cond.methodLink RX1 31 arraycopyName ∈ am_tb ∧ Cond.native arraycopyName ∈ am_tb ∧ Cond.static arraycopyName ∈ am_tb ∧ Cond.initialized "java/lang/System" ∈ am_tb := ⟨(in_tb 590 (by decide +kernel) rfl), (in_tb 353 (by decide +kernel) rfl), (in_tb 352 (by decide +kernel) rfl), (in_tb 47 (by decide +kernel) rfl)⟩
theorem kX3_43 : am_lv' RX3 43 mX4_copyFrom 1 := ⟨⟨(in_tb 591 (by decide +kernel) rfl), (in_tb 594 (by decide +kernel) rfl), (in_tb 41 (by decide +kernel) rfl), by decide +kernel, by decide +kernel⟩, (in_tb 592 (by decide +kernel) rfl), (in_tb 593 (by decide +kernel) rfl)⟩
theorem kX3_46 : am_lv' RX3 46 mX0_copyFrom 1 := ⟨⟨(in_tb 595 (by decide +kernel) rfl), (in_tb 598 (by decide +kernel) rfl), (in_tb 42 (by decide +kernel) rfl), by decide +kernel, by decide +kernel⟩, (in_tb 596 (by decide +kernel) rfl), (in_tb 597 (by decide +kernel) rfl)⟩
theorem kX0_27 : Cond.methodLink RX0 27 arraycopyName ∈ am_tb ∧ Cond.native arraycopyName ∈ am_tb ∧ Cond.static arraycopyName ∈ am_tb ∧ Cond.initialized "java/lang/System" ∈ am_tb := ⟨(in_tb 599 (by decide +kernel) rfl), (in_tb 353 (by decide +kernel) rfl), (in_tb 352 (by decide +kernel) rfl), (in_tb 47 (by decide +kernel) rfl)⟩
theorem kL_85 : am_lv' RL 85 mX6_restore 1 := ⟨⟨(in_tb 600 (by decide +kernel) rfl), (in_tb 603 (by decide +kernel) rfl), (in_tb 38 (by decide +kernel) rfl), by decide +kernel, by decide +kernel⟩, (in_tb 601 (by decide +kernel) rfl), (in_tb 602 (by decide +kernel) rfl)⟩
theorem kL_89 : am_lv' RL 89 mX6_count 1 := ⟨⟨(in_tb 604 (by decide +kernel) rfl), (in_tb 607 (by decide +kernel) rfl), (in_tb 38 (by decide +kernel) rfl), by decide +kernel, by decide +kernel⟩, (in_tb 605 (by decide +kernel) rfl), (in_tb 606 (by decide +kernel) rfl)⟩
theorem kX6_214 : am_lv' RX6 214 mX4_seenOften 0 := ⟨⟨(in_tb 608 (by decide +kernel) rfl), (in_tb 611 (by decide +kernel) rfl), (in_tb 41 (by decide +kernel) rfl), by decide +kernel, by decide +kernel⟩, (in_tb 609 (by decide +kernel) rfl), (in_tb 610 (by decide +kernel) rfl)⟩
theorem kX4_48 : am_lv' RX4 48 mX4_timesSeen 1 := ⟨⟨(in_tb 612 (by decide +kernel) rfl), (in_tb 361 (by decide +kernel) rfl), (in_tb 41 (by decide +kernel) rfl), by decide +kernel, by decide +kernel⟩, (in_tb 359 (by decide +kernel) rfl), (in_tb 360 (by decide +kernel) rfl)⟩
theorem kX6_217 : am_lv' RX6 217 mX4_ofKind 1 := ⟨⟨(in_tb 613 (by decide +kernel) rfl), (in_tb 616 (by decide +kernel) rfl), (in_tb 41 (by decide +kernel) rfl), by decide +kernel, by decide +kernel⟩, (in_tb 614 (by decide +kernel) rfl), (in_tb 615 (by decide +kernel) rfl)⟩
theorem kL_17 : am_lv' RL 17 mX7_speed 2 := ⟨⟨(in_tb 673 (by decide +kernel) rfl), (in_tb 676 (by decide +kernel) rfl), (in_tb 45 (by decide +kernel) rfl), by decide +kernel, by decide +kernel⟩, (in_tb 674 (by decide +kernel) rfl), (in_tb 675 (by decide +kernel) rfl)⟩
theorem kX7_60 : am_ls RX7 60 mX7_isTick 1 := ⟨⟨(in_tb 677 (by decide +kernel) rfl), (in_tb 679 (by decide +kernel) rfl), (in_tb 45 (by decide +kernel) rfl), by decide +kernel, by decide +kernel⟩, (in_tb 678 (by decide +kernel) rfl)⟩
theorem kX7_56 : am_ls RX7 56 mX7_in 3 := ⟨⟨(in_tb 680 (by decide +kernel) rfl), (in_tb 682 (by decide +kernel) rfl), (in_tb 45 (by decide +kernel) rfl), by decide +kernel, by decide +kernel⟩, (in_tb 681 (by decide +kernel) rfl)⟩
theorem kX7_64 : am_lv' RX7 64 mX7_changes 0 := ⟨⟨(in_tb 683 (by decide +kernel) rfl), (in_tb 686 (by decide +kernel) rfl), (in_tb 45 (by decide +kernel) rfl), by decide +kernel, by decide +kernel⟩, (in_tb 685 (by decide +kernel) rfl), (in_tb 15 (by decide +kernel) rfl)⟩
theorem kX7_68 : am_lv' RX7 68 mX7_speedAt 1 := ⟨⟨(in_tb 687 (by decide +kernel) rfl), (in_tb 690 (by decide +kernel) rfl), (in_tb 45 (by decide +kernel) rfl), by decide +kernel, by decide +kernel⟩, (in_tb 689 (by decide +kernel) rfl), (in_tb 16 (by decide +kernel) rfl)⟩
theorem kL_22 : am_lv' RL 22 mX7_level 1 := ⟨⟨(in_tb 691 (by decide +kernel) rfl), (in_tb 694 (by decide +kernel) rfl), (in_tb 45 (by decide +kernel) rfl), by decide +kernel, by decide +kernel⟩, (in_tb 692 (by decide +kernel) rfl), (in_tb 693 (by decide +kernel) rfl)⟩
theorem kL_26 : am_lv' RL 26 mX7_gone 1 := ⟨⟨(in_tb 695 (by decide +kernel) rfl), (in_tb 698 (by decide +kernel) rfl), (in_tb 45 (by decide +kernel) rfl), by decide +kernel, by decide +kernel⟩, (in_tb 696 (by decide +kernel) rfl), (in_tb 697 (by decide +kernel) rfl)⟩
theorem kX7_72 : am_lv' RX7 72 mX7_layGone 0 := ⟨⟨(in_tb 699 (by decide +kernel) rfl), (in_tb 702 (by decide +kernel) rfl), (in_tb 45 (by decide +kernel) rfl), by decide +kernel, by decide +kernel⟩, (in_tb 701 (by decide +kernel) rfl), (in_tb 17 (by decide +kernel) rfl)⟩
theorem kL_31 : am_lv' RL 31 mX7_see 4 := ⟨⟨(in_tb 703 (by decide +kernel) rfl), (in_tb 706 (by decide +kernel) rfl), (in_tb 45 (by decide +kernel) rfl), by decide +kernel, by decide +kernel⟩, (in_tb 704 (by decide +kernel) rfl), (in_tb 705 (by decide +kernel) rfl)⟩
theorem kX7_75 : am_lv' RX7 75 mX7_placeOf 2 := ⟨⟨(in_tb 707 (by decide +kernel) rfl), (in_tb 710 (by decide +kernel) rfl), (in_tb 45 (by decide +kernel) rfl), by decide +kernel, by decide +kernel⟩, (in_tb 709 (by decide +kernel) rfl), (in_tb 18 (by decide +kernel) rfl)⟩
theorem kX7_79 : am_ls RX7 79 mX7_size 1 := ⟨⟨(in_tb 711 (by decide +kernel) rfl), (in_tb 713 (by decide +kernel) rfl), (in_tb 45 (by decide +kernel) rfl), by decide +kernel, by decide +kernel⟩, (in_tb 712 (by decide +kernel) rfl)⟩
theorem kX7_82 : am_lv' RX7 82 mX7_wasSeen 2 := ⟨⟨(in_tb 714 (by decide +kernel) rfl), (in_tb 717 (by decide +kernel) rfl), (in_tb 45 (by decide +kernel) rfl), by decide +kernel, by decide +kernel⟩, (in_tb 716 (by decide +kernel) rfl), (in_tb 19 (by decide +kernel) rfl)⟩
theorem kL_35 : am_lv' RL 35 mX7_drop 1 := ⟨⟨(in_tb 718 (by decide +kernel) rfl), (in_tb 721 (by decide +kernel) rfl), (in_tb 45 (by decide +kernel) rfl), by decide +kernel, by decide +kernel⟩, (in_tb 719 (by decide +kernel) rfl), (in_tb 720 (by decide +kernel) rfl)⟩
theorem kX7_86 : am_lv' RX7 86 mX7_isThing 1 := ⟨⟨(in_tb 722 (by decide +kernel) rfl), (in_tb 725 (by decide +kernel) rfl), (in_tb 45 (by decide +kernel) rfl), by decide +kernel, by decide +kernel⟩, (in_tb 724 (by decide +kernel) rfl), (in_tb 20 (by decide +kernel) rfl)⟩
theorem kL_43 : am_lv' RL 43 mX7_place 2 := ⟨⟨(in_tb 726 (by decide +kernel) rfl), (in_tb 729 (by decide +kernel) rfl), (in_tb 45 (by decide +kernel) rfl), by decide +kernel, by decide +kernel⟩, (in_tb 727 (by decide +kernel) rfl), (in_tb 728 (by decide +kernel) rfl)⟩
theorem kL_48 : am_lv' RL 48 mX7_reach 3 := ⟨⟨(in_tb 730 (by decide +kernel) rfl), (in_tb 733 (by decide +kernel) rfl), (in_tb 45 (by decide +kernel) rfl), by decide +kernel, by decide +kernel⟩, (in_tb 731 (by decide +kernel) rfl), (in_tb 732 (by decide +kernel) rfl)⟩
theorem kX7_89 : am_ls RX7 89 mX7_isArm 1 := ⟨⟨(in_tb 734 (by decide +kernel) rfl), (in_tb 736 (by decide +kernel) rfl), (in_tb 45 (by decide +kernel) rfl), by decide +kernel, by decide +kernel⟩, (in_tb 735 (by decide +kernel) rfl)⟩
theorem kL_52 : am_lv' RL 52 mX7_beat 3 := ⟨⟨(in_tb 737 (by decide +kernel) rfl), (in_tb 740 (by decide +kernel) rfl), (in_tb 45 (by decide +kernel) rfl), by decide +kernel, by decide +kernel⟩, (in_tb 738 (by decide +kernel) rfl), (in_tb 739 (by decide +kernel) rfl)⟩
theorem kL_56 : am_lv' RL 56 mX7_lanes 2 := ⟨⟨(in_tb 741 (by decide +kernel) rfl), (in_tb 744 (by decide +kernel) rfl), (in_tb 45 (by decide +kernel) rfl), by decide +kernel, by decide +kernel⟩, (in_tb 742 (by decide +kernel) rfl), (in_tb 743 (by decide +kernel) rfl)⟩
theorem kL_64 : am_lv' RL 64 mX7_can 3 := ⟨⟨(in_tb 745 (by decide +kernel) rfl), (in_tb 748 (by decide +kernel) rfl), (in_tb 45 (by decide +kernel) rfl), by decide +kernel, by decide +kernel⟩, (in_tb 746 (by decide +kernel) rfl), (in_tb 747 (by decide +kernel) rfl)⟩
theorem kX7_92 : am_lv' RX7 92 mX7_canTake 3 := ⟨⟨(in_tb 749 (by decide +kernel) rfl), (in_tb 752 (by decide +kernel) rfl), (in_tb 45 (by decide +kernel) rfl), by decide +kernel, by decide +kernel⟩, (in_tb 751 (by decide +kernel) rfl), (in_tb 21 (by decide +kernel) rfl)⟩
theorem kL_76 : am_lv' RL 76 mX7_tray 2 := ⟨⟨(in_tb 753 (by decide +kernel) rfl), (in_tb 756 (by decide +kernel) rfl), (in_tb 45 (by decide +kernel) rfl), by decide +kernel, by decide +kernel⟩, (in_tb 754 (by decide +kernel) rfl), (in_tb 755 (by decide +kernel) rfl)⟩
theorem kX7_119 : am_lv' RX7 119 mX7_layPlan 0 := ⟨⟨(in_tb 757 (by decide +kernel) rfl), (in_tb 760 (by decide +kernel) rfl), (in_tb 45 (by decide +kernel) rfl), by decide +kernel, by decide +kernel⟩, (in_tb 759 (by decide +kernel) rfl), (in_tb 22 (by decide +kernel) rfl)⟩
theorem kX7_105 : am_lv' RX7 105 mX7_layArms 1 := ⟨⟨(in_tb 761 (by decide +kernel) rfl), (in_tb 764 (by decide +kernel) rfl), (in_tb 45 (by decide +kernel) rfl), by decide +kernel, by decide +kernel⟩, (in_tb 763 (by decide +kernel) rfl), (in_tb 23 (by decide +kernel) rfl)⟩
theorem kX7_109 : am_lv' RX7 109 mX7_clear 0 := ⟨⟨(in_tb 765 (by decide +kernel) rfl), (in_tb 768 (by decide +kernel) rfl), (in_tb 45 (by decide +kernel) rfl), by decide +kernel, by decide +kernel⟩, (in_tb 767 (by decide +kernel) rfl), (in_tb 24 (by decide +kernel) rfl)⟩
theorem kX7_112 : am_lv' RX7 112 mX7_most 1 := ⟨⟨(in_tb 769 (by decide +kernel) rfl), (in_tb 772 (by decide +kernel) rfl), (in_tb 45 (by decide +kernel) rfl), by decide +kernel, by decide +kernel⟩, (in_tb 771 (by decide +kernel) rfl), (in_tb 25 (by decide +kernel) rfl)⟩
theorem kX7_102 : am_lv' RX7 102 mX7_find 1 := ⟨⟨(in_tb 773 (by decide +kernel) rfl), (in_tb 776 (by decide +kernel) rfl), (in_tb 45 (by decide +kernel) rfl), by decide +kernel, by decide +kernel⟩, (in_tb 775 (by decide +kernel) rfl), (in_tb 26 (by decide +kernel) rfl)⟩
theorem kX7_95 : am_ls RX7 95 mX7_slot 2 := ⟨⟨(in_tb 777 (by decide +kernel) rfl), (in_tb 779 (by decide +kernel) rfl), (in_tb 45 (by decide +kernel) rfl), by decide +kernel, by decide +kernel⟩, (in_tb 778 (by decide +kernel) rfl)⟩
theorem kX7_98 : am_lv' RX7 98 mX7_turn 2 := ⟨⟨(in_tb 780 (by decide +kernel) rfl), (in_tb 783 (by decide +kernel) rfl), (in_tb 45 (by decide +kernel) rfl), by decide +kernel, by decide +kernel⟩, (in_tb 782 (by decide +kernel) rfl), (in_tb 27 (by decide +kernel) rfl)⟩
theorem kX7_122 : am_lv' RX7 122 mX7_layTrays 0 := ⟨⟨(in_tb 784 (by decide +kernel) rfl), (in_tb 787 (by decide +kernel) rfl), (in_tb 45 (by decide +kernel) rfl), by decide +kernel, by decide +kernel⟩, (in_tb 786 (by decide +kernel) rfl), (in_tb 28 (by decide +kernel) rfl)⟩
theorem kL_39 : am_lv' RL 39 mX7_thing 2 := ⟨⟨(in_tb 788 (by decide +kernel) rfl), (in_tb 791 (by decide +kernel) rfl), (in_tb 45 (by decide +kernel) rfl), by decide +kernel, by decide +kernel⟩, (in_tb 789 (by decide +kernel) rfl), (in_tb 790 (by decide +kernel) rfl)⟩
theorem kX7_125 : am_lv' RX7 125 mX7_seenOf 1 := ⟨⟨(in_tb 792 (by decide +kernel) rfl), (in_tb 795 (by decide +kernel) rfl), (in_tb 45 (by decide +kernel) rfl), by decide +kernel, by decide +kernel⟩, (in_tb 794 (by decide +kernel) rfl), (in_tb 29 (by decide +kernel) rfl)⟩
theorem kX7_128 : am_lv' RX7 128 mX7_planned 2 := ⟨⟨(in_tb 796 (by decide +kernel) rfl), (in_tb 799 (by decide +kernel) rfl), (in_tb 45 (by decide +kernel) rfl), by decide +kernel, by decide +kernel⟩, (in_tb 798 (by decide +kernel) rfl), (in_tb 30 (by decide +kernel) rfl)⟩
theorem kX7_131 : am_lv' RX7 131 mX7_canAt 2 := ⟨⟨(in_tb 800 (by decide +kernel) rfl), (in_tb 803 (by decide +kernel) rfl), (in_tb 45 (by decide +kernel) rfl), by decide +kernel, by decide +kernel⟩, (in_tb 802 (by decide +kernel) rfl), (in_tb 31 (by decide +kernel) rfl)⟩
theorem kL_60 : am_lv' RL 60 mX7_arm 2 := ⟨⟨(in_tb 804 (by decide +kernel) rfl), (in_tb 807 (by decide +kernel) rfl), (in_tb 45 (by decide +kernel) rfl), by decide +kernel, by decide +kernel⟩, (in_tb 805 (by decide +kernel) rfl), (in_tb 806 (by decide +kernel) rfl)⟩
theorem kX7_134 : am_lv' RX7 134 mX7_takenBy 1 := ⟨⟨(in_tb 808 (by decide +kernel) rfl), (in_tb 811 (by decide +kernel) rfl), (in_tb 45 (by decide +kernel) rfl), by decide +kernel, by decide +kernel⟩, (in_tb 810 (by decide +kernel) rfl), (in_tb 32 (by decide +kernel) rfl)⟩
theorem kX7_137 : am_lv' RX7 137 mX7_mostWithout 1 := ⟨⟨(in_tb 812 (by decide +kernel) rfl), (in_tb 815 (by decide +kernel) rfl), (in_tb 45 (by decide +kernel) rfl), by decide +kernel, by decide +kernel⟩, (in_tb 814 (by decide +kernel) rfl), (in_tb 33 (by decide +kernel) rfl)⟩
theorem kL_68 : am_lv' RL 68 mX7_takes 2 := ⟨⟨(in_tb 816 (by decide +kernel) rfl), (in_tb 819 (by decide +kernel) rfl), (in_tb 45 (by decide +kernel) rfl), by decide +kernel, by decide +kernel⟩, (in_tb 817 (by decide +kernel) rfl), (in_tb 818 (by decide +kernel) rfl)⟩
theorem kL_72 : am_lv' RL 72 mX7_plan 1 := ⟨⟨(in_tb 820 (by decide +kernel) rfl), (in_tb 823 (by decide +kernel) rfl), (in_tb 45 (by decide +kernel) rfl), by decide +kernel, by decide +kernel⟩, (in_tb 821 (by decide +kernel) rfl), (in_tb 822 (by decide +kernel) rfl)⟩
theorem kX7_140 : am_lv' RX7 140 mX7_inEach 0 := ⟨⟨(in_tb 824 (by decide +kernel) rfl), (in_tb 827 (by decide +kernel) rfl), (in_tb 45 (by decide +kernel) rfl), by decide +kernel, by decide +kernel⟩, (in_tb 826 (by decide +kernel) rfl), (in_tb 34 (by decide +kernel) rfl)⟩
theorem kL_80 : am_lv' RL 80 mX7_set 2 := ⟨⟨(in_tb 828 (by decide +kernel) rfl), (in_tb 831 (by decide +kernel) rfl), (in_tb 45 (by decide +kernel) rfl), by decide +kernel, by decide +kernel⟩, (in_tb 829 (by decide +kernel) rfl), (in_tb 830 (by decide +kernel) rfl)⟩
theorem kL_84 : am_lv' RL 84 mX7_image 1 := ⟨⟨(in_tb 832 (by decide +kernel) rfl), (in_tb 835 (by decide +kernel) rfl), (in_tb 45 (by decide +kernel) rfl), by decide +kernel, by decide +kernel⟩, (in_tb 833 (by decide +kernel) rfl), (in_tb 834 (by decide +kernel) rfl)⟩
theorem kL_88 : am_lv' RL 88 mX7_restore 1 := ⟨⟨(in_tb 836 (by decide +kernel) rfl), (in_tb 839 (by decide +kernel) rfl), (in_tb 45 (by decide +kernel) rfl), by decide +kernel, by decide +kernel⟩, (in_tb 837 (by decide +kernel) rfl), (in_tb 838 (by decide +kernel) rfl)⟩
theorem kL_92 : am_lv' RL 92 mX7_count 1 := ⟨⟨(in_tb 840 (by decide +kernel) rfl), (in_tb 843 (by decide +kernel) rfl), (in_tb 45 (by decide +kernel) rfl), by decide +kernel, by decide +kernel⟩, (in_tb 841 (by decide +kernel) rfl), (in_tb 842 (by decide +kernel) rfl)⟩
theorem kX7_143 : am_lv' RX7 143 mX7_ofKind 1 := ⟨⟨(in_tb 844 (by decide +kernel) rfl), (in_tb 847 (by decide +kernel) rfl), (in_tb 45 (by decide +kernel) rfl), by decide +kernel, by decide +kernel⟩, (in_tb 846 (by decide +kernel) rfl), (in_tb 35 (by decide +kernel) rfl)⟩
theorem kX7_146 : am_lv' RX7 146 mX7_seenTwice 0 := ⟨⟨(in_tb 848 (by decide +kernel) rfl), (in_tb 851 (by decide +kernel) rfl), (in_tb 45 (by decide +kernel) rfl), by decide +kernel, by decide +kernel⟩, (in_tb 850 (by decide +kernel) rfl), (in_tb 36 (by decide +kernel) rfl)⟩
end
section
section AMN
variable {T : List am_C} {M : am_M} {pc : Nat} {lv : List (Option am_V)} {st : List am_V} {σ : am_S} {Q : Option am_V → am_S → Prop}
theorem AW_ialdN {a n j : Nat} {i : Int} (hd : decode M.2.1 pc = .ok (.iaload, 1)) (ht : T[a]? = some (.inr (.inl (0, n)))) (hn : n < 2147483648) (hi : i = (j : Int)) (hj : j < n) (k : AW T M (pc + 1) lv (vI (σ.1 a j) :: st) σ Q) : AW T M pc lv (vI i :: vR a :: st) σ Q := by
  subst hi
  exact AW_iald hd ht hn ⟨by omega, by omega⟩ k
theorem AW_zaldN {a n j : Nat} {i : Int} (hd : decode M.2.1 pc = .ok (.baload, 1)) (ht : T[a]? = some (.inr (.inl (1, n)))) (hn : n < 2147483648) (hi : i = (j : Int)) (hj : j < n) (k : AW T M (pc + 1) lv (vI (σ.1 a j) :: st) σ Q) : AW T M pc lv (vI i :: vR a :: st) σ Q := by
  subst hi
  exact AW_zald hd ht hn ⟨by omega, by omega⟩ k
theorem AW_laldN {a n j : Nat} {i : Int} (hd : decode M.2.1 pc = .ok (.laload, 1)) (ht : T[a]? = some (.inr (.inl (2, n)))) (hn : n < 2147483648) (hi : i = (j : Int)) (hj : j < n) (k : AW T M (pc + 1) lv (vL (σ.2 a j) :: st) σ Q) : AW T M pc lv (vI i :: vR a :: st) σ Q := by
  subst hi
  exact AW_lald hd ht hn ⟨by omega, by omega⟩ k
theorem AW_iastN {a n j : Nat} {i x : Int} (hd : decode M.2.1 pc = .ok (.iastore, 1)) (ht : T[a]? = some (.inr (.inl (0, n)))) (hn : n < 2147483648) (hi : i = (j : Int)) (hj : j < n) (k : AW T M (pc + 1) lv st (am_up σ a j x) Q) : AW T M pc lv (vI x :: vI i :: vR a :: st) σ Q := by
  subst hi
  exact AW_iast hd ht hn ⟨by omega, by omega⟩ k
theorem AW_zastN {a n j : Nat} {i x : Int} (hd : decode M.2.1 pc = .ok (.bastore, 1)) (ht : T[a]? = some (.inr (.inl (1, n)))) (hn : n < 2147483648) (hi : i = (j : Int)) (hj : j < n) (hx : x = 0 ∨ x = 1) (k : AW T M (pc + 1) lv st (am_up σ a j x) Q) : AW T M pc lv (vI x :: vI i :: vR a :: st) σ Q := by
  subst hi
  exact AW_zast hd ht hn ⟨by omega, by omega⟩ hx k
theorem AW_lastN {a n j : Nat} {i : Int} {x : Int64} (hd : decode M.2.1 pc = .ok (.lastore, 1)) (ht : T[a]? = some (.inr (.inl (2, n)))) (hn : n < 2147483648) (hi : i = (j : Int)) (hj : j < n) (k : AW T M (pc + 1) lv st (am_upL σ a j x) Q) : AW T M pc lv (vL x :: vI i :: vR a :: st) σ Q := by
  subst hi
  exact AW_last hd ht hn ⟨by omega, by omega⟩ k
end AMN
/-- a yes or no that changes nothing -/
def QB (c : Prop) (σ : am_S) : Option am_V → am_S → Prop := QI (fun z σ' => σ = σ' ∧ ((z = 1 ∧ c) ∨ (z = 0 ∧ ¬ c)))
theorem c_isWithin {T : List am_C} {σ : am_S} {n a b : Int} (hn : -2147483648 ≤ n ∧ n < 2147483648) (ha : -2147483648 ≤ a ∧ a < 2147483648) (hb : -2147483648 ≤ b ∧ b < 2147483648) : Runs T mX6_isWithin [vI n, vI a, vI b] σ (QB (a ≤ n ∧ n ≤ b) σ) := by
  refine Runs.of (by decide) rfl (by simp) (Nat.le_of_ble_eq_true rfl) ?_
  show AW T mX6_isWithin 0 [some (vI n), some (vI a), some (vI b)] [] σ _
  refine AW_iload_n dX6_isWithin_0 rfl ?_
  refine AW_iload_n dX6_isWithin_1 rfl ?_
  refine AW_icmp_lt 14 dX6_isWithin_2 (by decide) (by omega) (by omega) (fun h2 => ?_) (fun h2 => ?_)
  · refine AW_iconst dX6_isWithin_14 ?_
    refine AW_zret dX6_isWithin_15 rfl (by first | exact Or.inl rfl | exact Or.inr rfl) ?_
    exact ⟨_, rfl, rfl, by first | exact Or.inl ⟨rfl, by omega⟩ | exact Or.inr ⟨rfl, by omega⟩⟩
  · refine AW_iload_n dX6_isWithin_5 rfl ?_
    refine AW_iload_n dX6_isWithin_6 rfl ?_
    refine AW_icmp_gt 14 dX6_isWithin_7 (by decide) (by omega) (by omega) (fun h7 => ?_) (fun h7 => ?_)
    · refine AW_iconst dX6_isWithin_14 ?_
      refine AW_zret dX6_isWithin_15 rfl (by first | exact Or.inl rfl | exact Or.inr rfl) ?_
      exact ⟨_, rfl, rfl, by first | exact Or.inl ⟨rfl, by omega⟩ | exact Or.inr ⟨rfl, by omega⟩⟩
    · refine AW_iconst dX6_isWithin_10 ?_
      refine AW_goto (tgt := 15) dX6_isWithin_11 (by decide) ?_
      refine AW_zret dX6_isWithin_15 rfl (by first | exact Or.inl rfl | exact Or.inr rfl) ?_
      exact ⟨_, rfl, rfl, by first | exact Or.inl ⟨rfl, by omega⟩ | exact Or.inr ⟨rfl, by omega⟩⟩
theorem c_in {T : List am_C} {σ : am_S} {n a b : Int} (hn : -2147483648 ≤ n ∧ n < 2147483648) (ha : -2147483648 ≤ a ∧ a < 2147483648) (hb : -2147483648 ≤ b ∧ b < 2147483648) : Runs T mX7_in [vI n, vI a, vI b] σ (QB (a ≤ n ∧ n ≤ b) σ) := by
  refine Runs.of (by decide) rfl (by simp) (Nat.le_of_ble_eq_true rfl) ?_
  show AW T mX7_in 0 [some (vI n), some (vI a), some (vI b)] [] σ _
  refine AW_iload_n dX7_in_0 rfl ?_
  refine AW_iload_n dX7_in_1 rfl ?_
  refine AW_icmp_lt 14 dX7_in_2 (by decide) (by omega) (by omega) (fun h2 => ?_) (fun h2 => ?_)
  · refine AW_iconst dX7_in_14 ?_
    refine AW_zret dX7_in_15 rfl (by first | exact Or.inl rfl | exact Or.inr rfl) ?_
    exact ⟨_, rfl, rfl, by first | exact Or.inl ⟨rfl, by omega⟩ | exact Or.inr ⟨rfl, by omega⟩⟩
  · refine AW_iload_n dX7_in_5 rfl ?_
    refine AW_iload_n dX7_in_6 rfl ?_
    refine AW_icmp_gt 14 dX7_in_7 (by decide) (by omega) (by omega) (fun h7 => ?_) (fun h7 => ?_)
    · refine AW_iconst dX7_in_14 ?_
      refine AW_zret dX7_in_15 rfl (by first | exact Or.inl rfl | exact Or.inr rfl) ?_
      exact ⟨_, rfl, rfl, by first | exact Or.inl ⟨rfl, by omega⟩ | exact Or.inr ⟨rfl, by omega⟩⟩
    · refine AW_iconst dX7_in_10 ?_
      refine AW_goto (tgt := 15) dX7_in_11 (by decide) ?_
      refine AW_zret dX7_in_15 rfl (by first | exact Or.inl rfl | exact Or.inr rfl) ?_
      exact ⟨_, rfl, rfl, by first | exact Or.inl ⟨rfl, by omega⟩ | exact Or.inr ⟨rfl, by omega⟩⟩
theorem c_isTick {T : List am_C} {σ : am_S} {n : Int} (hn : -2147483648 ≤ n ∧ n < 2147483648) : Runs T mX6_isTick [vI n] σ (QB (0 ≤ n ∧ n ≤ 300) σ) := by
  refine Runs.of (by decide) rfl (by simp) (Nat.le_of_ble_eq_true rfl) ?_
  show AW T mX6_isTick 0 [some (vI n)] [] σ _
  refine AW_iload_n dX6_isTick_0 rfl ?_
  refine AW_iconst dX6_isTick_1 ?_
  refine AW_sipush dX6_isTick_2 (by decide) ?_
  refine AW_cSI3 dX6_isTick_5 kX6_49 (am_fit_b rfl) (Nat.le_of_ble_eq_true rfl) (c_isWithin hn (by omega) (by omega)) (fun z σ' hq => ?_)
  obtain ⟨rfl, ⟨rfl, h5⟩ | ⟨rfl, h5⟩⟩ := hq
  · refine AW_zret dX6_isTick_8 rfl (by first | exact Or.inl rfl | exact Or.inr rfl) ?_
    exact ⟨_, rfl, rfl, by first | exact Or.inl ⟨rfl, by omega⟩ | exact Or.inr ⟨rfl, by omega⟩⟩
  · refine AW_zret dX6_isTick_8 rfl (by first | exact Or.inl rfl | exact Or.inr rfl) ?_
    exact ⟨_, rfl, rfl, by first | exact Or.inl ⟨rfl, by omega⟩ | exact Or.inr ⟨rfl, by omega⟩⟩
theorem c_isArm {T : List am_C} {σ : am_S} {n : Int} (hn : -2147483648 ≤ n ∧ n < 2147483648) : Runs T mX6_isArm [vI n] σ (QB (0 ≤ n ∧ n ≤ 3) σ) := by
  refine Runs.of (by decide) rfl (by simp) (Nat.le_of_ble_eq_true rfl) ?_
  show AW T mX6_isArm 0 [some (vI n)] [] σ _
  refine AW_iload_n dX6_isArm_0 rfl ?_
  refine AW_iconst dX6_isArm_1 ?_
  refine AW_iconst dX6_isArm_2 ?_
  refine AW_cSI3 dX6_isArm_3 kX6_49 (am_fit_b rfl) (Nat.le_of_ble_eq_true rfl) (c_isWithin hn (by omega) (by omega)) (fun z σ' hq => ?_)
  obtain ⟨rfl, ⟨rfl, h3⟩ | ⟨rfl, h3⟩⟩ := hq
  · refine AW_zret dX6_isArm_6 rfl (by first | exact Or.inl rfl | exact Or.inr rfl) ?_
    exact ⟨_, rfl, rfl, by first | exact Or.inl ⟨rfl, by omega⟩ | exact Or.inr ⟨rfl, by omega⟩⟩
  · refine AW_zret dX6_isArm_6 rfl (by first | exact Or.inl rfl | exact Or.inr rfl) ?_
    exact ⟨_, rfl, rfl, by first | exact Or.inl ⟨rfl, by omega⟩ | exact Or.inr ⟨rfl, by omega⟩⟩
theorem c_isTick7 {T : List am_C} {σ : am_S} {n : Int} (hn : -2147483648 ≤ n ∧ n < 2147483648) : Runs T mX7_isTick [vI n] σ (QB (0 ≤ n ∧ n ≤ 300) σ) := by
  refine Runs.of (by decide) rfl (by simp) (Nat.le_of_ble_eq_true rfl) ?_
  show AW T mX7_isTick 0 [some (vI n)] [] σ _
  refine AW_iload_n dX7_isTick_0 rfl ?_
  refine AW_iconst dX7_isTick_1 ?_
  refine AW_sipush dX7_isTick_2 (by decide) ?_
  refine AW_cSI3 dX7_isTick_5 kX7_56 (am_fit_b rfl) (Nat.le_of_ble_eq_true rfl) (c_in hn (by omega) (by omega)) (fun z σ' hq => ?_)
  obtain ⟨rfl, ⟨rfl, h5⟩ | ⟨rfl, h5⟩⟩ := hq
  · refine AW_zret dX7_isTick_8 rfl (by first | exact Or.inl rfl | exact Or.inr rfl) ?_
    exact ⟨_, rfl, rfl, by first | exact Or.inl ⟨rfl, by omega⟩ | exact Or.inr ⟨rfl, by omega⟩⟩
  · refine AW_zret dX7_isTick_8 rfl (by first | exact Or.inl rfl | exact Or.inr rfl) ?_
    exact ⟨_, rfl, rfl, by first | exact Or.inl ⟨rfl, by omega⟩ | exact Or.inr ⟨rfl, by omega⟩⟩
theorem c_isArm7 {T : List am_C} {σ : am_S} {n : Int} (hn : -2147483648 ≤ n ∧ n < 2147483648) : Runs T mX7_isArm [vI n] σ (QB (0 ≤ n ∧ n ≤ 3) σ) := by
  refine Runs.of (by decide) rfl (by simp) (Nat.le_of_ble_eq_true rfl) ?_
  show AW T mX7_isArm 0 [some (vI n)] [] σ _
  refine AW_iload_n dX7_isArm_0 rfl ?_
  refine AW_iconst dX7_isArm_1 ?_
  refine AW_iconst dX7_isArm_2 ?_
  refine AW_cSI3 dX7_isArm_3 kX7_56 (am_fit_b rfl) (Nat.le_of_ble_eq_true rfl) (c_in hn (by omega) (by omega)) (fun z σ' hq => ?_)
  obtain ⟨rfl, ⟨rfl, h3⟩ | ⟨rfl, h3⟩⟩ := hq
  · refine AW_zret dX7_isArm_6 rfl (by first | exact Or.inl rfl | exact Or.inr rfl) ?_
    exact ⟨_, rfl, rfl, by first | exact Or.inl ⟨rfl, by omega⟩ | exact Or.inr ⟨rfl, by omega⟩⟩
  · refine AW_zret dX7_isArm_6 rfl (by first | exact Or.inl rfl | exact Or.inr rfl) ?_
    exact ⟨_, rfl, rfl, by first | exact Or.inl ⟨rfl, by omega⟩ | exact Or.inr ⟨rfl, by omega⟩⟩
theorem c_isThing {σ : am_S} {n : Int} (hn : -2147483648 ≤ n ∧ n < 2147483648) (hc : 0 ≤ σ.1 7 0 ∧ σ.1 7 0 ≤ 20) : Runs am_tab mX6_isThing [vR 0, vI n] σ (QB (0 ≤ n ∧ n < σ.1 7 0) σ) := by
  refine Runs.of (by decide) rfl (by simp) (Nat.le_of_ble_eq_true rfl) ?_
  show AW am_tab mX6_isThing 0 [some (vR 0), some (vI n)] [] σ _
  refine AW_iload_n dX6_isThing_0 rfl ?_
  refine AW_iconst dX6_isThing_1 ?_
  refine AW_aload_n dX6_isThing_2 rfl ?_
  refine AW_get dX6_isThing_3 fX6_12 rfl rfl ?_
  refine AW_get dX6_isThing_6 fX6_81 rfl rfl ?_
  refine AW_get dX6_isThing_9 fX6_94 rfl rfl ?_
  refine AW_iconst dX6_isThing_12 ?_
  refine AW_isub dX6_isThing_13 ?_
  refine AW_cSI3 dX6_isThing_14 kX6_49 (am_fit_b rfl) (Nat.le_of_ble_eq_true rfl) (c_isWithin hn (by omega) (by omega)) (fun z σ' hq => ?_)
  obtain ⟨rfl, ⟨rfl, h14⟩ | ⟨rfl, h14⟩⟩ := hq
  · refine AW_zret dX6_isThing_17 rfl (by first | exact Or.inl rfl | exact Or.inr rfl) ?_
    exact ⟨_, rfl, rfl, by first | exact Or.inl ⟨rfl, by omega⟩ | exact Or.inr ⟨rfl, by omega⟩⟩
  · refine AW_zret dX6_isThing_17 rfl (by first | exact Or.inl rfl | exact Or.inr rfl) ?_
    exact ⟨_, rfl, rfl, by first | exact Or.inl ⟨rfl, by omega⟩ | exact Or.inr ⟨rfl, by omega⟩⟩
theorem c_isThing7 {σ : am_S} {n : Int} (hn : -2147483648 ≤ n ∧ n < 2147483648) (hc : 0 ≤ σ.1 71 6423 ∧ σ.1 71 6423 ≤ 20) : Runs am_tab mX7_isThing [vR 70, vI n] σ (QB (0 ≤ n ∧ n < σ.1 71 6423) σ) := by
  refine Runs.of (by decide) rfl (by simp) (Nat.le_of_ble_eq_true rfl) ?_
  show AW am_tab mX7_isThing 0 [some (vR 70), some (vI n)] [] σ _
  refine AW_iload_n dX7_isThing_0 rfl ?_
  refine AW_iconst dX7_isThing_1 ?_
  refine AW_aload_n dX7_isThing_2 rfl ?_
  refine AW_get dX7_isThing_3 fX7_7 rfl rfl ?_
  refine AW_sipush dX7_isThing_6 (by decide) ?_
  refine AW_ialdN (j := 6423) dX7_isThing_9 rfl (Nat.le_of_ble_eq_true rfl) (by omega) (by omega) ?_
  refine AW_iconst dX7_isThing_10 ?_
  refine AW_isub dX7_isThing_11 ?_
  refine AW_cSI3 dX7_isThing_12 kX7_56 (am_fit_b rfl) (Nat.le_of_ble_eq_true rfl) (c_in hn (by omega) (by omega)) (fun z σ' hq => ?_)
  obtain ⟨rfl, ⟨rfl, h12⟩ | ⟨rfl, h12⟩⟩ := hq
  · refine AW_zret dX7_isThing_15 rfl (by first | exact Or.inl rfl | exact Or.inr rfl) ?_
    exact ⟨_, rfl, rfl, by first | exact Or.inl ⟨rfl, by omega⟩ | exact Or.inr ⟨rfl, by omega⟩⟩
  · refine AW_zret dX7_isThing_15 rfl (by first | exact Or.inl rfl | exact Or.inr rfl) ?_
    exact ⟨_, rfl, rfl, by first | exact Or.inl ⟨rfl, by omega⟩ | exact Or.inr ⟨rfl, by omega⟩⟩
end
section
/-! ===== what the document says of the belt, over the reference's row X: place t holds the SPEED that a CHANGE tells at TICK t, or less than 0 ===== -/
abbrev Row : Type := Nat → Int
def spAt (X : Row) : Nat → Int
  | 0 => X 0
  | t + 1 => if X (t + 1) < 0 then spAt X t else X (t + 1)
def gn (X : Row) : Nat → Int
  | 0 => 0
  | t + 1 => gn X t + spAt X t
def chg (X : Row) : Nat → Int
  | 0 => 0
  | t + 1 => chg X t + (if X (t + 1) < 0 then 0 else 1)
def WS (X : Row) : Prop := 0 ≤ X 0 ∧ ∀ t, t ≤ 300 → -6 ≤ X t ∧ X t ≤ 9
theorem spAt_b {X : Row} (h : WS X) : ∀ t, t ≤ 300 → 0 ≤ spAt X t ∧ spAt X t ≤ 9 := by
  intro t
  induction t with
  | zero => intro _; exact ⟨h.1, (h.2 0 (by omega)).2⟩
  | succ t ih =>
    intro ht
    have h1 := ih (by omega)
    have h2 := h.2 (t + 1) ht
    simp only [spAt]
    split <;> omega
theorem gn_b {X : Row} (h : WS X) : ∀ t, t ≤ 301 → 0 ≤ gn X t ∧ gn X t ≤ 9 * t := by
  intro t
  induction t with
  | zero => intro _; simp [gn]
  | succ t ih =>
    intro ht
    have h1 := ih (by omega)
    have h2 := spAt_b h t (by omega)
    simp only [gn]
    omega
theorem chg_b {X : Row} : ∀ t, 0 ≤ chg X t ∧ chg X t ≤ t := by
  intro t
  induction t with
  | zero => simp [chg]
  | succ t ih => simp only [chg]; split <;> omega
/-- a row laid anew from its first place on -/
def am_row (σ : am_S) (a n : Nat) (g : Row) : am_S := (fun k j => if k = a ∧ j < n then g j else σ.1 k j, σ.2)
def rup (X : Row) (j : Nat) (x : Int) : Row := fun b => if b = j then x else X b
theorem am_up_same {σ : am_S} {a j : Nat} {x : Int} : (am_up σ a j x).1 a = rup (σ.1 a) j x := by
  funext b
  simp [am_up, rup]
theorem am_up_other {σ : am_S} {a a' j : Nat} {x : Int} (h : a' ≠ a) : (am_up σ a j x).1 a' = σ.1 a' := by
  funext b
  simp [am_up, h]
theorem am_up_long {σ : am_S} {a j : Nat} {x : Int} : (am_up σ a j x).2 = σ.2 := rfl
theorem am_row_other {σ : am_S} {a a' n : Nat} {g : Row} (h : a' ≠ a) : (am_row σ a n g).1 a' = σ.1 a' := by
  funext b
  simp [am_row, h]
theorem am_row_at {σ : am_S} {a n j : Nat} {g : Row} (h : j < n) : (am_row σ a n g).1 a j = g j := by
  simp [am_row, h]
theorem am_row_past {σ : am_S} {a n j : Nat} {g : Row} (h : n ≤ j) : (am_row σ a n g).1 a j = σ.1 a j := by
  have : ¬ j < n := by omega
  simp [am_row, this]
theorem am_row_0 {σ : am_S} {a : Nat} {g : Row} : am_row σ a 0 g = σ := by
  simp [am_row]
theorem am_row_s {σ : am_S} {a n : Nat} {g : Row} {x : Int} (h : x = g n) : am_up (am_row σ a n g) a n x = am_row σ a (n + 1) g := by
  subst h
  refine Prod.ext ?_ rfl
  funext k j
  simp only [am_up, am_row]
  by_cases hk : k = a
  · by_cases hj : j = n
    · simp [hk, hj]
    · have : (j < n + 1) ↔ j < n := by omega
      simp [hk, hj, this]
  · simp [hk]
theorem l_speedAt7 {σ : am_S} (hW : WS (σ.1 71)) {Q : Option am_V → am_S → Prop} {tick : Int} : ∀ t : Nat, t ≤ 300 → Q (some (vI (spAt (σ.1 71) t))) σ → AW am_tab mX7_speedAt 2 [some (vR 70), some (vI tick), some (vI t)] [] σ Q := by
  intro t
  induction t with
  | zero =>
    intro _ hQ
    refine AW_aload_n dX7_speedAt_2 rfl ?_
    refine AW_get dX7_speedAt_3 fX7_7 rfl rfl ?_
    refine AW_iconst dX7_speedAt_6 ?_
    refine AW_iload_n dX7_speedAt_7 rfl ?_
    refine AW_iadd dX7_speedAt_8 ?_
    refine AW_ialdN (j := 0) dX7_speedAt_9 rfl (Nat.le_of_ble_eq_true rfl) (by omega) (by omega) ?_
    have hb := hW.2 0 (by omega)
    refine AW_if_ge 19 dX7_speedAt_10 (by decide) (by omega) (fun h10 => ?_) (fun h10 => ?_)
    · refine AW_aload_n dX7_speedAt_19 rfl ?_
      refine AW_get dX7_speedAt_20 fX7_7 rfl rfl ?_
      refine AW_iconst dX7_speedAt_23 ?_
      refine AW_iload_n dX7_speedAt_24 rfl ?_
      refine AW_iadd dX7_speedAt_25 ?_
      refine AW_ialdN (j := 0) dX7_speedAt_26 rfl (Nat.le_of_ble_eq_true rfl) (by omega) (by omega) ?_
      refine AW_iret dX7_speedAt_27 rfl ?_
      exact hQ
    · refine AW_iinc (lv' := [_, _, _]) dX7_speedAt_13 rfl (by decide) rfl ?_
      refine AW_goto (tgt := 2) dX7_speedAt_16 (by decide) ?_
      exact absurd hW.1 h10
  | succ t ih =>
    intro hT hQ
    refine AW_aload_n dX7_speedAt_2 rfl ?_
    refine AW_get dX7_speedAt_3 fX7_7 rfl rfl ?_
    refine AW_iconst dX7_speedAt_6 ?_
    refine AW_iload_n dX7_speedAt_7 rfl ?_
    refine AW_iadd dX7_speedAt_8 ?_
    refine AW_ialdN (j := t + 1) dX7_speedAt_9 rfl (Nat.le_of_ble_eq_true rfl) (by omega) (by omega) ?_
    have hb := hW.2 (t + 1) hT
    refine AW_if_ge 19 dX7_speedAt_10 (by decide) (by omega) (fun h10 => ?_) (fun h10 => ?_)
    · refine AW_aload_n dX7_speedAt_19 rfl ?_
      refine AW_get dX7_speedAt_20 fX7_7 rfl rfl ?_
      refine AW_iconst dX7_speedAt_23 ?_
      refine AW_iload_n dX7_speedAt_24 rfl ?_
      refine AW_iadd dX7_speedAt_25 ?_
      refine AW_ialdN (j := t + 1) dX7_speedAt_26 rfl (Nat.le_of_ble_eq_true rfl) (by omega) (by omega) ?_
      refine AW_iret dX7_speedAt_27 rfl ?_
      have h10 : ¬ σ.1 71 (t + 1) < 0 := by omega
      simpa [spAt, h10] using hQ
    · refine AW_iinc (lv' := [_, _, _]) dX7_speedAt_13 rfl (by decide) rfl ?_
      refine AW_goto (tgt := 2) dX7_speedAt_16 (by decide) ?_
      rw [show ((t + 1 : Nat) : Int) + (-1) = (t : Int) by omega]
      refine ih (by omega) ?_
      have h10 : σ.1 71 (t + 1) < 0 := by omega
      simpa [spAt, h10] using hQ
theorem c_speedAt7 {σ : am_S} (hW : WS (σ.1 71)) {t : Nat} (ht : t ≤ 300) : Runs am_tab mX7_speedAt [vR 70, vI t] σ (QI (fun z σ' => z = spAt (σ.1 71) t ∧ σ' = σ)) := by
  refine Runs.of (by decide) rfl (by simp) (Nat.le_of_ble_eq_true rfl) ?_
  show AW am_tab mX7_speedAt 0 [some (vR 70), some (vI t), none] [] σ _
  refine AW_iload_n dX7_speedAt_0 rfl ?_
  refine AW_istore_n (i := 2) (lv' := [_, _, _]) dX7_speedAt_1 rfl (by decide) (Nat.le_of_ble_eq_true rfl) rfl ?_
  exact l_speedAt7 hW t ht ⟨_, rfl, rfl, rfl⟩
theorem l_changes7 {σ : am_S} (hW : WS (σ.1 71)) {Q : Option am_V → am_S → Prop} (hQ : Q (some (vI (chg (σ.1 71) 300))) σ) : ∀ n t : Nat, t ≤ 300 → 300 - t ≤ n → AW am_tab mX7_changes 4 [some (vR 70), some (vI (chg (σ.1 71) t)), some (vI (t + 1 : Nat))] [] σ Q := by
  intro n
  induction n with
  | zero =>
    intro t hT hn
    have ih : ∀ t : Nat, t ≤ 300 → False → AW am_tab mX7_changes 4 [some (vR 70), some (vI (chg (σ.1 71) t)), some (vI (t + 1 : Nat))] [] σ Q := fun _ _ h => h.elim
    have hc := chg_b (X := σ.1 71) t
    refine AW_iload_n dX7_changes_4 rfl ?_
    refine AW_sipush dX7_changes_5 (by decide) ?_
    refine AW_icmp_ge 36 dX7_changes_8 (by decide) (by omega) (by omega) (fun h8 => ?_) (fun h8 => ?_)
    · refine AW_iload_n dX7_changes_36 rfl ?_
      refine AW_iret dX7_changes_37 rfl ?_
      have e2 : t = 300 := by omega
      subst e2
      exact hQ
    · refine AW_iload_n dX7_changes_11 rfl ?_
      refine AW_aload_n dX7_changes_12 rfl ?_
      refine AW_get dX7_changes_13 fX7_7 rfl rfl ?_
      refine AW_iconst dX7_changes_16 ?_
      refine AW_iload_n dX7_changes_17 rfl ?_
      refine AW_iadd dX7_changes_18 ?_
      refine AW_ialdN (j := t + 1) dX7_changes_19 rfl (Nat.le_of_ble_eq_true rfl) (by omega) (by omega) ?_
      have hb := hW.2 (t + 1) (by omega)
      refine AW_if_lt 27 dX7_changes_20 (by decide) (by omega) (fun h20 => ?_) (fun h20 => ?_)
      · refine AW_iconst dX7_changes_27 ?_
        refine AW_iadd dX7_changes_28 ?_
        refine AW_istore_n (i := 1) (lv' := [_, _, _]) dX7_changes_29 rfl (by decide) (Nat.le_of_ble_eq_true rfl) rfl ?_
        refine AW_iinc (lv' := [_, _, _]) dX7_changes_30 rfl (by decide) rfl ?_
        refine AW_goto (tgt := 4) dX7_changes_33 (by decide) ?_
        have e1 : ((t + 1 : Nat) : Int) + 1 = ((t + 1 + 1 : Nat) : Int) := by omega
        rw [e1]
        simpa [chg, h20] using ih (t + 1) (by omega) (by omega)
      · refine AW_iconst dX7_changes_23 ?_
        refine AW_goto (tgt := 28) dX7_changes_24 (by decide) ?_
        refine AW_iadd dX7_changes_28 ?_
        refine AW_istore_n (i := 1) (lv' := [_, _, _]) dX7_changes_29 rfl (by decide) (Nat.le_of_ble_eq_true rfl) rfl ?_
        refine AW_iinc (lv' := [_, _, _]) dX7_changes_30 rfl (by decide) rfl ?_
        refine AW_goto (tgt := 4) dX7_changes_33 (by decide) ?_
        have e1 : ((t + 1 : Nat) : Int) + 1 = ((t + 1 + 1 : Nat) : Int) := by omega
        rw [e1]
        simpa [chg, h20] using ih (t + 1) (by omega) (by omega)
  | succ n ih =>
    intro t hT hn
    have hc := chg_b (X := σ.1 71) t
    refine AW_iload_n dX7_changes_4 rfl ?_
    refine AW_sipush dX7_changes_5 (by decide) ?_
    refine AW_icmp_ge 36 dX7_changes_8 (by decide) (by omega) (by omega) (fun h8 => ?_) (fun h8 => ?_)
    · refine AW_iload_n dX7_changes_36 rfl ?_
      refine AW_iret dX7_changes_37 rfl ?_
      have e2 : t = 300 := by omega
      subst e2
      exact hQ
    · refine AW_iload_n dX7_changes_11 rfl ?_
      refine AW_aload_n dX7_changes_12 rfl ?_
      refine AW_get dX7_changes_13 fX7_7 rfl rfl ?_
      refine AW_iconst dX7_changes_16 ?_
      refine AW_iload_n dX7_changes_17 rfl ?_
      refine AW_iadd dX7_changes_18 ?_
      refine AW_ialdN (j := t + 1) dX7_changes_19 rfl (Nat.le_of_ble_eq_true rfl) (by omega) (by omega) ?_
      have hb := hW.2 (t + 1) (by omega)
      refine AW_if_lt 27 dX7_changes_20 (by decide) (by omega) (fun h20 => ?_) (fun h20 => ?_)
      · refine AW_iconst dX7_changes_27 ?_
        refine AW_iadd dX7_changes_28 ?_
        refine AW_istore_n (i := 1) (lv' := [_, _, _]) dX7_changes_29 rfl (by decide) (Nat.le_of_ble_eq_true rfl) rfl ?_
        refine AW_iinc (lv' := [_, _, _]) dX7_changes_30 rfl (by decide) rfl ?_
        refine AW_goto (tgt := 4) dX7_changes_33 (by decide) ?_
        have e1 : ((t + 1 : Nat) : Int) + 1 = ((t + 1 + 1 : Nat) : Int) := by omega
        rw [e1]
        simpa [chg, h20] using ih (t + 1) (by omega) (by omega)
      · refine AW_iconst dX7_changes_23 ?_
        refine AW_goto (tgt := 28) dX7_changes_24 (by decide) ?_
        refine AW_iadd dX7_changes_28 ?_
        refine AW_istore_n (i := 1) (lv' := [_, _, _]) dX7_changes_29 rfl (by decide) (Nat.le_of_ble_eq_true rfl) rfl ?_
        refine AW_iinc (lv' := [_, _, _]) dX7_changes_30 rfl (by decide) rfl ?_
        refine AW_goto (tgt := 4) dX7_changes_33 (by decide) ?_
        have e1 : ((t + 1 : Nat) : Int) + 1 = ((t + 1 + 1 : Nat) : Int) := by omega
        rw [e1]
        simpa [chg, h20] using ih (t + 1) (by omega) (by omega)
theorem c_changes7 {σ : am_S} (hW : WS (σ.1 71)) : Runs am_tab mX7_changes [vR 70] σ (QI (fun z σ' => z = chg (σ.1 71) 300 ∧ σ' = σ)) := by
  refine Runs.of (by decide) rfl (by simp) (Nat.le_of_ble_eq_true rfl) ?_
  show AW am_tab mX7_changes 0 [some (vR 70), none, none] [] σ _
  refine AW_iconst dX7_changes_0 ?_
  refine AW_istore_n (i := 1) (lv' := [_, _, _]) dX7_changes_1 rfl (by decide) (Nat.le_of_ble_eq_true rfl) rfl ?_
  refine AW_iconst dX7_changes_2 ?_
  refine AW_istore_n (i := 2) (lv' := [_, _, _]) dX7_changes_3 rfl (by decide) (Nat.le_of_ble_eq_true rfl) rfl ?_
  exact l_changes7 hW ⟨_, rfl, rfl, rfl⟩ 300 0 (by omega) (by omega)
end
section
theorem up_loop {N : Nat} {P : Nat → Prop} (h : ∀ i, i ≤ N → (i < N → P (i + 1)) → P i) (i : Nat) (hi : i ≤ N) : P i := by
  have : ∀ n i, i ≤ N → N - i ≤ n → P i := by
    intro n
    induction n with
    | zero => intro i h1 h2; exact h i h1 (fun h3 => by omega)
    | succ n ih => intro i h1 h2; exact h i h1 (fun h3 => ih (i + 1) (by omega) (by omega))
  exact this (N - i) i hi (Nat.le_refl _)
/-- what a call of the reference leaves: its row X', its own scratch rows aside all else as before -/
def MS (σ σ' : am_S) (X' : Row) : Prop := σ'.1 71 = X' ∧ (∀ a, a < 70 ∨ a = 72 ∨ a = 73 → σ'.1 a = σ.1 a) ∧ σ'.2 = σ.2
theorem MS.rf {σ : am_S} : MS σ σ (σ.1 71) := ⟨rfl, fun _ _ => rfl, rfl⟩
theorem MS.row {σ σ' : am_S} {X' : Row} (h : MS σ σ' X') {a n : Nat} {g : Row} (ha : 74 ≤ a) : MS σ (am_row σ' a n g) X' := ⟨by rw [am_row_other (by omega)]; exact h.1, fun b hb => by rw [am_row_other (by omega)]; exact h.2.1 b hb, h.2.2⟩
theorem MS.up {σ σ' : am_S} {X' : Row} (h : MS σ σ' X') {a j : Nat} {x : Int} (ha : 74 ≤ a ∨ a = 70) : MS σ (am_up σ' a j x) X' := ⟨by rw [am_up_other (by omega)]; exact h.1, fun b hb => by rw [am_up_other (by omega)]; exact h.2.1 b hb, h.2.2⟩
theorem MS.set {σ σ' : am_S} {X' : Row} (h : MS σ σ' X') {j : Nat} {x : Int} : MS σ (am_up σ' 71 j x) (rup X' j x) := ⟨by rw [am_up_same, h.1], fun b hb => by rw [am_up_other (by omega)]; exact h.2.1 b hb, h.2.2⟩
theorem MS.tr {σ σ' σ'' : am_S} {X' X'' : Row} (h : MS σ σ' X') (h2 : MS σ' σ'' X'') : MS σ σ'' X'' := ⟨h2.1, fun a ha => (h2.2.1 a ha).trans (h.2.1 a ha), h2.2.2.trans h.2.2⟩
theorem l_layGone7 {σ : am_S} (hW : WS (σ.1 71)) {Q : Option am_V → am_S → Prop} (hQ : Q none (am_row σ 74 301 (gn (σ.1 71)))) : ∀ i, i ≤ 300 → AW am_tab mX7_layGone 9 [some (vR 70), some (vI (i + 1 : Nat))] [] (am_row σ 74 (i + 1) (gn (σ.1 71))) Q :=
  up_loop (fun i hi ih => by
    refine AW_iload_n dX7_layGone_9 rfl ?_
    refine AW_sipush dX7_layGone_10 (by decide) ?_
    refine AW_icmp_ge 44 dX7_layGone_13 (by decide) (by omega) (by omega) (fun h13 => ?_) (fun h13 => ?_)
    · refine AW_vret dX7_layGone_44 rfl ?_
      have e : i = 300 := by omega
      subst e
      exact hQ
    · refine AW_aload_n dX7_layGone_16 rfl ?_
      refine AW_get dX7_layGone_17 fX7_20 rfl rfl ?_
      refine AW_iload_n dX7_layGone_20 rfl ?_
      refine AW_aload_n dX7_layGone_21 rfl ?_
      refine AW_get dX7_layGone_22 fX7_20 rfl rfl ?_
      refine AW_iload_n dX7_layGone_25 rfl ?_
      refine AW_iconst dX7_layGone_26 ?_
      refine AW_isub dX7_layGone_27 ?_
      refine AW_ialdN (j := i) dX7_layGone_28 rfl (Nat.le_of_ble_eq_true rfl) (by omega) (by omega) ?_
      refine AW_aload_n dX7_layGone_29 rfl ?_
      refine AW_iload_n dX7_layGone_30 rfl ?_
      refine AW_iconst dX7_layGone_31 ?_
      refine AW_isub dX7_layGone_32 ?_
      rw [show ((i + 1 : Nat) : Int) - 1 = (i : Int) by omega]
      refine AW_cVI1 dX7_layGone_33 kX7_68 (am_fit_b rfl) rfl rfl (Nat.le_of_ble_eq_true rfl) (c_speedAt7 (t := i) (by rw [am_row_other (by decide)]; exact hW) (by omega)) (fun z σ' hq => ?_)
      obtain ⟨hz, rfl⟩ := hq
      rw [am_row_other (by decide)] at hz
      subst hz
      refine AW_iadd dX7_layGone_36 ?_
      refine AW_iastN (j := i + 1) dX7_layGone_37 rfl (Nat.le_of_ble_eq_true rfl) (by omega) (by omega) ?_
      refine AW_iinc (lv' := [_, _]) dX7_layGone_38 rfl (by decide) rfl ?_
      refine AW_goto (tgt := 9) dX7_layGone_41 (by decide) ?_
      rw [am_row_s (by rw [am_row_at (by omega)]; rfl)]
      exact ih (by omega))
theorem c_layGone7 {σ : am_S} (hW : WS (σ.1 71)) : Runs am_tab mX7_layGone [vR 70] σ (QV (fun σ' => σ' = am_row σ 74 301 (gn (σ.1 71)))) := by
  refine Runs.of (by decide) rfl (by simp) (Nat.le_of_ble_eq_true rfl) ?_
  show AW am_tab mX7_layGone 0 [some (vR 70), none] [] σ _
  refine AW_aload_n dX7_layGone_0 rfl ?_
  refine AW_get dX7_layGone_1 fX7_20 rfl rfl ?_
  refine AW_iconst dX7_layGone_4 ?_
  refine AW_iconst dX7_layGone_5 ?_
  refine AW_iastN (j := 0) dX7_layGone_6 rfl (Nat.le_of_ble_eq_true rfl) (by omega) (by omega) ?_
  refine AW_iconst dX7_layGone_7 ?_
  refine AW_istore_n (i := 1) (lv' := [_, _]) dX7_layGone_8 rfl (by decide) (Nat.le_of_ble_eq_true rfl) rfl ?_
  rw [show am_up σ 74 0 0 = am_row σ 74 (0 + 1) (gn (σ.1 71)) from by rw [← am_row_s (g := gn (σ.1 71)) (n := 0) (x := 0) rfl, am_row_0]]
  exact l_layGone7 hW ⟨rfl, rfl⟩ 0 (by omega)
def goneS (X : Row) (tick : Int) : Int := if 0 ≤ tick ∧ tick ≤ 300 then gn X tick.toNat else -2
theorem c_gone7 {σ : am_S} {n : Int} (hn : -2147483648 ≤ n ∧ n < 2147483648) (hW : WS (σ.1 71)) : Runs am_tab mX7_gone [vR 70, vI n] σ (QI (fun z σ' => z = goneS (σ.1 71) n ∧ MS σ σ' (σ.1 71))) := by
  refine Runs.of (by decide) rfl (by simp) (Nat.le_of_ble_eq_true rfl) ?_
  show AW am_tab mX7_gone 0 [some (vR 70), some (vI n)] [] σ _
  refine AW_iload_n dX7_gone_0 rfl ?_
  refine AW_cSI1 dX7_gone_1 kX7_60 (am_fit_b rfl) (Nat.le_of_ble_eq_true rfl) (c_isTick7 hn) (fun z σ' hq => ?_)
  obtain ⟨rfl, ⟨rfl, h1⟩ | ⟨rfl, h1⟩⟩ := hq
  · refine AW_if_ne 10 dX7_gone_4 (by decide) (by decide) (fun _ => ?_) (fun h => absurd (by decide) h)
    refine AW_aload_n dX7_gone_10 rfl ?_
    refine AW_cVV0 dX7_gone_11 kX7_72 (am_fit_b rfl) rfl rfl (Nat.le_of_ble_eq_true rfl) (c_layGone7 hW) (fun σ' hq => ?_)
    replace hq := hq.symm
    subst hq
    refine AW_aload_n dX7_gone_14 rfl ?_
    refine AW_get dX7_gone_15 fX7_20 rfl rfl ?_
    refine AW_iload_n dX7_gone_18 rfl ?_
    refine AW_ialdN (j := n.toNat) dX7_gone_19 rfl (Nat.le_of_ble_eq_true rfl) (by omega) (by omega) ?_
    refine AW_iret dX7_gone_20 rfl ?_
    exact ⟨_, rfl, by simp only [goneS]; rw [if_pos (by omega), am_row_at (by omega)], MS.rf.row (by decide)⟩
  · refine AW_if_ne 10 dX7_gone_4 (by decide) (by decide) (fun h => absurd h (by decide)) (fun _ => ?_)
    refine AW_bipush dX7_gone_7 (by decide) ?_
    refine AW_iret dX7_gone_9 rfl ?_
    exact ⟨_, rfl, by simp only [goneS]; rw [if_neg (by omega)], MS.rf⟩
def speedS (X : Row) (tick n : Int) : Int × Row := if (0 ≤ tick ∧ tick ≤ 300) ∧ 0 ≤ n ∧ n ≤ 9 then (if X tick.toNat < 0 ∧ chg X 300 = 8 then (-4, X) else (spAt X tick.toNat, rup X tick.toNat n)) else (-2, X)
def levelS (X : Row) (tick : Int) : Int × Row := if 1 ≤ tick ∧ tick ≤ 300 then (if X tick.toNat < 0 then (-5, X) else (chg (rup X tick.toNat (-6)) 300, rup X tick.toNat (-6))) else (-2, X)
theorem c_speed7 {σ : am_S} {tick n : Int} (hn : -2147483648 ≤ n ∧ n < 2147483648) (ht : -2147483648 ≤ tick ∧ tick < 2147483648) (hW : WS (σ.1 71)) : Runs am_tab mX7_speed [vR 70, vI tick, vI n] σ (QI (fun z σ' => z = (speedS (σ.1 71) tick n).1 ∧ MS σ σ' (speedS (σ.1 71) tick n).2)) := by
  refine Runs.of (by decide) rfl (by simp) (Nat.le_of_ble_eq_true rfl) ?_
  show AW am_tab mX7_speed 0 [some (vR 70), some (vI tick), some (vI n), none] [] σ _
  refine AW_iload_n dX7_speed_0 rfl ?_
  refine AW_cSI1 dX7_speed_1 kX7_60 (am_fit_b rfl) (Nat.le_of_ble_eq_true rfl) (c_isTick7 ht) (fun z σ' hq => ?_)
  obtain ⟨rfl, ⟨rfl, h1⟩ | ⟨rfl, h1⟩⟩ := hq
  · refine AW_if_eq 17 dX7_speed_4 (by decide) (by decide) (fun h => absurd h (by decide)) (fun _ => ?_)
    refine AW_iload_n dX7_speed_7 rfl ?_
    refine AW_iconst dX7_speed_8 ?_
    refine AW_bipush dX7_speed_9 (by decide) ?_
    refine AW_cSI3 dX7_speed_11 kX7_56 (am_fit_b rfl) (Nat.le_of_ble_eq_true rfl) (c_in hn (by omega) (by omega)) (fun z σ' hq => ?_)
    obtain ⟨rfl, ⟨rfl, h11⟩ | ⟨rfl, h11⟩⟩ := hq
    · refine AW_if_ne 20 dX7_speed_14 (by decide) (by decide) (fun _ => ?_) (fun h => absurd (by decide) h)
      obtain ⟨t, rfl⟩ : ∃ t : Nat, tick = t := ⟨tick.toNat, by omega⟩
      refine AW_aload_n dX7_speed_20 rfl ?_
      refine AW_get dX7_speed_21 fX7_7 rfl rfl ?_
      refine AW_iconst dX7_speed_24 ?_
      refine AW_iload_n dX7_speed_25 rfl ?_
      refine AW_iadd dX7_speed_26 ?_
      refine AW_ialdN (j := t) dX7_speed_27 rfl (Nat.le_of_ble_eq_true rfl) (by omega) (by omega) ?_
      have hb := hW.2 t (by omega)
      refine AW_if_ge 43 dX7_speed_28 (by decide) (by omega) (fun h28 => ?_) (fun h28 => ?_)
      · refine AW_aload_n dX7_speed_43 rfl ?_
        refine AW_iload_n dX7_speed_44 rfl ?_
        refine AW_cVI1 dX7_speed_45 kX7_68 (am_fit_b rfl) rfl rfl (Nat.le_of_ble_eq_true rfl) (c_speedAt7 hW (by omega)) (fun z σ' hq => ?_)
        obtain ⟨hz, hs⟩ := hq
        replace hz := hz.symm
        subst hz
        replace hs := hs.symm
        subst hs
        refine AW_istore_n (i := 3) (lv' := [_, _, _, _]) dX7_speed_48 rfl (by decide) (Nat.le_of_ble_eq_true rfl) rfl ?_
        refine AW_aload_n dX7_speed_49 rfl ?_
        refine AW_get dX7_speed_50 fX7_7 rfl rfl ?_
        refine AW_iconst dX7_speed_53 ?_
        refine AW_iload_n dX7_speed_54 rfl ?_
        refine AW_iadd dX7_speed_55 ?_
        refine AW_iload_n dX7_speed_56 rfl ?_
        refine AW_iastN (j := t) dX7_speed_57 rfl (Nat.le_of_ble_eq_true rfl) (by omega) (by omega) ?_
        refine AW_iload_n dX7_speed_58 rfl ?_
        refine AW_iret dX7_speed_59 rfl ?_
        refine ⟨_, rfl, ?_⟩
        simp only [speedS, Int.toNat_natCast]
        rw [if_pos (by omega), if_neg (by omega)]
        exact ⟨rfl, MS.rf.set⟩
      · refine AW_aload_n dX7_speed_31 rfl ?_
        refine AW_cVI0 dX7_speed_32 kX7_64 (am_fit_b rfl) rfl rfl (Nat.le_of_ble_eq_true rfl) (c_changes7 hW) (fun z σ' hq => ?_)
        obtain ⟨hz, hs⟩ := hq
        replace hz := hz.symm
        subst hz
        replace hs := hs.symm
        subst hs
        have hcb := chg_b (X := σ.1 71) 300
        refine AW_bipush dX7_speed_35 (by decide) ?_
        refine AW_icmp_ne 43 dX7_speed_37 (by decide) (by omega) (by omega) (fun h37 => ?_) (fun h37 => ?_)
        · refine AW_aload_n dX7_speed_43 rfl ?_
          refine AW_iload_n dX7_speed_44 rfl ?_
          refine AW_cVI1 dX7_speed_45 kX7_68 (am_fit_b rfl) rfl rfl (Nat.le_of_ble_eq_true rfl) (c_speedAt7 hW (by omega)) (fun z σ' hq => ?_)
          obtain ⟨hz, hs⟩ := hq
          replace hz := hz.symm
          subst hz
          replace hs := hs.symm
          subst hs
          refine AW_istore_n (i := 3) (lv' := [_, _, _, _]) dX7_speed_48 rfl (by decide) (Nat.le_of_ble_eq_true rfl) rfl ?_
          refine AW_aload_n dX7_speed_49 rfl ?_
          refine AW_get dX7_speed_50 fX7_7 rfl rfl ?_
          refine AW_iconst dX7_speed_53 ?_
          refine AW_iload_n dX7_speed_54 rfl ?_
          refine AW_iadd dX7_speed_55 ?_
          refine AW_iload_n dX7_speed_56 rfl ?_
          refine AW_iastN (j := t) dX7_speed_57 rfl (Nat.le_of_ble_eq_true rfl) (by omega) (by omega) ?_
          refine AW_iload_n dX7_speed_58 rfl ?_
          refine AW_iret dX7_speed_59 rfl ?_
          refine ⟨_, rfl, ?_⟩
          simp only [speedS, Int.toNat_natCast]
          rw [if_pos (by omega), if_neg (by omega)]
          exact ⟨rfl, MS.rf.set⟩
        · refine AW_bipush dX7_speed_40 (by decide) ?_
          refine AW_iret dX7_speed_42 rfl ?_
          refine ⟨_, rfl, ?_⟩
          simp only [speedS, Int.toNat_natCast]
          rw [if_pos (by omega), if_pos (by omega)]
          exact ⟨rfl, MS.rf⟩
    · refine AW_if_ne 20 dX7_speed_14 (by decide) (by decide) (fun h => absurd h (by decide)) (fun _ => ?_)
      refine AW_bipush dX7_speed_17 (by decide) ?_
      refine AW_iret dX7_speed_19 rfl ?_
      refine ⟨_, rfl, ?_⟩
      simp only [speedS]
      rw [if_neg (by omega)]
      exact ⟨rfl, MS.rf⟩
  · refine AW_if_eq 17 dX7_speed_4 (by decide) (by decide) (fun _ => ?_) (fun h => absurd (by decide) h)
    refine AW_bipush dX7_speed_17 (by decide) ?_
    refine AW_iret dX7_speed_19 rfl ?_
    refine ⟨_, rfl, ?_⟩
    simp only [speedS]
    rw [if_neg (by omega)]
    exact ⟨rfl, MS.rf⟩
theorem WS_rup {X : Row} (h : WS X) {j : Nat} {x : Int} (hx : -6 ≤ x ∧ x ≤ 9) (hj : j = 0 → 0 ≤ x) : WS (rup X j x) := by
  refine ⟨?_, fun t ht => ?_⟩
  · simp only [rup]
    split
    · exact hj (by omega)
    · exact h.1
  · simp only [rup]
    split
    · exact hx
    · exact h.2 t ht
theorem c_level7 {σ : am_S} {tick : Int} (ht : -2147483648 ≤ tick ∧ tick < 2147483648) (hW : WS (σ.1 71)) : Runs am_tab mX7_level [vR 70, vI tick] σ (QI (fun z σ' => z = (levelS (σ.1 71) tick).1 ∧ MS σ σ' (levelS (σ.1 71) tick).2)) := by
  refine Runs.of (by decide) rfl (by simp) (Nat.le_of_ble_eq_true rfl) ?_
  show AW am_tab mX7_level 0 [some (vR 70), some (vI tick)] [] σ _
  refine AW_iload_n dX7_level_0 rfl ?_
  refine AW_iconst dX7_level_1 ?_
  refine AW_sipush dX7_level_2 (by decide) ?_
  refine AW_cSI3 dX7_level_5 kX7_56 (am_fit_b rfl) (Nat.le_of_ble_eq_true rfl) (c_in ht (by omega) (by omega)) (fun z σ' hq => ?_)
  obtain ⟨rfl, ⟨rfl, h5⟩ | ⟨rfl, h5⟩⟩ := hq
  · refine AW_if_ne 14 dX7_level_8 (by decide) (by decide) (fun _ => ?_) (fun h => absurd (by decide) h)
    obtain ⟨t, rfl⟩ : ∃ t : Nat, tick = t := ⟨tick.toNat, by omega⟩
    refine AW_aload_n dX7_level_14 rfl ?_
    refine AW_get dX7_level_15 fX7_7 rfl rfl ?_
    refine AW_iconst dX7_level_18 ?_
    refine AW_iload_n dX7_level_19 rfl ?_
    refine AW_iadd dX7_level_20 ?_
    refine AW_ialdN (j := t) dX7_level_21 rfl (Nat.le_of_ble_eq_true rfl) (by omega) (by omega) ?_
    have hb := hW.2 t (by omega)
    refine AW_if_ge 28 dX7_level_22 (by decide) (by omega) (fun h22 => ?_) (fun h22 => ?_)
    · refine AW_aload_n dX7_level_28 rfl ?_
      refine AW_get dX7_level_29 fX7_7 rfl rfl ?_
      refine AW_iconst dX7_level_32 ?_
      refine AW_iload_n dX7_level_33 rfl ?_
      refine AW_iadd dX7_level_34 ?_
      refine AW_bipush dX7_level_35 (by decide) ?_
      refine AW_iastN (j := t) dX7_level_37 rfl (Nat.le_of_ble_eq_true rfl) (by omega) (by omega) ?_
      refine AW_aload_n dX7_level_38 rfl ?_
      refine AW_cVI0 dX7_level_39 kX7_64 (am_fit_b rfl) rfl rfl (Nat.le_of_ble_eq_true rfl) (c_changes7 (by rw [am_up_same]; exact WS_rup hW (by decide) (by omega))) (fun z σ' hq => ?_)
      obtain ⟨hz, hs⟩ := hq
      replace hz := hz.symm
      subst hz
      replace hs := hs.symm
      subst hs
      refine AW_iret dX7_level_42 rfl ?_
      refine ⟨_, rfl, ?_⟩
      simp only [levelS, Int.toNat_natCast]
      rw [if_pos (by omega), if_neg (by omega)]
      exact ⟨by rw [am_up_same], MS.rf.set⟩
    · refine AW_bipush dX7_level_25 (by decide) ?_
      refine AW_iret dX7_level_27 rfl ?_
      refine ⟨_, rfl, ?_⟩
      simp only [levelS, Int.toNat_natCast]
      rw [if_pos (by omega), if_pos (by omega)]
      exact ⟨rfl, MS.rf⟩
  · refine AW_if_ne 14 dX7_level_8 (by decide) (by decide) (fun h => absurd h (by decide)) (fun _ => ?_)
    refine AW_bipush dX7_level_11 (by decide) ?_
    refine AW_iret dX7_level_13 rfl ?_
    refine ⟨_, rfl, ?_⟩
    simp only [levelS]
    rw [if_neg (by omega)]
    exact ⟨rfl, MS.rf⟩
end
section
/-! ===== THINGS and ARMS over the reference's row ===== -/
def WT (X : Row) : Prop := (0 ≤ X 6423 ∧ X 6423 ≤ 20) ∧ ∀ k : Nat, (k : Int) < X 6423 → (0 ≤ X (301 + k) ∧ X (301 + k) ≤ 300) ∧ (0 ≤ X (321 + k) ∧ X (321 + k) ≤ 3) ∧ (0 ≤ X (341 + k) ∧ X (341 + k) ≤ 60) ∧ (0 ≤ X (361 + k) ∧ X (361 + k) ≤ 2) ∧ ∀ t, t ≤ 300 → 0 ≤ X (381 + 301 * k + t) ∧ X (381 + 301 * k + t) ≤ 1
def WA (X : Row) : Prop := (∀ a, a < 4 → (0 ≤ X (6401 + a) ∧ X (6401 + a) ≤ X (6405 + a) ∧ X (6405 + a) ≤ 999) ∧ (1 ≤ X (6409 + a) ∧ X (6409 + a) ≤ 20) ∧ (0 ≤ X (6413 + a) ∧ X (6413 + a) < X (6409 + a)) ∧ (0 ≤ X (6417 + a) ∧ X (6417 + a) ≤ 15)) ∧ ∀ a b, a < 4 → b < 4 → a ≠ b → X (6405 + a) < X (6401 + b) ∨ X (6405 + b) < X (6401 + a)
def WN (X : Row) : Prop := (0 ≤ X 6421 ∧ X 6421 ≤ 20) ∧ 1 ≤ X 6422 ∧ X 6422 ≤ 6
/-- the PLACE of THING k at TICK t -/
def plc (X : Row) (k t : Nat) : Int := X (341 + k) + gn X t - gn X (X (301 + k)).toNat
theorem plc_b {X : Row} (hS : WS X) (hT : WT X) {k t : Nat} (hk : (k : Int) < X 6423) (ht : t ≤ 300) : -2700 ≤ plc X k t ∧ plc X k t ≤ 2760 := by
  have h1 := hT.2 k hk
  have h2 := gn_b hS t (by omega)
  have h3 := gn_b hS (X (301 + k)).toNat (by omega)
  unfold plc
  omega
/-- ARM a CAN take THING k at TICK t -/
def canB (X : Row) (a k t : Nat) : Bool := decide (((t : Int) - X (6413 + a)).tmod (X (6409 + a)) = 0 ∧ X (6417 + a) / 2 ^ (X (321 + k)).toNat % 2 = 1 ∧ X (301 + k) < t ∧ X (6401 + a) ≤ plc X k t ∧ plc X k t ≤ X (6405 + a))
def avX (X : Row) (w : Int) (k t : Nat) : Nat → Int
  | 0 => -6
  | a + 1 => if (a : Int) ≠ w ∧ canB X a k t = true then a else avX X w k t a
theorem avX_b {X : Row} {w : Int} {k t : Nat} : ∀ a, -6 ≤ avX X w k t a ∧ avX X w k t a < a ∨ avX X w k t a = -6 := by
  intro a
  induction a with
  | zero => simp [avX]
  | succ a ih => simp only [avX]; split <;> omega
def armR (X : Row) (w : Int) (i : Nat) : Int := avX X w (i / 301) (i % 301) 4
theorem lane_shr : ∀ x : Fin 16, ∀ y : Fin 4, Int32.ofInt (x.val : Int) >>> (Int32.ofInt (y.val : Int) &&& 31) = Int32.ofInt ((x.val : Int) / 2 ^ y.val) := by decide
theorem lane_and : ∀ x : Fin 16, Int32.ofInt (x.val : Int) &&& Int32.ofInt 1 = Int32.ofInt ((x.val : Int) % 2) := by decide
theorem lane_shr' {x y : Int} (hx : 0 ≤ x ∧ x ≤ 15) (hy : 0 ≤ y ∧ y ≤ 3) : Int32.ofInt x >>> (Int32.ofInt y &&& 31) = Int32.ofInt (x / 2 ^ y.toNat) := by
  have h := lane_shr ⟨x.toNat, by omega⟩ ⟨y.toNat, by omega⟩
  simp only [show ((x.toNat : Nat) : Int) = x by omega, show ((y.toNat : Nat) : Int) = y by omega] at h
  exact h
theorem lane_and' {x : Int} (hx : 0 ≤ x ∧ x ≤ 15) : Int32.ofInt x &&& Int32.ofInt 1 = Int32.ofInt (x % 2) := by
  have h := lane_and ⟨x.toNat, by omega⟩
  simp only [show ((x.toNat : Nat) : Int) = x by omega] at h
  exact h
theorem div_pow_b {x : Int} (n : Nat) (hx : 0 ≤ x ∧ x ≤ 15) : 0 ≤ x / 2 ^ n ∧ x / 2 ^ n ≤ 15 := by
  have hp : (0 : Int) < 2 ^ n := Int.pow_pos (by decide)
  refine ⟨Int.ediv_nonneg hx.1 (by omega), ?_⟩
  have := Int.ediv_le_self (2 ^ n) hx.1
  omega
theorem c_placeOf7 {σ : am_S} (hS : WS (σ.1 71)) (hT : WT (σ.1 71)) (hg : ∀ t, t ≤ 300 → σ.1 74 t = gn (σ.1 71) t) {k t : Nat} (hk : (k : Int) < σ.1 71 6423) (ht : t ≤ 300) : Runs am_tab mX7_placeOf [vR 70, vI k, vI t] σ (QI (fun z σ' => z = plc (σ.1 71) k t ∧ σ' = σ)) := by
  refine Runs.of (by decide) rfl (by simp) (Nat.le_of_ble_eq_true rfl) ?_
  show AW am_tab mX7_placeOf 0 [some (vR 70), some (vI k), some (vI t)] [] σ _
  have hk2 := hT.2 k hk
  have hM := hT.1
  refine AW_aload_n dX7_placeOf_0 rfl ?_
  refine AW_get dX7_placeOf_1 fX7_7 rfl rfl ?_
  refine AW_sipush dX7_placeOf_4 (by decide) ?_
  refine AW_iload_n dX7_placeOf_7 rfl ?_
  refine AW_iadd dX7_placeOf_8 ?_
  refine AW_ialdN (j := 341 + k) dX7_placeOf_9 rfl (Nat.le_of_ble_eq_true rfl) (by omega) (by omega) ?_
  refine AW_aload_n dX7_placeOf_10 rfl ?_
  refine AW_get dX7_placeOf_11 fX7_20 rfl rfl ?_
  refine AW_iload_n dX7_placeOf_14 rfl ?_
  refine AW_ialdN (j := t) dX7_placeOf_15 rfl (Nat.le_of_ble_eq_true rfl) (by omega) (by omega) ?_
  refine AW_iadd dX7_placeOf_16 ?_
  refine AW_aload_n dX7_placeOf_17 rfl ?_
  refine AW_get dX7_placeOf_18 fX7_20 rfl rfl ?_
  refine AW_aload_n dX7_placeOf_21 rfl ?_
  refine AW_get dX7_placeOf_22 fX7_7 rfl rfl ?_
  refine AW_sipush dX7_placeOf_25 (by decide) ?_
  refine AW_iload_n dX7_placeOf_28 rfl ?_
  refine AW_iadd dX7_placeOf_29 ?_
  refine AW_ialdN (j := 301 + k) dX7_placeOf_30 rfl (Nat.le_of_ble_eq_true rfl) (by omega) (by omega) ?_
  refine AW_ialdN (j := (σ.1 71 (301 + k)).toNat) dX7_placeOf_31 rfl (Nat.le_of_ble_eq_true rfl) (by omega) (by omega) ?_
  refine AW_isub dX7_placeOf_32 ?_
  refine AW_iret dX7_placeOf_33 rfl ?_
  refine ⟨_, rfl, ?_, rfl⟩
  rw [hg t ht, hg _ (by omega)]
  rfl
theorem c_wasSeen7 {σ : am_S} (hT : WT (σ.1 71)) {k t : Nat} (hk : (k : Int) < σ.1 71 6423) (ht : t ≤ 300) : Runs am_tab mX7_wasSeen [vR 70, vI k, vI t] σ (QB (σ.1 71 (381 + 301 * k + t) = 1) σ) := by
  refine Runs.of (by decide) rfl (by simp) (Nat.le_of_ble_eq_true rfl) ?_
  show AW am_tab mX7_wasSeen 0 [some (vR 70), some (vI k), some (vI t)] [] σ _
  have hk2 := (hT.2 k hk).2.2.2.2 t ht
  have hM := hT.1
  refine AW_aload_n dX7_wasSeen_0 rfl ?_
  refine AW_get dX7_wasSeen_1 fX7_7 rfl rfl ?_
  refine AW_sipush dX7_wasSeen_4 (by decide) ?_
  refine AW_sipush dX7_wasSeen_7 (by decide) ?_
  refine AW_iload_n dX7_wasSeen_10 rfl ?_
  refine AW_imul dX7_wasSeen_11 ?_
  refine AW_iadd dX7_wasSeen_12 ?_
  refine AW_iload_n dX7_wasSeen_13 rfl ?_
  refine AW_iadd dX7_wasSeen_14 ?_
  refine AW_ialdN (j := 381 + 301 * k + t) dX7_wasSeen_15 rfl (Nat.le_of_ble_eq_true rfl) (by omega) (by omega) ?_
  refine AW_iconst dX7_wasSeen_16 ?_
  refine AW_icmp_ne 24 dX7_wasSeen_17 (by decide) (by omega) (by omega) (fun h17 => ?_) (fun h17 => ?_)
  · refine AW_iconst dX7_wasSeen_24 ?_
    refine AW_zret dX7_wasSeen_25 rfl (by first | exact Or.inl rfl | exact Or.inr rfl) ?_
    exact ⟨_, rfl, rfl, by first | exact Or.inl ⟨rfl, by omega⟩ | exact Or.inr ⟨rfl, by omega⟩⟩
  · refine AW_iconst dX7_wasSeen_20 ?_
    refine AW_goto (tgt := 25) dX7_wasSeen_21 (by decide) ?_
    refine AW_zret dX7_wasSeen_25 rfl (by first | exact Or.inl rfl | exact Or.inr rfl) ?_
    exact ⟨_, rfl, rfl, by first | exact Or.inl ⟨rfl, by omega⟩ | exact Or.inr ⟨rfl, by omega⟩⟩
theorem c_size7 {T : List am_C} {σ : am_S} {x : Int} (hx : -2147483647 ≤ x ∧ x < 2147483648) : Runs T mX7_size [vI x] σ (QI (fun z σ' => z = (x.natAbs : Int) ∧ σ' = σ)) := by
  refine Runs.of (by decide) rfl (by simp) (Nat.le_of_ble_eq_true rfl) ?_
  show AW T mX7_size 0 [some (vI x)] [] σ _
  refine AW_iload_n dX7_size_0 rfl ?_
  refine AW_if_ge 9 dX7_size_1 (by decide) (by omega) (fun h1 => ?_) (fun h1 => ?_)
  · refine AW_iload_n dX7_size_9 rfl ?_
    refine AW_iret dX7_size_10 rfl ?_
    refine ⟨_, rfl, ?_, rfl⟩
    omega
  · refine AW_iload_n dX7_size_4 rfl ?_
    refine AW_ineg dX7_size_5 ?_
    refine AW_goto (tgt := 10) dX7_size_6 (by decide) ?_
    refine AW_iret dX7_size_10 rfl ?_
    refine ⟨_, rfl, ?_, rfl⟩
    omega
theorem Int.neg_lt_tmod_of_pos (a : Int) {b : Int} (h : 0 < b) : -b < a.tmod b := by
  have h1 := Int.tmod_lt_of_pos (-a) h
  rw [Int.neg_tmod] at h1
  omega
theorem c_canTake7 {σ : am_S} (hS : WS (σ.1 71)) (hT : WT (σ.1 71)) (hA : WA (σ.1 71)) (hg : ∀ t, t ≤ 300 → σ.1 74 t = gn (σ.1 71) t) {a k t : Nat} (ha : a < 4) (hk : (k : Int) < σ.1 71 6423) (ht : t ≤ 300) : Runs am_tab mX7_canTake [vR 70, vI a, vI k, vI t] σ (QB (canB (σ.1 71) a k t = true) σ) := by
  refine Runs.of (by decide) rfl (by simp) (Nat.le_of_ble_eq_true rfl) ?_
  show AW am_tab mX7_canTake 0 [some (vR 70), some (vI a), some (vI k), some (vI t), none, none, none] [] σ _
  have hk2 := hT.2 k hk
  have hM := hT.1
  have ha2 := hA.1 a ha
  have hp := plc_b hS hT hk ht
  have hd := div_pow_b (σ.1 71 (321 + k)).toNat ha2.2.2.2
  have hd2 := Int.emod_two_eq (σ.1 71 (6417 + a) / 2 ^ (σ.1 71 (321 + k)).toNat)
  refine AW_aload_n dX7_canTake_0 rfl ?_
  refine AW_iload_n dX7_canTake_1 rfl ?_
  refine AW_iload_n dX7_canTake_2 rfl ?_
  refine AW_cVI2 dX7_canTake_3 kX7_75 (am_fit_b rfl) rfl rfl (Nat.le_of_ble_eq_true rfl) (c_placeOf7 hS hT hg hk ht) (fun z σ' hq => ?_)
  obtain ⟨hz, hs⟩ := hq
  replace hz := hz.symm
  subst hz
  replace hs := hs.symm
  subst hs
  refine AW_istore (lv' := [_, _, _, _, _, _, _]) dX7_canTake_6 (by decide) (Nat.le_of_ble_eq_true rfl) rfl ?_
  refine AW_iload_n dX7_canTake_8 rfl ?_
  refine AW_aload_n dX7_canTake_9 rfl ?_
  refine AW_get dX7_canTake_10 fX7_7 rfl rfl ?_
  refine AW_sipush dX7_canTake_13 (by decide) ?_
  refine AW_iload_n dX7_canTake_16 rfl ?_
  refine AW_iadd dX7_canTake_17 ?_
  refine AW_ialdN (j := 6413 + a) dX7_canTake_18 rfl (Nat.le_of_ble_eq_true rfl) (by omega) (by omega) ?_
  refine AW_isub dX7_canTake_19 ?_
  refine AW_aload_n dX7_canTake_20 rfl ?_
  refine AW_get dX7_canTake_21 fX7_7 rfl rfl ?_
  refine AW_sipush dX7_canTake_24 (by decide) ?_
  refine AW_iload_n dX7_canTake_27 rfl ?_
  refine AW_iadd dX7_canTake_28 ?_
  refine AW_ialdN (j := 6409 + a) dX7_canTake_29 rfl (Nat.le_of_ble_eq_true rfl) (by omega) (by omega) ?_
  refine AW_irem dX7_canTake_30 (by omega) (by omega) (by omega) ?_
  have hr := Int.tmod_lt_of_pos ((t : Int) - σ.1 71 (6413 + a)) (show 0 < σ.1 71 (6409 + a) by omega)
  have hr2 := Int.neg_lt_tmod_of_pos ((t : Int) - σ.1 71 (6413 + a)) (show 0 < σ.1 71 (6409 + a) by omega)
  refine AW_if_ne 38 dX7_canTake_31 (by decide) (by omega) (fun h31 => ?_) (fun h31 => ?_)
  · refine AW_iconst dX7_canTake_38 ?_
    refine AW_istore (lv' := [_, _, _, _, _, _, _]) dX7_canTake_39 (by decide) (Nat.le_of_ble_eq_true rfl) rfl ?_
    refine AW_aload_n dX7_canTake_41 rfl ?_
    refine AW_get dX7_canTake_42 fX7_7 rfl rfl ?_
    refine AW_sipush dX7_canTake_45 (by decide) ?_
    refine AW_iload_n dX7_canTake_48 rfl ?_
    refine AW_iadd dX7_canTake_49 ?_
    refine AW_ialdN (j := 6417 + a) dX7_canTake_50 rfl (Nat.le_of_ble_eq_true rfl) (by omega) (by omega) ?_
    refine AW_aload_n dX7_canTake_51 rfl ?_
    refine AW_get dX7_canTake_52 fX7_7 rfl rfl ?_
    refine AW_sipush dX7_canTake_55 (by decide) ?_
    refine AW_iload_n dX7_canTake_58 rfl ?_
    refine AW_iadd dX7_canTake_59 ?_
    refine AW_ialdN (j := 321 + k) dX7_canTake_60 rfl (Nat.le_of_ble_eq_true rfl) (by omega) (by omega) ?_
    refine AW_ishr (z := σ.1 71 (6417 + a) / 2 ^ (σ.1 71 (321 + k)).toNat) dX7_canTake_61 (lane_shr' ha2.2.2.2 hk2.2.1) ?_
    refine AW_iconst dX7_canTake_62 ?_
    refine AW_iand (z := σ.1 71 (6417 + a) / 2 ^ (σ.1 71 (321 + k)).toNat % 2) dX7_canTake_63 (lane_and' hd) ?_
    refine AW_iconst dX7_canTake_64 ?_
    refine AW_icmp_ne 72 dX7_canTake_65 (by decide) (by omega) (by omega) (fun h65 => ?_) (fun h65 => ?_)
    · refine AW_iconst dX7_canTake_72 ?_
      refine AW_istore (lv' := [_, _, _, _, _, _, _]) dX7_canTake_73 (by decide) (Nat.le_of_ble_eq_true rfl) rfl ?_
      refine AW_iload dX7_canTake_75 rfl ?_
      refine AW_if_eq 131 dX7_canTake_77 (by decide) (by omega) (fun h77 => ?_) (fun h77 => ?_)
      · refine AW_iconst dX7_canTake_131 ?_
        refine AW_zret dX7_canTake_132 rfl (by first | exact Or.inl rfl | exact Or.inr rfl) ?_
        first
        | (exfalso; omega)
        | exact ⟨_, rfl, rfl, Or.inl ⟨rfl, by simp only [canB, decide_eq_true_eq]; omega⟩⟩
        | exact ⟨_, rfl, rfl, Or.inr ⟨rfl, by simp only [canB, decide_eq_true_eq]; omega⟩⟩
      · refine AW_iload dX7_canTake_80 rfl ?_
        refine AW_if_eq 131 dX7_canTake_82 (by decide) (by omega) (fun h82 => ?_) (fun h82 => ?_)
        · refine AW_iconst dX7_canTake_131 ?_
          refine AW_zret dX7_canTake_132 rfl (by first | exact Or.inl rfl | exact Or.inr rfl) ?_
          first
          | (exfalso; omega)
          | exact ⟨_, rfl, rfl, Or.inl ⟨rfl, by simp only [canB, decide_eq_true_eq]; omega⟩⟩
          | exact ⟨_, rfl, rfl, Or.inr ⟨rfl, by simp only [canB, decide_eq_true_eq]; omega⟩⟩
        · refine AW_iload_n dX7_canTake_85 rfl ?_
          refine AW_aload_n dX7_canTake_86 rfl ?_
          refine AW_get dX7_canTake_87 fX7_7 rfl rfl ?_
          refine AW_sipush dX7_canTake_90 (by decide) ?_
          refine AW_iload_n dX7_canTake_93 rfl ?_
          refine AW_iadd dX7_canTake_94 ?_
          refine AW_ialdN (j := 301 + k) dX7_canTake_95 rfl (Nat.le_of_ble_eq_true rfl) (by omega) (by omega) ?_
          refine AW_icmp_le 131 dX7_canTake_96 (by decide) (by omega) (by omega) (fun h96 => ?_) (fun h96 => ?_)
          · refine AW_iconst dX7_canTake_131 ?_
            refine AW_zret dX7_canTake_132 rfl (by first | exact Or.inl rfl | exact Or.inr rfl) ?_
            first
            | (exfalso; omega)
            | exact ⟨_, rfl, rfl, Or.inl ⟨rfl, by simp only [canB, decide_eq_true_eq]; omega⟩⟩
            | exact ⟨_, rfl, rfl, Or.inr ⟨rfl, by simp only [canB, decide_eq_true_eq]; omega⟩⟩
          · refine AW_iload dX7_canTake_99 rfl ?_
            refine AW_aload_n dX7_canTake_101 rfl ?_
            refine AW_get dX7_canTake_102 fX7_7 rfl rfl ?_
            refine AW_sipush dX7_canTake_105 (by decide) ?_
            refine AW_iload_n dX7_canTake_108 rfl ?_
            refine AW_iadd dX7_canTake_109 ?_
            refine AW_ialdN (j := 6401 + a) dX7_canTake_110 rfl (Nat.le_of_ble_eq_true rfl) (by omega) (by omega) ?_
            refine AW_aload_n dX7_canTake_111 rfl ?_
            refine AW_get dX7_canTake_112 fX7_7 rfl rfl ?_
            refine AW_sipush dX7_canTake_115 (by decide) ?_
            refine AW_iload_n dX7_canTake_118 rfl ?_
            refine AW_iadd dX7_canTake_119 ?_
            refine AW_ialdN (j := 6405 + a) dX7_canTake_120 rfl (Nat.le_of_ble_eq_true rfl) (by omega) (by omega) ?_
            refine AW_cSI3 dX7_canTake_121 kX7_56 (am_fit_b rfl) (Nat.le_of_ble_eq_true rfl) (c_in (by omega) (by omega) (by omega)) (fun z σ' hq => ?_)
            obtain ⟨rfl, ⟨rfl, h121⟩ | ⟨rfl, h121⟩⟩ := hq
            · refine AW_if_eq 131 dX7_canTake_124 (by decide) (by decide) (fun h => absurd h (by decide)) (fun _ => ?_)
              refine AW_iconst dX7_canTake_127 ?_
              refine AW_goto (tgt := 132) dX7_canTake_128 (by decide) ?_
              refine AW_zret dX7_canTake_132 rfl (by first | exact Or.inl rfl | exact Or.inr rfl) ?_
              first
              | (exfalso; omega)
              | exact ⟨_, rfl, rfl, Or.inl ⟨rfl, by simp only [canB, decide_eq_true_eq]; omega⟩⟩
              | exact ⟨_, rfl, rfl, Or.inr ⟨rfl, by simp only [canB, decide_eq_true_eq]; omega⟩⟩
            · refine AW_if_eq 131 dX7_canTake_124 (by decide) (by decide) (fun _ => ?_) (fun h => absurd (by decide) h)
              refine AW_iconst dX7_canTake_131 ?_
              refine AW_zret dX7_canTake_132 rfl (by first | exact Or.inl rfl | exact Or.inr rfl) ?_
              first
              | (exfalso; omega)
              | exact ⟨_, rfl, rfl, Or.inl ⟨rfl, by simp only [canB, decide_eq_true_eq]; omega⟩⟩
              | exact ⟨_, rfl, rfl, Or.inr ⟨rfl, by simp only [canB, decide_eq_true_eq]; omega⟩⟩
    · refine AW_iconst dX7_canTake_68 ?_
      refine AW_goto (tgt := 73) dX7_canTake_69 (by decide) ?_
      refine AW_istore (lv' := [_, _, _, _, _, _, _]) dX7_canTake_73 (by decide) (Nat.le_of_ble_eq_true rfl) rfl ?_
      refine AW_iload dX7_canTake_75 rfl ?_
      refine AW_if_eq 131 dX7_canTake_77 (by decide) (by omega) (fun h77 => ?_) (fun h77 => ?_)
      · refine AW_iconst dX7_canTake_131 ?_
        refine AW_zret dX7_canTake_132 rfl (by first | exact Or.inl rfl | exact Or.inr rfl) ?_
        first
        | (exfalso; omega)
        | exact ⟨_, rfl, rfl, Or.inl ⟨rfl, by simp only [canB, decide_eq_true_eq]; omega⟩⟩
        | exact ⟨_, rfl, rfl, Or.inr ⟨rfl, by simp only [canB, decide_eq_true_eq]; omega⟩⟩
      · refine AW_iload dX7_canTake_80 rfl ?_
        refine AW_if_eq 131 dX7_canTake_82 (by decide) (by omega) (fun h82 => ?_) (fun h82 => ?_)
        · refine AW_iconst dX7_canTake_131 ?_
          refine AW_zret dX7_canTake_132 rfl (by first | exact Or.inl rfl | exact Or.inr rfl) ?_
          first
          | (exfalso; omega)
          | exact ⟨_, rfl, rfl, Or.inl ⟨rfl, by simp only [canB, decide_eq_true_eq]; omega⟩⟩
          | exact ⟨_, rfl, rfl, Or.inr ⟨rfl, by simp only [canB, decide_eq_true_eq]; omega⟩⟩
        · refine AW_iload_n dX7_canTake_85 rfl ?_
          refine AW_aload_n dX7_canTake_86 rfl ?_
          refine AW_get dX7_canTake_87 fX7_7 rfl rfl ?_
          refine AW_sipush dX7_canTake_90 (by decide) ?_
          refine AW_iload_n dX7_canTake_93 rfl ?_
          refine AW_iadd dX7_canTake_94 ?_
          refine AW_ialdN (j := 301 + k) dX7_canTake_95 rfl (Nat.le_of_ble_eq_true rfl) (by omega) (by omega) ?_
          refine AW_icmp_le 131 dX7_canTake_96 (by decide) (by omega) (by omega) (fun h96 => ?_) (fun h96 => ?_)
          · refine AW_iconst dX7_canTake_131 ?_
            refine AW_zret dX7_canTake_132 rfl (by first | exact Or.inl rfl | exact Or.inr rfl) ?_
            first
            | (exfalso; omega)
            | exact ⟨_, rfl, rfl, Or.inl ⟨rfl, by simp only [canB, decide_eq_true_eq]; omega⟩⟩
            | exact ⟨_, rfl, rfl, Or.inr ⟨rfl, by simp only [canB, decide_eq_true_eq]; omega⟩⟩
          · refine AW_iload dX7_canTake_99 rfl ?_
            refine AW_aload_n dX7_canTake_101 rfl ?_
            refine AW_get dX7_canTake_102 fX7_7 rfl rfl ?_
            refine AW_sipush dX7_canTake_105 (by decide) ?_
            refine AW_iload_n dX7_canTake_108 rfl ?_
            refine AW_iadd dX7_canTake_109 ?_
            refine AW_ialdN (j := 6401 + a) dX7_canTake_110 rfl (Nat.le_of_ble_eq_true rfl) (by omega) (by omega) ?_
            refine AW_aload_n dX7_canTake_111 rfl ?_
            refine AW_get dX7_canTake_112 fX7_7 rfl rfl ?_
            refine AW_sipush dX7_canTake_115 (by decide) ?_
            refine AW_iload_n dX7_canTake_118 rfl ?_
            refine AW_iadd dX7_canTake_119 ?_
            refine AW_ialdN (j := 6405 + a) dX7_canTake_120 rfl (Nat.le_of_ble_eq_true rfl) (by omega) (by omega) ?_
            refine AW_cSI3 dX7_canTake_121 kX7_56 (am_fit_b rfl) (Nat.le_of_ble_eq_true rfl) (c_in (by omega) (by omega) (by omega)) (fun z σ' hq => ?_)
            obtain ⟨rfl, ⟨rfl, h121⟩ | ⟨rfl, h121⟩⟩ := hq
            · refine AW_if_eq 131 dX7_canTake_124 (by decide) (by decide) (fun h => absurd h (by decide)) (fun _ => ?_)
              refine AW_iconst dX7_canTake_127 ?_
              refine AW_goto (tgt := 132) dX7_canTake_128 (by decide) ?_
              refine AW_zret dX7_canTake_132 rfl (by first | exact Or.inl rfl | exact Or.inr rfl) ?_
              first
              | (exfalso; omega)
              | exact ⟨_, rfl, rfl, Or.inl ⟨rfl, by simp only [canB, decide_eq_true_eq]; omega⟩⟩
              | exact ⟨_, rfl, rfl, Or.inr ⟨rfl, by simp only [canB, decide_eq_true_eq]; omega⟩⟩
            · refine AW_if_eq 131 dX7_canTake_124 (by decide) (by decide) (fun _ => ?_) (fun h => absurd (by decide) h)
              refine AW_iconst dX7_canTake_131 ?_
              refine AW_zret dX7_canTake_132 rfl (by first | exact Or.inl rfl | exact Or.inr rfl) ?_
              first
              | (exfalso; omega)
              | exact ⟨_, rfl, rfl, Or.inl ⟨rfl, by simp only [canB, decide_eq_true_eq]; omega⟩⟩
              | exact ⟨_, rfl, rfl, Or.inr ⟨rfl, by simp only [canB, decide_eq_true_eq]; omega⟩⟩
  · refine AW_iconst dX7_canTake_34 ?_
    refine AW_goto (tgt := 39) dX7_canTake_35 (by decide) ?_
    refine AW_istore (lv' := [_, _, _, _, _, _, _]) dX7_canTake_39 (by decide) (Nat.le_of_ble_eq_true rfl) rfl ?_
    refine AW_aload_n dX7_canTake_41 rfl ?_
    refine AW_get dX7_canTake_42 fX7_7 rfl rfl ?_
    refine AW_sipush dX7_canTake_45 (by decide) ?_
    refine AW_iload_n dX7_canTake_48 rfl ?_
    refine AW_iadd dX7_canTake_49 ?_
    refine AW_ialdN (j := 6417 + a) dX7_canTake_50 rfl (Nat.le_of_ble_eq_true rfl) (by omega) (by omega) ?_
    refine AW_aload_n dX7_canTake_51 rfl ?_
    refine AW_get dX7_canTake_52 fX7_7 rfl rfl ?_
    refine AW_sipush dX7_canTake_55 (by decide) ?_
    refine AW_iload_n dX7_canTake_58 rfl ?_
    refine AW_iadd dX7_canTake_59 ?_
    refine AW_ialdN (j := 321 + k) dX7_canTake_60 rfl (Nat.le_of_ble_eq_true rfl) (by omega) (by omega) ?_
    refine AW_ishr (z := σ.1 71 (6417 + a) / 2 ^ (σ.1 71 (321 + k)).toNat) dX7_canTake_61 (lane_shr' ha2.2.2.2 hk2.2.1) ?_
    refine AW_iconst dX7_canTake_62 ?_
    refine AW_iand (z := σ.1 71 (6417 + a) / 2 ^ (σ.1 71 (321 + k)).toNat % 2) dX7_canTake_63 (lane_and' hd) ?_
    refine AW_iconst dX7_canTake_64 ?_
    refine AW_icmp_ne 72 dX7_canTake_65 (by decide) (by omega) (by omega) (fun h65 => ?_) (fun h65 => ?_)
    · refine AW_iconst dX7_canTake_72 ?_
      refine AW_istore (lv' := [_, _, _, _, _, _, _]) dX7_canTake_73 (by decide) (Nat.le_of_ble_eq_true rfl) rfl ?_
      refine AW_iload dX7_canTake_75 rfl ?_
      refine AW_if_eq 131 dX7_canTake_77 (by decide) (by omega) (fun h77 => ?_) (fun h77 => ?_)
      · refine AW_iconst dX7_canTake_131 ?_
        refine AW_zret dX7_canTake_132 rfl (by first | exact Or.inl rfl | exact Or.inr rfl) ?_
        first
        | (exfalso; omega)
        | exact ⟨_, rfl, rfl, Or.inl ⟨rfl, by simp only [canB, decide_eq_true_eq]; omega⟩⟩
        | exact ⟨_, rfl, rfl, Or.inr ⟨rfl, by simp only [canB, decide_eq_true_eq]; omega⟩⟩
      · refine AW_iload dX7_canTake_80 rfl ?_
        refine AW_if_eq 131 dX7_canTake_82 (by decide) (by omega) (fun h82 => ?_) (fun h82 => ?_)
        · refine AW_iconst dX7_canTake_131 ?_
          refine AW_zret dX7_canTake_132 rfl (by first | exact Or.inl rfl | exact Or.inr rfl) ?_
          first
          | (exfalso; omega)
          | exact ⟨_, rfl, rfl, Or.inl ⟨rfl, by simp only [canB, decide_eq_true_eq]; omega⟩⟩
          | exact ⟨_, rfl, rfl, Or.inr ⟨rfl, by simp only [canB, decide_eq_true_eq]; omega⟩⟩
        · refine AW_iload_n dX7_canTake_85 rfl ?_
          refine AW_aload_n dX7_canTake_86 rfl ?_
          refine AW_get dX7_canTake_87 fX7_7 rfl rfl ?_
          refine AW_sipush dX7_canTake_90 (by decide) ?_
          refine AW_iload_n dX7_canTake_93 rfl ?_
          refine AW_iadd dX7_canTake_94 ?_
          refine AW_ialdN (j := 301 + k) dX7_canTake_95 rfl (Nat.le_of_ble_eq_true rfl) (by omega) (by omega) ?_
          refine AW_icmp_le 131 dX7_canTake_96 (by decide) (by omega) (by omega) (fun h96 => ?_) (fun h96 => ?_)
          · refine AW_iconst dX7_canTake_131 ?_
            refine AW_zret dX7_canTake_132 rfl (by first | exact Or.inl rfl | exact Or.inr rfl) ?_
            first
            | (exfalso; omega)
            | exact ⟨_, rfl, rfl, Or.inl ⟨rfl, by simp only [canB, decide_eq_true_eq]; omega⟩⟩
            | exact ⟨_, rfl, rfl, Or.inr ⟨rfl, by simp only [canB, decide_eq_true_eq]; omega⟩⟩
          · refine AW_iload dX7_canTake_99 rfl ?_
            refine AW_aload_n dX7_canTake_101 rfl ?_
            refine AW_get dX7_canTake_102 fX7_7 rfl rfl ?_
            refine AW_sipush dX7_canTake_105 (by decide) ?_
            refine AW_iload_n dX7_canTake_108 rfl ?_
            refine AW_iadd dX7_canTake_109 ?_
            refine AW_ialdN (j := 6401 + a) dX7_canTake_110 rfl (Nat.le_of_ble_eq_true rfl) (by omega) (by omega) ?_
            refine AW_aload_n dX7_canTake_111 rfl ?_
            refine AW_get dX7_canTake_112 fX7_7 rfl rfl ?_
            refine AW_sipush dX7_canTake_115 (by decide) ?_
            refine AW_iload_n dX7_canTake_118 rfl ?_
            refine AW_iadd dX7_canTake_119 ?_
            refine AW_ialdN (j := 6405 + a) dX7_canTake_120 rfl (Nat.le_of_ble_eq_true rfl) (by omega) (by omega) ?_
            refine AW_cSI3 dX7_canTake_121 kX7_56 (am_fit_b rfl) (Nat.le_of_ble_eq_true rfl) (c_in (by omega) (by omega) (by omega)) (fun z σ' hq => ?_)
            obtain ⟨rfl, ⟨rfl, h121⟩ | ⟨rfl, h121⟩⟩ := hq
            · refine AW_if_eq 131 dX7_canTake_124 (by decide) (by decide) (fun h => absurd h (by decide)) (fun _ => ?_)
              refine AW_iconst dX7_canTake_127 ?_
              refine AW_goto (tgt := 132) dX7_canTake_128 (by decide) ?_
              refine AW_zret dX7_canTake_132 rfl (by first | exact Or.inl rfl | exact Or.inr rfl) ?_
              first
              | (exfalso; omega)
              | exact ⟨_, rfl, rfl, Or.inl ⟨rfl, by simp only [canB, decide_eq_true_eq]; omega⟩⟩
              | exact ⟨_, rfl, rfl, Or.inr ⟨rfl, by simp only [canB, decide_eq_true_eq]; omega⟩⟩
            · refine AW_if_eq 131 dX7_canTake_124 (by decide) (by decide) (fun _ => ?_) (fun h => absurd (by decide) h)
              refine AW_iconst dX7_canTake_131 ?_
              refine AW_zret dX7_canTake_132 rfl (by first | exact Or.inl rfl | exact Or.inr rfl) ?_
              first
              | (exfalso; omega)
              | exact ⟨_, rfl, rfl, Or.inl ⟨rfl, by simp only [canB, decide_eq_true_eq]; omega⟩⟩
              | exact ⟨_, rfl, rfl, Or.inr ⟨rfl, by simp only [canB, decide_eq_true_eq]; omega⟩⟩
    · refine AW_iconst dX7_canTake_68 ?_
      refine AW_goto (tgt := 73) dX7_canTake_69 (by decide) ?_
      refine AW_istore (lv' := [_, _, _, _, _, _, _]) dX7_canTake_73 (by decide) (Nat.le_of_ble_eq_true rfl) rfl ?_
      refine AW_iload dX7_canTake_75 rfl ?_
      refine AW_if_eq 131 dX7_canTake_77 (by decide) (by omega) (fun h77 => ?_) (fun h77 => ?_)
      · refine AW_iconst dX7_canTake_131 ?_
        refine AW_zret dX7_canTake_132 rfl (by first | exact Or.inl rfl | exact Or.inr rfl) ?_
        first
        | (exfalso; omega)
        | exact ⟨_, rfl, rfl, Or.inl ⟨rfl, by simp only [canB, decide_eq_true_eq]; omega⟩⟩
        | exact ⟨_, rfl, rfl, Or.inr ⟨rfl, by simp only [canB, decide_eq_true_eq]; omega⟩⟩
      · refine AW_iload dX7_canTake_80 rfl ?_
        refine AW_if_eq 131 dX7_canTake_82 (by decide) (by omega) (fun h82 => ?_) (fun h82 => ?_)
        · refine AW_iconst dX7_canTake_131 ?_
          refine AW_zret dX7_canTake_132 rfl (by first | exact Or.inl rfl | exact Or.inr rfl) ?_
          first
          | (exfalso; omega)
          | exact ⟨_, rfl, rfl, Or.inl ⟨rfl, by simp only [canB, decide_eq_true_eq]; omega⟩⟩
          | exact ⟨_, rfl, rfl, Or.inr ⟨rfl, by simp only [canB, decide_eq_true_eq]; omega⟩⟩
        · refine AW_iload_n dX7_canTake_85 rfl ?_
          refine AW_aload_n dX7_canTake_86 rfl ?_
          refine AW_get dX7_canTake_87 fX7_7 rfl rfl ?_
          refine AW_sipush dX7_canTake_90 (by decide) ?_
          refine AW_iload_n dX7_canTake_93 rfl ?_
          refine AW_iadd dX7_canTake_94 ?_
          refine AW_ialdN (j := 301 + k) dX7_canTake_95 rfl (Nat.le_of_ble_eq_true rfl) (by omega) (by omega) ?_
          refine AW_icmp_le 131 dX7_canTake_96 (by decide) (by omega) (by omega) (fun h96 => ?_) (fun h96 => ?_)
          · refine AW_iconst dX7_canTake_131 ?_
            refine AW_zret dX7_canTake_132 rfl (by first | exact Or.inl rfl | exact Or.inr rfl) ?_
            first
            | (exfalso; omega)
            | exact ⟨_, rfl, rfl, Or.inl ⟨rfl, by simp only [canB, decide_eq_true_eq]; omega⟩⟩
            | exact ⟨_, rfl, rfl, Or.inr ⟨rfl, by simp only [canB, decide_eq_true_eq]; omega⟩⟩
          · refine AW_iload dX7_canTake_99 rfl ?_
            refine AW_aload_n dX7_canTake_101 rfl ?_
            refine AW_get dX7_canTake_102 fX7_7 rfl rfl ?_
            refine AW_sipush dX7_canTake_105 (by decide) ?_
            refine AW_iload_n dX7_canTake_108 rfl ?_
            refine AW_iadd dX7_canTake_109 ?_
            refine AW_ialdN (j := 6401 + a) dX7_canTake_110 rfl (Nat.le_of_ble_eq_true rfl) (by omega) (by omega) ?_
            refine AW_aload_n dX7_canTake_111 rfl ?_
            refine AW_get dX7_canTake_112 fX7_7 rfl rfl ?_
            refine AW_sipush dX7_canTake_115 (by decide) ?_
            refine AW_iload_n dX7_canTake_118 rfl ?_
            refine AW_iadd dX7_canTake_119 ?_
            refine AW_ialdN (j := 6405 + a) dX7_canTake_120 rfl (Nat.le_of_ble_eq_true rfl) (by omega) (by omega) ?_
            refine AW_cSI3 dX7_canTake_121 kX7_56 (am_fit_b rfl) (Nat.le_of_ble_eq_true rfl) (c_in (by omega) (by omega) (by omega)) (fun z σ' hq => ?_)
            obtain ⟨rfl, ⟨rfl, h121⟩ | ⟨rfl, h121⟩⟩ := hq
            · refine AW_if_eq 131 dX7_canTake_124 (by decide) (by decide) (fun h => absurd h (by decide)) (fun _ => ?_)
              refine AW_iconst dX7_canTake_127 ?_
              refine AW_goto (tgt := 132) dX7_canTake_128 (by decide) ?_
              refine AW_zret dX7_canTake_132 rfl (by first | exact Or.inl rfl | exact Or.inr rfl) ?_
              first
              | (exfalso; omega)
              | exact ⟨_, rfl, rfl, Or.inl ⟨rfl, by simp only [canB, decide_eq_true_eq]; omega⟩⟩
              | exact ⟨_, rfl, rfl, Or.inr ⟨rfl, by simp only [canB, decide_eq_true_eq]; omega⟩⟩
            · refine AW_if_eq 131 dX7_canTake_124 (by decide) (by decide) (fun _ => ?_) (fun h => absurd (by decide) h)
              refine AW_iconst dX7_canTake_131 ?_
              refine AW_zret dX7_canTake_132 rfl (by first | exact Or.inl rfl | exact Or.inr rfl) ?_
              first
              | (exfalso; omega)
              | exact ⟨_, rfl, rfl, Or.inl ⟨rfl, by simp only [canB, decide_eq_true_eq]; omega⟩⟩
              | exact ⟨_, rfl, rfl, Or.inr ⟨rfl, by simp only [canB, decide_eq_true_eq]; omega⟩⟩
end
section
theorem gl_row {σ : am_S} : ∀ t, t ≤ 300 → (am_row σ 74 301 (gn (σ.1 71))).1 74 t = gn ((am_row σ 74 301 (gn (σ.1 71))).1 71) t := by
  intro t ht
  rw [am_row_at (by omega), am_row_other (by decide)]
def placeS (X : Row) (thing tick : Int) : Int := if 0 ≤ thing ∧ thing < X 6423 then (if 0 ≤ tick ∧ tick ≤ 300 then 10000 + plc X thing.toNat tick.toNat else -2) else -1
def canS (X : Row) (arm thing tick : Int) : Int := if (0 ≤ arm ∧ arm ≤ 3) ∧ 0 ≤ thing ∧ thing < X 6423 then (if 0 ≤ tick ∧ tick ≤ 300 then (if canB X arm.toNat thing.toNat tick.toNat = true then 1 else 0) else -2) else -1
theorem c_place7 {σ : am_S} (hS : WS (σ.1 71)) (hT : WT (σ.1 71)) {thing tick : Int} (hthing : -2147483648 ≤ thing ∧ thing < 2147483648) (htick : -2147483648 ≤ tick ∧ tick < 2147483648) : Runs am_tab mX7_place [vR 70, vI thing, vI tick] σ (QI (fun z σ' => z = placeS (σ.1 71) thing tick ∧ MS σ σ' (σ.1 71))) := by
  refine Runs.of (by decide) rfl (by simp) (Nat.le_of_ble_eq_true rfl) ?_
  show AW am_tab mX7_place 0 [some (vR 70), some (vI thing), some (vI tick)] [] σ _
  refine AW_aload_n dX7_place_0 rfl ?_
  refine AW_iload_n dX7_place_1 rfl ?_
  refine AW_cVI1 dX7_place_2 kX7_86 (am_fit_b rfl) rfl rfl (Nat.le_of_ble_eq_true rfl) (c_isThing7 hthing hT.1) (fun z σ' hq => ?_)
  obtain ⟨rfl, ⟨rfl, h2⟩ | ⟨rfl, h2⟩⟩ := hq
  · refine AW_if_ne 10 dX7_place_5 (by decide) (by decide) (fun _ => ?_) (fun h => absurd (by decide) h)
    refine AW_iload_n dX7_place_10 rfl ?_
    refine AW_cSI1 dX7_place_11 kX7_60 (am_fit_b rfl) (Nat.le_of_ble_eq_true rfl) (c_isTick7 htick) (fun z σ' hq => ?_)
    obtain ⟨rfl, ⟨rfl, h11⟩ | ⟨rfl, h11⟩⟩ := hq
    · refine AW_if_ne 20 dX7_place_14 (by decide) (by decide) (fun _ => ?_) (fun h => absurd (by decide) h)
      refine AW_aload_n dX7_place_20 rfl ?_
      obtain ⟨k, rfl⟩ : ∃ k : Nat, thing = k := ⟨thing.toNat, by omega⟩
      obtain ⟨t, rfl⟩ : ∃ t : Nat, tick = t := ⟨tick.toNat, by omega⟩
      refine AW_cVV0 dX7_place_21 kX7_72 (am_fit_b rfl) rfl rfl (Nat.le_of_ble_eq_true rfl) (c_layGone7 hS) (fun σ' hq => ?_)
      replace hq := hq.symm
      subst hq
      refine AW_sipush dX7_place_24 (by decide) ?_
      refine AW_aload_n dX7_place_27 rfl ?_
      refine AW_iload_n dX7_place_28 rfl ?_
      refine AW_iload_n dX7_place_29 rfl ?_
      refine AW_cVI2 dX7_place_30 kX7_75 (am_fit_b rfl) rfl rfl (Nat.le_of_ble_eq_true rfl) (c_placeOf7 (σ := am_row σ 74 301 (gn (σ.1 71))) (by rw [am_row_other (by decide)]; exact hS) (by rw [am_row_other (by decide)]; exact hT) gl_row (by rw [am_row_other (by decide)]; omega) (by omega)) (fun z σ' hq => ?_)
      obtain ⟨hz, rfl⟩ := hq
      rw [am_row_other (by decide)] at hz
      subst hz
      refine AW_iadd dX7_place_33 ?_
      refine AW_iret dX7_place_34 rfl ?_
      refine ⟨_, rfl, ?_⟩
      simp only [placeS, Int.toNat_natCast]
      rw [if_pos (by omega), if_pos (by omega)]
      exact ⟨rfl, MS.rf.row (by decide)⟩
    · refine AW_if_ne 20 dX7_place_14 (by decide) (by decide) (fun h => absurd h (by decide)) (fun _ => ?_)
      refine AW_bipush dX7_place_17 (by decide) ?_
      refine AW_iret dX7_place_19 rfl ?_
      refine ⟨_, rfl, ?_⟩
      simp only [placeS, Int.toNat_natCast]
      rw [if_pos (by omega), if_neg (by omega)]
      exact ⟨rfl, MS.rf⟩
  · refine AW_if_ne 10 dX7_place_5 (by decide) (by decide) (fun h => absurd h (by decide)) (fun _ => ?_)
    refine AW_iconst dX7_place_8 ?_
    refine AW_iret dX7_place_9 rfl ?_
    refine ⟨_, rfl, ?_⟩
    simp only [placeS, Int.toNat_natCast]
    rw [if_neg (by omega)]
    exact ⟨rfl, MS.rf⟩
theorem c_can7 {σ : am_S} (hS : WS (σ.1 71)) (hT : WT (σ.1 71)) (hA : WA (σ.1 71)) {arm thing tick : Int} (harm : -2147483648 ≤ arm ∧ arm < 2147483648) (hthing : -2147483648 ≤ thing ∧ thing < 2147483648) (htick : -2147483648 ≤ tick ∧ tick < 2147483648) : Runs am_tab mX7_can [vR 70, vI arm, vI thing, vI tick] σ (QI (fun z σ' => z = canS (σ.1 71) arm thing tick ∧ MS σ σ' (σ.1 71))) := by
  refine Runs.of (by decide) rfl (by simp) (Nat.le_of_ble_eq_true rfl) ?_
  show AW am_tab mX7_can 0 [some (vR 70), some (vI arm), some (vI thing), some (vI tick)] [] σ _
  refine AW_iload_n dX7_can_0 rfl ?_
  refine AW_cSI1 dX7_can_1 kX7_89 (am_fit_b rfl) (Nat.le_of_ble_eq_true rfl) (c_isArm7 harm) (fun z σ' hq => ?_)
  obtain ⟨rfl, ⟨rfl, h1⟩ | ⟨rfl, h1⟩⟩ := hq
  · refine AW_if_eq 15 dX7_can_4 (by decide) (by decide) (fun h => absurd h (by decide)) (fun _ => ?_)
    refine AW_aload_n dX7_can_7 rfl ?_
    refine AW_iload_n dX7_can_8 rfl ?_
    refine AW_cVI1 dX7_can_9 kX7_86 (am_fit_b rfl) rfl rfl (Nat.le_of_ble_eq_true rfl) (c_isThing7 hthing hT.1) (fun z σ' hq => ?_)
    obtain ⟨rfl, ⟨rfl, h9⟩ | ⟨rfl, h9⟩⟩ := hq
    · refine AW_if_ne 17 dX7_can_12 (by decide) (by decide) (fun _ => ?_) (fun h => absurd (by decide) h)
      refine AW_iload_n dX7_can_17 rfl ?_
      refine AW_cSI1 dX7_can_18 kX7_60 (am_fit_b rfl) (Nat.le_of_ble_eq_true rfl) (c_isTick7 htick) (fun z σ' hq => ?_)
      obtain ⟨rfl, ⟨rfl, h18⟩ | ⟨rfl, h18⟩⟩ := hq
      · refine AW_if_ne 27 dX7_can_21 (by decide) (by decide) (fun _ => ?_) (fun h => absurd (by decide) h)
        refine AW_aload_n dX7_can_27 rfl ?_
        obtain ⟨a, rfl⟩ : ∃ a : Nat, arm = a := ⟨arm.toNat, by omega⟩
        obtain ⟨k, rfl⟩ : ∃ k : Nat, thing = k := ⟨thing.toNat, by omega⟩
        obtain ⟨t, rfl⟩ : ∃ t : Nat, tick = t := ⟨tick.toNat, by omega⟩
        refine AW_cVV0 dX7_can_28 kX7_72 (am_fit_b rfl) rfl rfl (Nat.le_of_ble_eq_true rfl) (c_layGone7 hS) (fun σ' hq => ?_)
        replace hq := hq.symm
        subst hq
        refine AW_aload_n dX7_can_31 rfl ?_
        refine AW_iload_n dX7_can_32 rfl ?_
        refine AW_iload_n dX7_can_33 rfl ?_
        refine AW_iload_n dX7_can_34 rfl ?_
        refine AW_cVI3 dX7_can_35 kX7_92 (am_fit_b rfl) rfl rfl (Nat.le_of_ble_eq_true rfl) (c_canTake7 (σ := am_row σ 74 301 (gn (σ.1 71))) (by rw [am_row_other (by decide)]; exact hS) (by rw [am_row_other (by decide)]; exact hT) (by rw [am_row_other (by decide)]; exact hA) gl_row (by omega) (by rw [am_row_other (by decide)]; omega) (by omega)) (fun z σ' hq => ?_)
        obtain ⟨rfl, ⟨rfl, h35⟩ | ⟨rfl, h35⟩⟩ := hq
        · refine AW_if_eq 45 dX7_can_38 (by decide) (by decide) (fun h => absurd h (by decide)) (fun _ => ?_)
          rw [am_row_other (by decide)] at h35
          refine AW_iconst dX7_can_41 ?_
          refine AW_goto (tgt := 46) dX7_can_42 (by decide) ?_
          refine AW_iret dX7_can_46 rfl ?_
          refine ⟨_, rfl, ?_⟩
          simp only [canS, Int.toNat_natCast]
          rw [if_pos (by omega), if_pos (by omega)]
          first
          | (rw [if_pos h35]; exact ⟨rfl, MS.rf.row (by decide)⟩)
          | (rw [if_neg h35]; exact ⟨rfl, MS.rf.row (by decide)⟩)
        · refine AW_if_eq 45 dX7_can_38 (by decide) (by decide) (fun _ => ?_) (fun h => absurd (by decide) h)
          rw [am_row_other (by decide)] at h35
          refine AW_iconst dX7_can_45 ?_
          refine AW_iret dX7_can_46 rfl ?_
          refine ⟨_, rfl, ?_⟩
          simp only [canS, Int.toNat_natCast]
          rw [if_pos (by omega), if_pos (by omega)]
          first
          | (rw [if_pos h35]; exact ⟨rfl, MS.rf.row (by decide)⟩)
          | (rw [if_neg h35]; exact ⟨rfl, MS.rf.row (by decide)⟩)
      · refine AW_if_ne 27 dX7_can_21 (by decide) (by decide) (fun h => absurd h (by decide)) (fun _ => ?_)
        refine AW_bipush dX7_can_24 (by decide) ?_
        refine AW_iret dX7_can_26 rfl ?_
        refine ⟨_, rfl, ?_⟩
        simp only [canS, Int.toNat_natCast]
        rw [if_pos (by omega), if_neg (by omega)]
        exact ⟨rfl, MS.rf⟩
    · refine AW_if_ne 17 dX7_can_12 (by decide) (by decide) (fun h => absurd h (by decide)) (fun _ => ?_)
      refine AW_iconst dX7_can_15 ?_
      refine AW_iret dX7_can_16 rfl ?_
      refine ⟨_, rfl, ?_⟩
      simp only [canS, Int.toNat_natCast]
      rw [if_neg (by omega)]
      exact ⟨rfl, MS.rf⟩
  · refine AW_if_eq 15 dX7_can_4 (by decide) (by decide) (fun _ => ?_) (fun h => absurd (by decide) h)
    refine AW_iconst dX7_can_15 ?_
    refine AW_iret dX7_can_16 rfl ?_
    refine ⟨_, rfl, ?_⟩
    simp only [canS, Int.toNat_natCast]
    rw [if_neg (by omega)]
    exact ⟨rfl, MS.rf⟩
def seenN (X : Row) (k : Nat) : Nat → Int
  | 0 => 0
  | t + 1 => seenN X k t + (if X (381 + 301 * k + t) = 1 then 1 else 0)
theorem seenN_b {X : Row} {k : Nat} : ∀ t, 0 ≤ seenN X k t ∧ seenN X k t ≤ t := by
  intro t
  induction t with
  | zero => simp [seenN]
  | succ t ih => simp only [seenN]; split <;> omega
theorem l_seenOf7 {σ : am_S} (hT : WT (σ.1 71)) {k : Nat} (hk : (k : Int) < σ.1 71 6423) {Q : Option am_V → am_S → Prop} (hQ : Q (some (vI (seenN (σ.1 71) k 301))) σ) : ∀ i, i ≤ 301 → AW am_tab mX7_seenOf 4 [some (vR 70), some (vI k), some (vI (seenN (σ.1 71) k i)), some (vI i)] [] σ Q :=
  up_loop (fun i hi ih => by
    refine AW_iload_n dX7_seenOf_4 rfl ?_
    refine AW_sipush dX7_seenOf_5 (by decide) ?_
    refine AW_icmp_ge 34 dX7_seenOf_8 (by decide) (by omega) (by omega) (fun h8 => ?_) (fun h8 => ?_)
    · refine AW_iload_n dX7_seenOf_34 rfl ?_
      refine AW_iret dX7_seenOf_35 rfl ?_
      have e : i = 301 := by omega
      subst e
      exact hQ
    · refine AW_iload_n dX7_seenOf_11 rfl ?_
      refine AW_aload_n dX7_seenOf_12 rfl ?_
      refine AW_iload_n dX7_seenOf_13 rfl ?_
      refine AW_iload_n dX7_seenOf_14 rfl ?_
      refine AW_cVI2 dX7_seenOf_15 kX7_82 (am_fit_b rfl) rfl rfl (Nat.le_of_ble_eq_true rfl) (c_wasSeen7 hT hk (by omega)) (fun z σ' hq => ?_)
      obtain ⟨rfl, ⟨rfl, h15⟩ | ⟨rfl, h15⟩⟩ := hq
      · refine AW_if_eq 25 dX7_seenOf_18 (by decide) (by decide) (fun h => absurd h (by decide)) (fun _ => ?_)
        refine AW_iconst dX7_seenOf_21 ?_
        refine AW_goto (tgt := 26) dX7_seenOf_22 (by decide) ?_
        refine AW_iadd dX7_seenOf_26 ?_
        refine AW_istore_n (i := 2) (lv' := [_, _, _, _]) dX7_seenOf_27 rfl (by decide) (Nat.le_of_ble_eq_true rfl) rfl ?_
        refine AW_iinc (lv' := [_, _, _, _]) dX7_seenOf_28 rfl (by decide) rfl ?_
        refine AW_goto (tgt := 4) dX7_seenOf_31 (by decide) ?_
        have e : seenN (σ.1 71) k (i + 1) = seenN (σ.1 71) k i + (if σ.1 71 (381 + 301 * k + i) = 1 then 1 else 0) := rfl
        first
        | rw [if_pos h15] at e
        | rw [if_neg h15] at e
        rw [← e]
        exact ih (by omega)
      · refine AW_if_eq 25 dX7_seenOf_18 (by decide) (by decide) (fun _ => ?_) (fun h => absurd (by decide) h)
        refine AW_iconst dX7_seenOf_25 ?_
        refine AW_iadd dX7_seenOf_26 ?_
        refine AW_istore_n (i := 2) (lv' := [_, _, _, _]) dX7_seenOf_27 rfl (by decide) (Nat.le_of_ble_eq_true rfl) rfl ?_
        refine AW_iinc (lv' := [_, _, _, _]) dX7_seenOf_28 rfl (by decide) rfl ?_
        refine AW_goto (tgt := 4) dX7_seenOf_31 (by decide) ?_
        have e : seenN (σ.1 71) k (i + 1) = seenN (σ.1 71) k i + (if σ.1 71 (381 + 301 * k + i) = 1 then 1 else 0) := rfl
        first
        | rw [if_pos h15] at e
        | rw [if_neg h15] at e
        rw [← e]
        exact ih (by omega))
theorem c_seenOf7 {σ : am_S} (hT : WT (σ.1 71)) {k : Nat} (hk : (k : Int) < σ.1 71 6423) : Runs am_tab mX7_seenOf [vR 70, vI k] σ (QI (fun z σ' => z = seenN (σ.1 71) k 301 ∧ σ' = σ)) := by
  refine Runs.of (by decide) rfl (by simp) (Nat.le_of_ble_eq_true rfl) ?_
  show AW am_tab mX7_seenOf 0 [some (vR 70), some (vI k), none, none] [] σ _
  refine AW_iconst dX7_seenOf_0 ?_
  refine AW_istore_n (i := 2) (lv' := [_, _, _, _]) dX7_seenOf_1 rfl (by decide) (Nat.le_of_ble_eq_true rfl) rfl ?_
  refine AW_iconst dX7_seenOf_2 ?_
  refine AW_istore_n (i := 3) (lv' := [_, _, _, _]) dX7_seenOf_3 rfl (by decide) (Nat.le_of_ble_eq_true rfl) rfl ?_
  exact l_seenOf7 hT hk ⟨_, rfl, rfl, rfl⟩ 0 (by omega)
def seen2 (X : Row) : Nat → Int
  | 0 => 0
  | k + 1 => seen2 X k + (if 1 < seenN X k 301 then 1 else 0)
theorem seen2_b {X : Row} : ∀ t, 0 ≤ seen2 X t ∧ seen2 X t ≤ t := by
  intro t
  induction t with
  | zero => simp [seen2]
  | succ t ih => simp only [seen2]; split <;> omega
def kindN (X : Row) (kd : Int) : Nat → Int
  | 0 => 0
  | k + 1 => kindN X kd k + (if X (361 + k) = kd then 1 else 0)
theorem kindN_b {X : Row} {kd : Int} : ∀ t, 0 ≤ kindN X kd t ∧ kindN X kd t ≤ t := by
  intro t
  induction t with
  | zero => simp [kindN]
  | succ t ih => simp only [kindN]; split <;> omega
theorem l_seenTwice7 {σ : am_S} (hT : WT (σ.1 71)) {Q : Option am_V → am_S → Prop} (hQ : Q (some (vI (seen2 (σ.1 71) (σ.1 71 6423).toNat))) σ) : ∀ i, i ≤ (σ.1 71 6423).toNat → AW am_tab mX7_seenTwice 4 [some (vR 70), some (vI (seen2 (σ.1 71) i)), some (vI i)] [] σ Q :=
  up_loop (fun i hi ih => by
    have hM := hT.1
    refine AW_iload_n dX7_seenTwice_4 rfl ?_
    refine AW_aload_n dX7_seenTwice_5 rfl ?_
    refine AW_get dX7_seenTwice_6 fX7_7 rfl rfl ?_
    refine AW_sipush dX7_seenTwice_9 (by decide) ?_
    refine AW_ialdN (j := 6423) dX7_seenTwice_12 rfl (Nat.le_of_ble_eq_true rfl) (by omega) (by omega) ?_
    refine AW_icmp_ge 39 dX7_seenTwice_13 (by decide) (by omega) (by omega) (fun h13 => ?_) (fun h13 => ?_)
    · refine AW_iload_n dX7_seenTwice_39 rfl ?_
      refine AW_iret dX7_seenTwice_40 rfl ?_
      have e : i = (σ.1 71 6423).toNat := by omega
      subst e
      exact hQ
    · refine AW_iload_n dX7_seenTwice_16 rfl ?_
      refine AW_aload_n dX7_seenTwice_17 rfl ?_
      refine AW_iload_n dX7_seenTwice_18 rfl ?_
      refine AW_cVI1 dX7_seenTwice_19 kX7_125 (am_fit_b rfl) rfl rfl (Nat.le_of_ble_eq_true rfl) (c_seenOf7 hT (by omega)) (fun z σ' hq => ?_)
      obtain ⟨hz, hs⟩ := hq
      replace hz := hz.symm
      subst hz
      replace hs := hs.symm
      subst hs
      refine AW_iconst dX7_seenTwice_22 ?_
      have hb := seenN_b (X := σ.1 71) (k := i) 301
      refine AW_icmp_le 30 dX7_seenTwice_23 (by decide) (by omega) (by omega) (fun h23 => ?_) (fun h23 => ?_)
      · refine AW_iconst dX7_seenTwice_30 ?_
        refine AW_iadd dX7_seenTwice_31 ?_
        refine AW_istore_n (i := 1) (lv' := [_, _, _]) dX7_seenTwice_32 rfl (by decide) (Nat.le_of_ble_eq_true rfl) rfl ?_
        refine AW_iinc (lv' := [_, _, _]) dX7_seenTwice_33 rfl (by decide) rfl ?_
        refine AW_goto (tgt := 4) dX7_seenTwice_36 (by decide) ?_
        have e : seen2 (σ.1 71) (i + 1) = seen2 (σ.1 71) i + _ := rfl
        first
        | rw [if_pos (by omega)] at e
        | rw [if_neg (by omega)] at e
        rw [← e]
        exact ih (by omega)
      · refine AW_iconst dX7_seenTwice_26 ?_
        refine AW_goto (tgt := 31) dX7_seenTwice_27 (by decide) ?_
        refine AW_iadd dX7_seenTwice_31 ?_
        refine AW_istore_n (i := 1) (lv' := [_, _, _]) dX7_seenTwice_32 rfl (by decide) (Nat.le_of_ble_eq_true rfl) rfl ?_
        refine AW_iinc (lv' := [_, _, _]) dX7_seenTwice_33 rfl (by decide) rfl ?_
        refine AW_goto (tgt := 4) dX7_seenTwice_36 (by decide) ?_
        have e : seen2 (σ.1 71) (i + 1) = seen2 (σ.1 71) i + _ := rfl
        first
        | rw [if_pos (by omega)] at e
        | rw [if_neg (by omega)] at e
        rw [← e]
        exact ih (by omega))
theorem c_seenTwice7 {σ : am_S} (hT : WT (σ.1 71)) : Runs am_tab mX7_seenTwice [vR 70] σ (QI (fun z σ' => z = seen2 (σ.1 71) (σ.1 71 6423).toNat ∧ σ' = σ)) := by
  refine Runs.of (by decide) rfl (by simp) (Nat.le_of_ble_eq_true rfl) ?_
  show AW am_tab mX7_seenTwice 0 [some (vR 70), none, none] [] σ _
  refine AW_iconst dX7_seenTwice_0 ?_
  refine AW_istore_n (i := 1) (lv' := [_, _, _]) dX7_seenTwice_1 rfl (by decide) (Nat.le_of_ble_eq_true rfl) rfl ?_
  refine AW_iconst dX7_seenTwice_2 ?_
  refine AW_istore_n (i := 2) (lv' := [_, _, _]) dX7_seenTwice_3 rfl (by decide) (Nat.le_of_ble_eq_true rfl) rfl ?_
  exact l_seenTwice7 hT ⟨_, rfl, rfl, rfl⟩ 0 (by omega)
theorem l_ofKind7 {σ : am_S} (hT : WT (σ.1 71)) {kd : Int} (hkd : -2147483648 ≤ kd ∧ kd < 2147483648) {Q : Option am_V → am_S → Prop} (hQ : Q (some (vI (kindN (σ.1 71) kd (σ.1 71 6423).toNat))) σ) : ∀ i, i ≤ (σ.1 71 6423).toNat → AW am_tab mX7_ofKind 4 [some (vR 70), some (vI kd), some (vI (kindN (σ.1 71) kd i)), some (vI i)] [] σ Q :=
  up_loop (fun i hi ih => by
    have hM := hT.1
    refine AW_iload_n dX7_ofKind_4 rfl ?_
    refine AW_aload_n dX7_ofKind_5 rfl ?_
    refine AW_get dX7_ofKind_6 fX7_7 rfl rfl ?_
    refine AW_sipush dX7_ofKind_9 (by decide) ?_
    refine AW_ialdN (j := 6423) dX7_ofKind_12 rfl (Nat.le_of_ble_eq_true rfl) (by omega) (by omega) ?_
    refine AW_icmp_ge 44 dX7_ofKind_13 (by decide) (by omega) (by omega) (fun h13 => ?_) (fun h13 => ?_)
    · refine AW_iload_n dX7_ofKind_44 rfl ?_
      refine AW_iret dX7_ofKind_45 rfl ?_
      have e : i = (σ.1 71 6423).toNat := by omega
      subst e
      exact hQ
    · refine AW_iload_n dX7_ofKind_16 rfl ?_
      refine AW_aload_n dX7_ofKind_17 rfl ?_
      refine AW_get dX7_ofKind_18 fX7_7 rfl rfl ?_
      refine AW_sipush dX7_ofKind_21 (by decide) ?_
      refine AW_iload_n dX7_ofKind_24 rfl ?_
      refine AW_iadd dX7_ofKind_25 ?_
      refine AW_ialdN (j := 361 + i) dX7_ofKind_26 rfl (Nat.le_of_ble_eq_true rfl) (by omega) (by omega) ?_
      refine AW_iload_n dX7_ofKind_27 rfl ?_
      have hk2 := hT.2 i (by omega)
      refine AW_icmp_ne 35 dX7_ofKind_28 (by decide) (by omega) (by omega) (fun h28 => ?_) (fun h28 => ?_)
      · refine AW_iconst dX7_ofKind_35 ?_
        refine AW_iadd dX7_ofKind_36 ?_
        refine AW_istore_n (i := 2) (lv' := [_, _, _, _]) dX7_ofKind_37 rfl (by decide) (Nat.le_of_ble_eq_true rfl) rfl ?_
        refine AW_iinc (lv' := [_, _, _, _]) dX7_ofKind_38 rfl (by decide) rfl ?_
        refine AW_goto (tgt := 4) dX7_ofKind_41 (by decide) ?_
        have e : kindN (σ.1 71) kd (i + 1) = kindN (σ.1 71) kd i + _ := rfl
        first
        | rw [if_pos (by omega)] at e
        | rw [if_neg (by omega)] at e
        rw [← e]
        exact ih (by omega)
      · refine AW_iconst dX7_ofKind_31 ?_
        refine AW_goto (tgt := 36) dX7_ofKind_32 (by decide) ?_
        refine AW_iadd dX7_ofKind_36 ?_
        refine AW_istore_n (i := 2) (lv' := [_, _, _, _]) dX7_ofKind_37 rfl (by decide) (Nat.le_of_ble_eq_true rfl) rfl ?_
        refine AW_iinc (lv' := [_, _, _, _]) dX7_ofKind_38 rfl (by decide) rfl ?_
        refine AW_goto (tgt := 4) dX7_ofKind_41 (by decide) ?_
        have e : kindN (σ.1 71) kd (i + 1) = kindN (σ.1 71) kd i + _ := rfl
        first
        | rw [if_pos (by omega)] at e
        | rw [if_neg (by omega)] at e
        rw [← e]
        exact ih (by omega))
theorem c_ofKind7 {σ : am_S} (hT : WT (σ.1 71)) {kd : Int} (hkd : -2147483648 ≤ kd ∧ kd < 2147483648) : Runs am_tab mX7_ofKind [vR 70, vI kd] σ (QI (fun z σ' => z = kindN (σ.1 71) kd (σ.1 71 6423).toNat ∧ σ' = σ)) := by
  refine Runs.of (by decide) rfl (by simp) (Nat.le_of_ble_eq_true rfl) ?_
  show AW am_tab mX7_ofKind 0 [some (vR 70), some (vI kd), none, none] [] σ _
  refine AW_iconst dX7_ofKind_0 ?_
  refine AW_istore_n (i := 2) (lv' := [_, _, _, _]) dX7_ofKind_1 rfl (by decide) (Nat.le_of_ble_eq_true rfl) rfl ?_
  refine AW_iconst dX7_ofKind_2 ?_
  refine AW_istore_n (i := 3) (lv' := [_, _, _, _]) dX7_ofKind_3 rfl (by decide) (Nat.le_of_ble_eq_true rfl) rfl ?_
  exact l_ofKind7 hT hkd ⟨_, rfl, rfl, rfl⟩ 0 (by omega)
def countS (X K : Row) (what : Int) : Int := if 10 ≤ what ∧ what ≤ 12 then kindN X (what - 10) (X 6423).toNat else if what = 0 then X 6423 else if what = 1 then chg X 300 else if what = 2 then X 6421 else if what = 3 then X 6422 else if what = 4 then seen2 X (X 6423).toNat else if what = 5 then (if K 0 = 0 then 0 else 1) + (if K 1 = 0 then 0 else 2) else -2
theorem c_count7 {σ : am_S} (hS : WS (σ.1 71)) (hT : WT (σ.1 71)) (hK : ∀ k, k < 2 → 0 ≤ σ.1 73 k ∧ σ.1 73 k ≤ 1) {what : Int} (hwhat : -2147483648 ≤ what ∧ what < 2147483648) : Runs am_tab mX7_count [vR 70, vI what] σ (QI (fun z σ' => z = countS (σ.1 71) (σ.1 73) what ∧ MS σ σ' (σ.1 71))) := by
  refine Runs.of (by decide) rfl (by simp) (Nat.le_of_ble_eq_true rfl) ?_
  show AW am_tab mX7_count 0 [some (vR 70), some (vI what)] [] σ _
  refine AW_iload_n dX7_count_0 rfl ?_
  refine AW_bipush dX7_count_1 (by decide) ?_
  refine AW_bipush dX7_count_3 (by decide) ?_
  refine AW_cSI3 dX7_count_5 kX7_56 (am_fit_b rfl) (Nat.le_of_ble_eq_true rfl) (c_in hwhat (by omega) (by omega)) (fun z σ' hq => ?_)
  obtain ⟨rfl, ⟨rfl, h5⟩ | ⟨rfl, h5⟩⟩ := hq
  · refine AW_if_eq 20 dX7_count_8 (by decide) (by decide) (fun h => absurd h (by decide)) (fun _ => ?_)
    refine AW_aload_n dX7_count_11 rfl ?_
    refine AW_iload_n dX7_count_12 rfl ?_
    refine AW_bipush dX7_count_13 (by decide) ?_
    refine AW_isub dX7_count_15 ?_
    refine AW_cVI1 dX7_count_16 kX7_143 (am_fit_b rfl) rfl rfl (Nat.le_of_ble_eq_true rfl) (c_ofKind7 hT (by omega)) (fun z σ' hq => ?_)
    obtain ⟨hz, hs⟩ := hq
    replace hz := hz.symm
    subst hz
    replace hs := hs.symm
    subst hs
    refine AW_iret dX7_count_19 rfl ?_
    refine ⟨_, rfl, ?_, MS.rf⟩
    unfold countS
    repeat (first | rw [if_neg (by omega)] | rw [if_pos (by omega)])
  · refine AW_if_eq 20 dX7_count_8 (by decide) (by decide) (fun _ => ?_) (fun h => absurd (by decide) h)
    refine AW_iload_n dX7_count_20 rfl ?_
    rcases (show (what < 0 ∨ 5 < what) ∨ what = 0 ∨ what = 1 ∨ what = 2 ∨ what = 3 ∨ what = 4 ∨ what = 5 by omega) with hsw | rfl | rfl | rfl | rfl | rfl | rfl
    · refine AW_tableOut 122 dX7_count_21 (by omega) hsw (by decide) ?_
      refine AW_bipush dX7_count_122 (by decide) ?_
      refine AW_iret dX7_count_124 rfl ?_
      refine ⟨_, rfl, ?_, MS.rf⟩
      unfold countS
      repeat (first | rw [if_neg (by omega)] | rw [if_pos (by omega)])
    · refine AW_tableIn 60 dX7_count_21 (by decide) (by decide) rfl (by decide) ?_
      refine AW_aload_n dX7_count_60 rfl ?_
      refine AW_get dX7_count_61 fX7_7 rfl rfl ?_
      refine AW_sipush dX7_count_64 (by decide) ?_
      refine AW_ialdN (j := 6423) dX7_count_67 rfl (Nat.le_of_ble_eq_true rfl) (by omega) (by omega) ?_
      refine AW_iret dX7_count_68 rfl ?_
      refine ⟨_, rfl, ?_, MS.rf⟩
      unfold countS
      repeat (first | rw [if_neg (by omega)] | rw [if_pos (by omega)])
    · refine AW_tableIn 69 dX7_count_21 (by decide) (by decide) rfl (by decide) ?_
      refine AW_aload_n dX7_count_69 rfl ?_
      refine AW_cVI0 dX7_count_70 kX7_64 (am_fit_b rfl) rfl rfl (Nat.le_of_ble_eq_true rfl) (c_changes7 hS) (fun z σ' hq => ?_)
      obtain ⟨hz, hs⟩ := hq
      replace hz := hz.symm
      subst hz
      replace hs := hs.symm
      subst hs
      refine AW_iret dX7_count_73 rfl ?_
      refine ⟨_, rfl, ?_, MS.rf⟩
      unfold countS
      repeat (first | rw [if_neg (by omega)] | rw [if_pos (by omega)])
    · refine AW_tableIn 74 dX7_count_21 (by decide) (by decide) rfl (by decide) ?_
      refine AW_aload_n dX7_count_74 rfl ?_
      refine AW_get dX7_count_75 fX7_7 rfl rfl ?_
      refine AW_sipush dX7_count_78 (by decide) ?_
      refine AW_iload_n dX7_count_81 rfl ?_
      refine AW_iadd dX7_count_82 ?_
      refine AW_iconst dX7_count_83 ?_
      refine AW_isub dX7_count_84 ?_
      first
      | (refine AW_ialdN (j := 6421) dX7_count_85 rfl (Nat.le_of_ble_eq_true rfl) (by decide) (by decide) ?_)
      | (refine AW_ialdN (j := 6422) dX7_count_85 rfl (Nat.le_of_ble_eq_true rfl) (by decide) (by decide) ?_)
      refine AW_iret dX7_count_86 rfl ?_
      refine ⟨_, rfl, ?_, MS.rf⟩
      unfold countS
      repeat (first | rw [if_neg (by omega)] | rw [if_pos (by omega)])
    · refine AW_tableIn 74 dX7_count_21 (by decide) (by decide) rfl (by decide) ?_
      refine AW_aload_n dX7_count_74 rfl ?_
      refine AW_get dX7_count_75 fX7_7 rfl rfl ?_
      refine AW_sipush dX7_count_78 (by decide) ?_
      refine AW_iload_n dX7_count_81 rfl ?_
      refine AW_iadd dX7_count_82 ?_
      refine AW_iconst dX7_count_83 ?_
      refine AW_isub dX7_count_84 ?_
      first
      | (refine AW_ialdN (j := 6421) dX7_count_85 rfl (Nat.le_of_ble_eq_true rfl) (by decide) (by decide) ?_)
      | (refine AW_ialdN (j := 6422) dX7_count_85 rfl (Nat.le_of_ble_eq_true rfl) (by decide) (by decide) ?_)
      refine AW_iret dX7_count_86 rfl ?_
      refine ⟨_, rfl, ?_, MS.rf⟩
      unfold countS
      repeat (first | rw [if_neg (by omega)] | rw [if_pos (by omega)])
    · refine AW_tableIn 87 dX7_count_21 (by decide) (by decide) rfl (by decide) ?_
      refine AW_aload_n dX7_count_87 rfl ?_
      refine AW_cVI0 dX7_count_88 kX7_146 (am_fit_b rfl) rfl rfl (Nat.le_of_ble_eq_true rfl) (c_seenTwice7 hT) (fun z σ' hq => ?_)
      obtain ⟨hz, hs⟩ := hq
      replace hz := hz.symm
      subst hz
      replace hs := hs.symm
      subst hs
      refine AW_iret dX7_count_91 rfl ?_
      refine ⟨_, rfl, ?_, MS.rf⟩
      unfold countS
      repeat (first | rw [if_neg (by omega)] | rw [if_pos (by omega)])
    · refine AW_tableIn 92 dX7_count_21 (by decide) (by decide) rfl (by decide) ?_
      refine AW_aload_n dX7_count_92 rfl ?_
      refine AW_get dX7_count_93 fX7_16 rfl rfl ?_
      refine AW_iconst dX7_count_96 ?_
      refine AW_zaldN (j := 0) dX7_count_97 rfl (Nat.le_of_ble_eq_true rfl) (by omega) (by omega) ?_
      have hK0 := hK 0 (by omega)
      refine AW_if_eq 105 dX7_count_98 (by decide) (by omega) (fun h98 => ?_) (fun h98 => ?_)
      · refine AW_iconst dX7_count_105 ?_
        refine AW_aload_n dX7_count_106 rfl ?_
        refine AW_get dX7_count_107 fX7_16 rfl rfl ?_
        refine AW_iconst dX7_count_110 ?_
        refine AW_zaldN (j := 1) dX7_count_111 rfl (Nat.le_of_ble_eq_true rfl) (by omega) (by omega) ?_
        have hK1 := hK 1 (by omega)
        refine AW_if_eq 119 dX7_count_112 (by decide) (by omega) (fun h112 => ?_) (fun h112 => ?_)
        · refine AW_iconst dX7_count_119 ?_
          refine AW_iadd dX7_count_120 ?_
          refine AW_iret dX7_count_121 rfl ?_
          refine ⟨_, rfl, ?_, MS.rf⟩
          unfold countS
          repeat (first | rw [if_neg (by omega)] | rw [if_pos (by omega)])
        · refine AW_iconst dX7_count_115 ?_
          refine AW_goto (tgt := 120) dX7_count_116 (by decide) ?_
          refine AW_iadd dX7_count_120 ?_
          refine AW_iret dX7_count_121 rfl ?_
          refine ⟨_, rfl, ?_, MS.rf⟩
          unfold countS
          repeat (first | rw [if_neg (by omega)] | rw [if_pos (by omega)])
      · refine AW_iconst dX7_count_101 ?_
        refine AW_goto (tgt := 106) dX7_count_102 (by decide) ?_
        refine AW_aload_n dX7_count_106 rfl ?_
        refine AW_get dX7_count_107 fX7_16 rfl rfl ?_
        refine AW_iconst dX7_count_110 ?_
        refine AW_zaldN (j := 1) dX7_count_111 rfl (Nat.le_of_ble_eq_true rfl) (by omega) (by omega) ?_
        have hK1 := hK 1 (by omega)
        refine AW_if_eq 119 dX7_count_112 (by decide) (by omega) (fun h112 => ?_) (fun h112 => ?_)
        · refine AW_iconst dX7_count_119 ?_
          refine AW_iadd dX7_count_120 ?_
          refine AW_iret dX7_count_121 rfl ?_
          refine ⟨_, rfl, ?_, MS.rf⟩
          unfold countS
          repeat (first | rw [if_neg (by omega)] | rw [if_pos (by omega)])
        · refine AW_iconst dX7_count_115 ?_
          refine AW_goto (tgt := 120) dX7_count_116 (by decide) ?_
          refine AW_iadd dX7_count_120 ?_
          refine AW_iret dX7_count_121 rfl ?_
          refine ⟨_, rfl, ?_, MS.rf⟩
          unfold countS
          repeat (first | rw [if_neg (by omega)] | rw [if_pos (by omega)])
end
section
def hitN (X : Row) (arm fr ti : Int) : Nat → Bool
  | 0 => false
  | a + 1 => hitN X arm fr ti a || decide ((a : Int) ≠ arm ∧ X (6401 + a) ≤ ti ∧ fr ≤ X (6405 + a))
def reachS (X : Row) (arm fr ti : Int) : Int × Row := if 0 ≤ arm ∧ arm ≤ 3 then (if 0 ≤ fr ∧ fr ≤ ti ∧ ti ≤ 999 then (if hitN X arm fr ti 4 = true then (-5, X) else (1, rup (rup X (6401 + arm.toNat) fr) (6405 + arm.toNat) ti)) else (-2, X)) else (-1, X)
def beatS (X : Row) (arm n off : Int) : Int × Row := if 0 ≤ arm ∧ arm ≤ 3 then (if (1 ≤ n ∧ n ≤ 20) ∧ 0 ≤ off ∧ off ≤ n - 1 then (1, rup (rup X (6409 + arm.toNat) n) (6413 + arm.toNat) off) else (-2, X)) else (-1, X)
def lanesS (X : Row) (arm set : Int) : Int × Row := if 0 ≤ arm ∧ arm ≤ 3 then (if 0 ≤ set ∧ set ≤ 15 then (X (6417 + arm.toNat), rup X (6417 + arm.toNat) set) else (-2, X)) else (-1, X)
def setS (X : Row) (what n : Int) : Int × Row := if what = 0 ∧ 0 ≤ n ∧ n ≤ 20 then (X 6421, rup X 6421 n) else if what = 1 ∧ 1 ≤ n ∧ n ≤ 6 then (X 6422, rup X 6422 n) else (-2, X)
theorem hitN_true {X : Row} {arm fr ti : Int} {a : Nat} (h : (a : Int) ≠ arm ∧ X (6401 + a) ≤ ti ∧ fr ≤ X (6405 + a)) : ∀ b, a < b → hitN X arm fr ti b = true := by
  intro b
  induction b with
  | zero => intro h; omega
  | succ b ih =>
    intro hb
    simp only [hitN, Bool.or_eq_true, decide_eq_true_eq]
    by_cases e : a = b
    · subst e; exact Or.inr h
    · exact Or.inl (ih (by omega))
theorem l_reach7 {σ : am_S} (hA : WA (σ.1 71)) {arm fr ti : Int} (harm : -2147483648 ≤ arm ∧ arm < 2147483648) (hfr : -2147483648 ≤ fr ∧ fr < 2147483648) (hti : -2147483648 ≤ ti ∧ ti < 2147483648) {Q : Option am_V → am_S → Prop} (hno : hitN (σ.1 71) arm fr ti 4 = true → Q (some (vI (-5))) σ) (hk : hitN (σ.1 71) arm fr ti 4 = false → AW am_tab mX7_reach 93 [some (vR 70), some (vI arm), some (vI fr), some (vI ti), some (vI (4 : Nat))] [] σ Q) : ∀ i : Nat, i ≤ 4 → hitN (σ.1 71) arm fr ti i = false → AW am_tab mX7_reach 42 [some (vR 70), some (vI arm), some (vI fr), some (vI ti), some (vI i)] [] σ Q :=
  up_loop (fun i hi ih hi2 => by
    refine AW_iload dX7_reach_42 rfl ?_
    refine AW_iconst dX7_reach_44 ?_
    refine AW_icmp_ge 93 dX7_reach_45 (by decide) (by omega) (by omega) (fun h45 => ?_) (fun h45 => ?_)
    · have e : i = 4 := by omega
      subst e
      exact hk hi2
    · refine AW_iload dX7_reach_48 rfl ?_
      refine AW_iload_n dX7_reach_50 rfl ?_
      refine AW_icmp_eq 87 dX7_reach_51 (by decide) (by omega) (by omega) (fun h51 => ?_) (fun h51 => ?_)
      · refine AW_iinc (lv' := [_, _, _, _, _]) dX7_reach_87 rfl (by decide) rfl ?_
        refine AW_goto (tgt := 42) dX7_reach_90 (by decide) ?_
        have e : hitN (σ.1 71) arm fr ti (i + 1) = false := by
          simp only [hitN, hi2, Bool.false_or, decide_eq_false_iff_not]
          omega
        exact ih (by omega) e
      · refine AW_aload_n dX7_reach_54 rfl ?_
        refine AW_get dX7_reach_55 fX7_7 rfl rfl ?_
        refine AW_sipush dX7_reach_58 (by decide) ?_
        refine AW_iload dX7_reach_61 rfl ?_
        refine AW_iadd dX7_reach_63 ?_
        refine AW_ialdN (j := 6401 + i) dX7_reach_64 rfl (Nat.le_of_ble_eq_true rfl) (by omega) (by omega) ?_
        refine AW_iload_n dX7_reach_65 rfl ?_
        have hb := hA.1 i (by omega)
        refine AW_icmp_gt 87 dX7_reach_66 (by decide) (by omega) (by omega) (fun h66 => ?_) (fun h66 => ?_)
        · refine AW_iinc (lv' := [_, _, _, _, _]) dX7_reach_87 rfl (by decide) rfl ?_
          refine AW_goto (tgt := 42) dX7_reach_90 (by decide) ?_
          have e : hitN (σ.1 71) arm fr ti (i + 1) = false := by
            simp only [hitN, hi2, Bool.false_or, decide_eq_false_iff_not]
            omega
          exact ih (by omega) e
        · refine AW_iload_n dX7_reach_69 rfl ?_
          refine AW_aload_n dX7_reach_70 rfl ?_
          refine AW_get dX7_reach_71 fX7_7 rfl rfl ?_
          refine AW_sipush dX7_reach_74 (by decide) ?_
          refine AW_iload dX7_reach_77 rfl ?_
          refine AW_iadd dX7_reach_79 ?_
          refine AW_ialdN (j := 6405 + i) dX7_reach_80 rfl (Nat.le_of_ble_eq_true rfl) (by omega) (by omega) ?_
          refine AW_icmp_gt 87 dX7_reach_81 (by decide) (by omega) (by omega) (fun h81 => ?_) (fun h81 => ?_)
          · refine AW_iinc (lv' := [_, _, _, _, _]) dX7_reach_87 rfl (by decide) rfl ?_
            refine AW_goto (tgt := 42) dX7_reach_90 (by decide) ?_
            have e : hitN (σ.1 71) arm fr ti (i + 1) = false := by
              simp only [hitN, hi2, Bool.false_or, decide_eq_false_iff_not]
              omega
            exact ih (by omega) e
          · refine AW_bipush dX7_reach_84 (by decide) ?_
            refine AW_iret dX7_reach_86 rfl ?_
            exact hno (hitN_true (a := i) (by omega) 4 (by omega)))
theorem c_reach7 {σ : am_S} (hA : WA (σ.1 71)) {arm fr ti : Int} (harm : -2147483648 ≤ arm ∧ arm < 2147483648) (hfr : -2147483648 ≤ fr ∧ fr < 2147483648) (hti : -2147483648 ≤ ti ∧ ti < 2147483648) : Runs am_tab mX7_reach [vR 70, vI arm, vI fr, vI ti] σ (QI (fun z σ' => z = (reachS (σ.1 71) arm fr ti).1 ∧ MS σ σ' (reachS (σ.1 71) arm fr ti).2)) := by
  refine Runs.of (by decide) rfl (by simp) (Nat.le_of_ble_eq_true rfl) ?_
  show AW am_tab mX7_reach 0 [some (vR 70), some (vI arm), some (vI fr), some (vI ti), none] [] σ _
  refine AW_iload_n dX7_reach_0 rfl ?_
  refine AW_cSI1 dX7_reach_1 kX7_89 (am_fit_b rfl) (Nat.le_of_ble_eq_true rfl) (c_isArm7 harm) (fun z σ' hq => ?_)
  obtain ⟨rfl, ⟨rfl, h1⟩ | ⟨rfl, h1⟩⟩ := hq
  · refine AW_if_ne 9 dX7_reach_4 (by decide) (by decide) (fun _ => ?_) (fun h => absurd (by decide) h)
    refine AW_iload_n dX7_reach_9 rfl ?_
    refine AW_iconst dX7_reach_10 ?_
    refine AW_sipush dX7_reach_11 (by decide) ?_
    refine AW_cSI3 dX7_reach_14 kX7_56 (am_fit_b rfl) (Nat.le_of_ble_eq_true rfl) (c_in hfr (by omega) (by omega)) (fun z σ' hq => ?_)
    obtain ⟨rfl, ⟨rfl, h14⟩ | ⟨rfl, h14⟩⟩ := hq
    · refine AW_if_eq 36 dX7_reach_17 (by decide) (by decide) (fun h => absurd h (by decide)) (fun _ => ?_)
      refine AW_iload_n dX7_reach_20 rfl ?_
      refine AW_iconst dX7_reach_21 ?_
      refine AW_sipush dX7_reach_22 (by decide) ?_
      refine AW_cSI3 dX7_reach_25 kX7_56 (am_fit_b rfl) (Nat.le_of_ble_eq_true rfl) (c_in hti (by omega) (by omega)) (fun z σ' hq => ?_)
      obtain ⟨rfl, ⟨rfl, h25⟩ | ⟨rfl, h25⟩⟩ := hq
      · refine AW_if_eq 36 dX7_reach_28 (by decide) (by decide) (fun h => absurd h (by decide)) (fun _ => ?_)
        refine AW_iload_n dX7_reach_31 rfl ?_
        refine AW_iload_n dX7_reach_32 rfl ?_
        refine AW_icmp_le 39 dX7_reach_33 (by decide) (by omega) (by omega) (fun h33 => ?_) (fun h33 => ?_)
        · refine AW_iconst dX7_reach_39 ?_
          refine AW_istore (lv' := [_, _, _, _, _]) dX7_reach_40 (by decide) (Nat.le_of_ble_eq_true rfl) rfl ?_
          obtain ⟨a, rfl⟩ : ∃ a : Nat, arm = a := ⟨arm.toNat, by omega⟩
          refine l_reach7 hA (by omega) hfr hti (fun h => ?_) (fun h => ?_) 0 (by omega) rfl
          · refine ⟨_, rfl, ?_⟩
            simp only [reachS, Int.toNat_natCast]
            rw [if_pos (by omega), if_pos (by omega), if_pos h]
            exact ⟨rfl, MS.rf⟩
          · refine AW_aload_n dX7_reach_93 rfl ?_
            refine AW_get dX7_reach_94 fX7_7 rfl rfl ?_
            refine AW_sipush dX7_reach_97 (by decide) ?_
            refine AW_iload_n dX7_reach_100 rfl ?_
            refine AW_iadd dX7_reach_101 ?_
            refine AW_iload_n dX7_reach_102 rfl ?_
            refine AW_iastN (j := 6401 + a) dX7_reach_103 rfl (Nat.le_of_ble_eq_true rfl) (by omega) (by omega) ?_
            refine AW_aload_n dX7_reach_104 rfl ?_
            refine AW_get dX7_reach_105 fX7_7 rfl rfl ?_
            refine AW_sipush dX7_reach_108 (by decide) ?_
            refine AW_iload_n dX7_reach_111 rfl ?_
            refine AW_iadd dX7_reach_112 ?_
            refine AW_iload_n dX7_reach_113 rfl ?_
            refine AW_iastN (j := 6405 + a) dX7_reach_114 rfl (Nat.le_of_ble_eq_true rfl) (by omega) (by omega) ?_
            refine AW_iconst dX7_reach_115 ?_
            refine AW_iret dX7_reach_116 rfl ?_
            refine ⟨_, rfl, ?_⟩
            simp only [reachS, Int.toNat_natCast]
            rw [if_pos (by omega), if_pos (by omega), if_neg (by rw [h]; decide)]
            exact ⟨rfl, MS.rf.set.set⟩
        · refine AW_bipush dX7_reach_36 (by decide) ?_
          refine AW_iret dX7_reach_38 rfl ?_
          refine ⟨_, rfl, ?_⟩
          simp only [reachS, Int.toNat_natCast]
          rw [if_pos (by omega), if_neg (by omega)]
          exact ⟨rfl, MS.rf⟩
      · refine AW_if_eq 36 dX7_reach_28 (by decide) (by decide) (fun _ => ?_) (fun h => absurd (by decide) h)
        refine AW_bipush dX7_reach_36 (by decide) ?_
        refine AW_iret dX7_reach_38 rfl ?_
        refine ⟨_, rfl, ?_⟩
        simp only [reachS, Int.toNat_natCast]
        rw [if_pos (by omega), if_neg (by omega)]
        exact ⟨rfl, MS.rf⟩
    · refine AW_if_eq 36 dX7_reach_17 (by decide) (by decide) (fun _ => ?_) (fun h => absurd (by decide) h)
      refine AW_bipush dX7_reach_36 (by decide) ?_
      refine AW_iret dX7_reach_38 rfl ?_
      refine ⟨_, rfl, ?_⟩
      simp only [reachS, Int.toNat_natCast]
      rw [if_pos (by omega), if_neg (by omega)]
      exact ⟨rfl, MS.rf⟩
  · refine AW_if_ne 9 dX7_reach_4 (by decide) (by decide) (fun h => absurd h (by decide)) (fun _ => ?_)
    refine AW_iconst dX7_reach_7 ?_
    refine AW_iret dX7_reach_8 rfl ?_
    refine ⟨_, rfl, ?_⟩
    simp only [reachS, Int.toNat_natCast]
    rw [if_neg (by omega)]
    exact ⟨rfl, MS.rf⟩
theorem c_beat7 {σ : am_S} {arm n off : Int} (harm : -2147483648 ≤ arm ∧ arm < 2147483648) (hn : -2147483648 ≤ n ∧ n < 2147483648) (hoff : -2147483648 ≤ off ∧ off < 2147483648) : Runs am_tab mX7_beat [vR 70, vI arm, vI n, vI off] σ (QI (fun z σ' => z = (beatS (σ.1 71) arm n off).1 ∧ MS σ σ' (beatS (σ.1 71) arm n off).2)) := by
  refine Runs.of (by decide) rfl (by simp) (Nat.le_of_ble_eq_true rfl) ?_
  show AW am_tab mX7_beat 0 [some (vR 70), some (vI arm), some (vI n), some (vI off)] [] σ _
  refine AW_iload_n dX7_beat_0 rfl ?_
  refine AW_cSI1 dX7_beat_1 kX7_89 (am_fit_b rfl) (Nat.le_of_ble_eq_true rfl) (c_isArm7 harm) (fun z σ' hq => ?_)
  obtain ⟨rfl, ⟨rfl, h1⟩ | ⟨rfl, h1⟩⟩ := hq
  · refine AW_if_ne 9 dX7_beat_4 (by decide) (by decide) (fun _ => ?_) (fun h => absurd (by decide) h)
    refine AW_iload_n dX7_beat_9 rfl ?_
    refine AW_iconst dX7_beat_10 ?_
    refine AW_bipush dX7_beat_11 (by decide) ?_
    refine AW_cSI3 dX7_beat_13 kX7_56 (am_fit_b rfl) (Nat.le_of_ble_eq_true rfl) (c_in hn (by omega) (by omega)) (fun z σ' hq => ?_)
    obtain ⟨rfl, ⟨rfl, h13⟩ | ⟨rfl, h13⟩⟩ := hq
    · refine AW_if_eq 30 dX7_beat_16 (by decide) (by decide) (fun h => absurd h (by decide)) (fun _ => ?_)
      refine AW_iload_n dX7_beat_19 rfl ?_
      refine AW_iconst dX7_beat_20 ?_
      refine AW_iload_n dX7_beat_21 rfl ?_
      refine AW_iconst dX7_beat_22 ?_
      refine AW_isub dX7_beat_23 ?_
      refine AW_cSI3 dX7_beat_24 kX7_56 (am_fit_b rfl) (Nat.le_of_ble_eq_true rfl) (c_in hoff (by omega) (by omega)) (fun z σ' hq => ?_)
      obtain ⟨rfl, ⟨rfl, h24⟩ | ⟨rfl, h24⟩⟩ := hq
      · refine AW_if_ne 33 dX7_beat_27 (by decide) (by decide) (fun _ => ?_) (fun h => absurd (by decide) h)
        obtain ⟨a, rfl⟩ : ∃ a : Nat, arm = a := ⟨arm.toNat, by omega⟩
        refine AW_aload_n dX7_beat_33 rfl ?_
        refine AW_get dX7_beat_34 fX7_7 rfl rfl ?_
        refine AW_sipush dX7_beat_37 (by decide) ?_
        refine AW_iload_n dX7_beat_40 rfl ?_
        refine AW_iadd dX7_beat_41 ?_
        refine AW_iload_n dX7_beat_42 rfl ?_
        refine AW_iastN (j := 6409 + a) dX7_beat_43 rfl (Nat.le_of_ble_eq_true rfl) (by omega) (by omega) ?_
        refine AW_aload_n dX7_beat_44 rfl ?_
        refine AW_get dX7_beat_45 fX7_7 rfl rfl ?_
        refine AW_sipush dX7_beat_48 (by decide) ?_
        refine AW_iload_n dX7_beat_51 rfl ?_
        refine AW_iadd dX7_beat_52 ?_
        refine AW_iload_n dX7_beat_53 rfl ?_
        refine AW_iastN (j := 6413 + a) dX7_beat_54 rfl (Nat.le_of_ble_eq_true rfl) (by omega) (by omega) ?_
        refine AW_iconst dX7_beat_55 ?_
        refine AW_iret dX7_beat_56 rfl ?_
        refine ⟨_, rfl, ?_⟩
        simp only [beatS, Int.toNat_natCast]
        rw [if_pos (by omega), if_pos (by omega)]
        exact ⟨rfl, MS.rf.set.set⟩
      · refine AW_if_ne 33 dX7_beat_27 (by decide) (by decide) (fun h => absurd h (by decide)) (fun _ => ?_)
        refine AW_bipush dX7_beat_30 (by decide) ?_
        refine AW_iret dX7_beat_32 rfl ?_
        refine ⟨_, rfl, ?_⟩
        simp only [beatS, Int.toNat_natCast]
        rw [if_pos (by omega), if_neg (by omega)]
        exact ⟨rfl, MS.rf⟩
    · refine AW_if_eq 30 dX7_beat_16 (by decide) (by decide) (fun _ => ?_) (fun h => absurd (by decide) h)
      refine AW_bipush dX7_beat_30 (by decide) ?_
      refine AW_iret dX7_beat_32 rfl ?_
      refine ⟨_, rfl, ?_⟩
      simp only [beatS, Int.toNat_natCast]
      rw [if_pos (by omega), if_neg (by omega)]
      exact ⟨rfl, MS.rf⟩
  · refine AW_if_ne 9 dX7_beat_4 (by decide) (by decide) (fun h => absurd h (by decide)) (fun _ => ?_)
    refine AW_iconst dX7_beat_7 ?_
    refine AW_iret dX7_beat_8 rfl ?_
    refine ⟨_, rfl, ?_⟩
    simp only [beatS, Int.toNat_natCast]
    rw [if_neg (by omega)]
    exact ⟨rfl, MS.rf⟩
theorem c_lanes7 {σ : am_S} {arm set : Int} (harm : -2147483648 ≤ arm ∧ arm < 2147483648) (hset : -2147483648 ≤ set ∧ set < 2147483648) : Runs am_tab mX7_lanes [vR 70, vI arm, vI set] σ (QI (fun z σ' => z = (lanesS (σ.1 71) arm set).1 ∧ MS σ σ' (lanesS (σ.1 71) arm set).2)) := by
  refine Runs.of (by decide) rfl (by simp) (Nat.le_of_ble_eq_true rfl) ?_
  show AW am_tab mX7_lanes 0 [some (vR 70), some (vI arm), some (vI set), none] [] σ _
  refine AW_iload_n dX7_lanes_0 rfl ?_
  refine AW_cSI1 dX7_lanes_1 kX7_89 (am_fit_b rfl) (Nat.le_of_ble_eq_true rfl) (c_isArm7 harm) (fun z σ' hq => ?_)
  obtain ⟨rfl, ⟨rfl, h1⟩ | ⟨rfl, h1⟩⟩ := hq
  · refine AW_if_ne 9 dX7_lanes_4 (by decide) (by decide) (fun _ => ?_) (fun h => absurd (by decide) h)
    refine AW_iload_n dX7_lanes_9 rfl ?_
    refine AW_iconst dX7_lanes_10 ?_
    refine AW_bipush dX7_lanes_11 (by decide) ?_
    refine AW_cSI3 dX7_lanes_13 kX7_56 (am_fit_b rfl) (Nat.le_of_ble_eq_true rfl) (c_in hset (by omega) (by omega)) (fun z σ' hq => ?_)
    obtain ⟨rfl, ⟨rfl, h13⟩ | ⟨rfl, h13⟩⟩ := hq
    · refine AW_if_ne 22 dX7_lanes_16 (by decide) (by decide) (fun _ => ?_) (fun h => absurd (by decide) h)
      obtain ⟨a, rfl⟩ : ∃ a : Nat, arm = a := ⟨arm.toNat, by omega⟩
      refine AW_aload_n dX7_lanes_22 rfl ?_
      refine AW_get dX7_lanes_23 fX7_7 rfl rfl ?_
      refine AW_sipush dX7_lanes_26 (by decide) ?_
      refine AW_iload_n dX7_lanes_29 rfl ?_
      refine AW_iadd dX7_lanes_30 ?_
      refine AW_ialdN (j := 6417 + a) dX7_lanes_31 rfl (Nat.le_of_ble_eq_true rfl) (by omega) (by omega) ?_
      refine AW_istore_n (i := 3) (lv' := [_, _, _, _]) dX7_lanes_32 rfl (by decide) (Nat.le_of_ble_eq_true rfl) rfl ?_
      refine AW_aload_n dX7_lanes_33 rfl ?_
      refine AW_get dX7_lanes_34 fX7_7 rfl rfl ?_
      refine AW_sipush dX7_lanes_37 (by decide) ?_
      refine AW_iload_n dX7_lanes_40 rfl ?_
      refine AW_iadd dX7_lanes_41 ?_
      refine AW_iload_n dX7_lanes_42 rfl ?_
      refine AW_iastN (j := 6417 + a) dX7_lanes_43 rfl (Nat.le_of_ble_eq_true rfl) (by omega) (by omega) ?_
      refine AW_iload_n dX7_lanes_44 rfl ?_
      refine AW_iret dX7_lanes_45 rfl ?_
      refine ⟨_, rfl, ?_⟩
      simp only [lanesS, Int.toNat_natCast]
      rw [if_pos (by omega), if_pos (by omega)]
      exact ⟨rfl, MS.rf.set⟩
    · refine AW_if_ne 22 dX7_lanes_16 (by decide) (by decide) (fun h => absurd h (by decide)) (fun _ => ?_)
      refine AW_bipush dX7_lanes_19 (by decide) ?_
      refine AW_iret dX7_lanes_21 rfl ?_
      refine ⟨_, rfl, ?_⟩
      simp only [lanesS, Int.toNat_natCast]
      rw [if_pos (by omega), if_neg (by omega)]
      exact ⟨rfl, MS.rf⟩
  · refine AW_if_ne 9 dX7_lanes_4 (by decide) (by decide) (fun h => absurd h (by decide)) (fun _ => ?_)
    refine AW_iconst dX7_lanes_7 ?_
    refine AW_iret dX7_lanes_8 rfl ?_
    refine ⟨_, rfl, ?_⟩
    simp only [lanesS, Int.toNat_natCast]
    rw [if_neg (by omega)]
    exact ⟨rfl, MS.rf⟩
theorem c_set7 {σ : am_S} {what n : Int} (hwhat : -2147483648 ≤ what ∧ what < 2147483648) (hn : -2147483648 ≤ n ∧ n < 2147483648) : Runs am_tab mX7_set [vR 70, vI what, vI n] σ (QI (fun z σ' => z = (setS (σ.1 71) what n).1 ∧ MS σ σ' (setS (σ.1 71) what n).2)) := by
  refine Runs.of (by decide) rfl (by simp) (Nat.le_of_ble_eq_true rfl) ?_
  show AW am_tab mX7_set 0 [some (vR 70), some (vI what), some (vI n), none] [] σ _
  refine AW_iload_n dX7_set_0 rfl ?_
  refine AW_iconst dX7_set_1 ?_
  refine AW_iconst dX7_set_2 ?_
  refine AW_cSI3 dX7_set_3 kX7_56 (am_fit_b rfl) (Nat.le_of_ble_eq_true rfl) (c_in hwhat (by omega) (by omega)) (fun z σ' hq => ?_)
  obtain ⟨rfl, ⟨rfl, h3⟩ | ⟨rfl, h3⟩⟩ := hq
  · refine AW_if_eq 28 dX7_set_6 (by decide) (by decide) (fun h => absurd h (by decide)) (fun _ => ?_)
    refine AW_iload_n dX7_set_9 rfl ?_
    refine AW_iload_n dX7_set_10 rfl ?_
    refine AW_iload_n dX7_set_11 rfl ?_
    refine AW_if_ne 20 dX7_set_12 (by decide) (by omega) (fun h12 => ?_) (fun h12 => ?_)
    · refine AW_bipush dX7_set_20 (by decide) ?_
      refine AW_cSI3 dX7_set_22 kX7_56 (am_fit_b rfl) (Nat.le_of_ble_eq_true rfl) (c_in hn (by omega) (by omega)) (fun z σ' hq => ?_)
      obtain ⟨rfl, ⟨rfl, h22⟩ | ⟨rfl, h22⟩⟩ := hq
      · refine AW_if_ne 31 dX7_set_25 (by decide) (by decide) (fun _ => ?_) (fun h => absurd (by decide) h)
        rcases (show what = 0 ∨ what = 1 by omega) with rfl | rfl
        · refine AW_aload_n dX7_set_31 rfl ?_
          refine AW_get dX7_set_32 fX7_7 rfl rfl ?_
          refine AW_sipush dX7_set_35 (by decide) ?_
          refine AW_iload_n dX7_set_38 rfl ?_
          refine AW_iadd dX7_set_39 ?_
          refine AW_ialdN (j := 6421) dX7_set_40 rfl (Nat.le_of_ble_eq_true rfl) (by omega) (by omega) ?_
          refine AW_istore_n (i := 3) (lv' := [_, _, _, _]) dX7_set_41 rfl (by decide) (Nat.le_of_ble_eq_true rfl) rfl ?_
          refine AW_aload_n dX7_set_42 rfl ?_
          refine AW_get dX7_set_43 fX7_7 rfl rfl ?_
          refine AW_sipush dX7_set_46 (by decide) ?_
          refine AW_iload_n dX7_set_49 rfl ?_
          refine AW_iadd dX7_set_50 ?_
          refine AW_iload_n dX7_set_51 rfl ?_
          refine AW_iastN (j := 6421) dX7_set_52 rfl (Nat.le_of_ble_eq_true rfl) (by omega) (by omega) ?_
          refine AW_iload_n dX7_set_53 rfl ?_
          refine AW_iret dX7_set_54 rfl ?_
          first
          | (exfalso; omega)
          | (refine ⟨_, rfl, ?_⟩
             unfold setS
             rw [if_pos (by omega)]
             exact ⟨rfl, MS.rf.set⟩)
        · refine AW_aload_n dX7_set_31 rfl ?_
          refine AW_get dX7_set_32 fX7_7 rfl rfl ?_
          refine AW_sipush dX7_set_35 (by decide) ?_
          refine AW_iload_n dX7_set_38 rfl ?_
          refine AW_iadd dX7_set_39 ?_
          refine AW_ialdN (j := 6422) dX7_set_40 rfl (Nat.le_of_ble_eq_true rfl) (by omega) (by omega) ?_
          refine AW_istore_n (i := 3) (lv' := [_, _, _, _]) dX7_set_41 rfl (by decide) (Nat.le_of_ble_eq_true rfl) rfl ?_
          refine AW_aload_n dX7_set_42 rfl ?_
          refine AW_get dX7_set_43 fX7_7 rfl rfl ?_
          refine AW_sipush dX7_set_46 (by decide) ?_
          refine AW_iload_n dX7_set_49 rfl ?_
          refine AW_iadd dX7_set_50 ?_
          refine AW_iload_n dX7_set_51 rfl ?_
          refine AW_iastN (j := 6422) dX7_set_52 rfl (Nat.le_of_ble_eq_true rfl) (by omega) (by omega) ?_
          refine AW_iload_n dX7_set_53 rfl ?_
          refine AW_iret dX7_set_54 rfl ?_
          first
          | (exfalso; omega)
          | (refine ⟨_, rfl, ?_⟩
             unfold setS
             rw [if_neg (by omega), if_pos (by omega)]
             exact ⟨rfl, MS.rf.set⟩)
      · refine AW_if_ne 31 dX7_set_25 (by decide) (by decide) (fun h => absurd h (by decide)) (fun _ => ?_)
        refine AW_bipush dX7_set_28 (by decide) ?_
        refine AW_iret dX7_set_30 rfl ?_
        refine ⟨_, rfl, ?_⟩
        unfold setS
        rw [if_neg (by omega), if_neg (by omega)]
        exact ⟨rfl, MS.rf⟩
    · refine AW_bipush dX7_set_15 (by decide) ?_
      refine AW_goto (tgt := 22) dX7_set_17 (by decide) ?_
      refine AW_cSI3 dX7_set_22 kX7_56 (am_fit_b rfl) (Nat.le_of_ble_eq_true rfl) (c_in hn (by omega) (by omega)) (fun z σ' hq => ?_)
      obtain ⟨rfl, ⟨rfl, h22⟩ | ⟨rfl, h22⟩⟩ := hq
      · refine AW_if_ne 31 dX7_set_25 (by decide) (by decide) (fun _ => ?_) (fun h => absurd (by decide) h)
        rcases (show what = 0 ∨ what = 1 by omega) with rfl | rfl
        · refine AW_aload_n dX7_set_31 rfl ?_
          refine AW_get dX7_set_32 fX7_7 rfl rfl ?_
          refine AW_sipush dX7_set_35 (by decide) ?_
          refine AW_iload_n dX7_set_38 rfl ?_
          refine AW_iadd dX7_set_39 ?_
          refine AW_ialdN (j := 6421) dX7_set_40 rfl (Nat.le_of_ble_eq_true rfl) (by omega) (by omega) ?_
          refine AW_istore_n (i := 3) (lv' := [_, _, _, _]) dX7_set_41 rfl (by decide) (Nat.le_of_ble_eq_true rfl) rfl ?_
          refine AW_aload_n dX7_set_42 rfl ?_
          refine AW_get dX7_set_43 fX7_7 rfl rfl ?_
          refine AW_sipush dX7_set_46 (by decide) ?_
          refine AW_iload_n dX7_set_49 rfl ?_
          refine AW_iadd dX7_set_50 ?_
          refine AW_iload_n dX7_set_51 rfl ?_
          refine AW_iastN (j := 6421) dX7_set_52 rfl (Nat.le_of_ble_eq_true rfl) (by omega) (by omega) ?_
          refine AW_iload_n dX7_set_53 rfl ?_
          refine AW_iret dX7_set_54 rfl ?_
          first
          | (exfalso; omega)
          | (refine ⟨_, rfl, ?_⟩
             unfold setS
             rw [if_pos (by omega)]
             exact ⟨rfl, MS.rf.set⟩)
        · refine AW_aload_n dX7_set_31 rfl ?_
          refine AW_get dX7_set_32 fX7_7 rfl rfl ?_
          refine AW_sipush dX7_set_35 (by decide) ?_
          refine AW_iload_n dX7_set_38 rfl ?_
          refine AW_iadd dX7_set_39 ?_
          refine AW_ialdN (j := 6422) dX7_set_40 rfl (Nat.le_of_ble_eq_true rfl) (by omega) (by omega) ?_
          refine AW_istore_n (i := 3) (lv' := [_, _, _, _]) dX7_set_41 rfl (by decide) (Nat.le_of_ble_eq_true rfl) rfl ?_
          refine AW_aload_n dX7_set_42 rfl ?_
          refine AW_get dX7_set_43 fX7_7 rfl rfl ?_
          refine AW_sipush dX7_set_46 (by decide) ?_
          refine AW_iload_n dX7_set_49 rfl ?_
          refine AW_iadd dX7_set_50 ?_
          refine AW_iload_n dX7_set_51 rfl ?_
          refine AW_iastN (j := 6422) dX7_set_52 rfl (Nat.le_of_ble_eq_true rfl) (by omega) (by omega) ?_
          refine AW_iload_n dX7_set_53 rfl ?_
          refine AW_iret dX7_set_54 rfl ?_
          first
          | (exfalso; omega)
          | (refine ⟨_, rfl, ?_⟩
             unfold setS
             rw [if_neg (by omega), if_pos (by omega)]
             exact ⟨rfl, MS.rf.set⟩)
      · refine AW_if_ne 31 dX7_set_25 (by decide) (by decide) (fun h => absurd h (by decide)) (fun _ => ?_)
        refine AW_bipush dX7_set_28 (by decide) ?_
        refine AW_iret dX7_set_30 rfl ?_
        refine ⟨_, rfl, ?_⟩
        unfold setS
        rw [if_neg (by omega), if_neg (by omega)]
        exact ⟨rfl, MS.rf⟩
  · refine AW_if_eq 28 dX7_set_6 (by decide) (by decide) (fun _ => ?_) (fun h => absurd (by decide) h)
    refine AW_bipush dX7_set_28 (by decide) ?_
    refine AW_iret dX7_set_30 rfl ?_
    refine ⟨_, rfl, ?_⟩
    unfold setS
    rw [if_neg (by omega), if_neg (by omega)]
    exact ⟨rfl, MS.rf⟩
theorem am_cp_0 {σ : am_S} {a0 a sp dp : Nat} : am_cp σ a0 a sp dp 0 = σ := by
  refine Prod.ext ?_ rfl
  funext k j
  simp only [am_cp]
  rw [if_neg (by omega)]
theorem am_cp_s {σ : am_S} {a0 a sp dp n : Nat} {x : Int} (h : x = σ.1 a0 (sp + n)) : am_up (am_cp σ a0 a sp dp n) a (dp + n) x = am_cp σ a0 a sp dp (n + 1) := by
  subst h
  refine Prod.ext ?_ rfl
  funext k j
  simp only [am_up, am_cp]
  by_cases hk : k = a
  · by_cases hj : j = dp + n
    · rw [if_pos ⟨hk, hj⟩, if_pos (by omega), show sp + (j - dp) = sp + n by omega]
    · rw [if_neg (by omega)]
      by_cases h2 : dp ≤ j ∧ j < dp + n
      · rw [if_pos ⟨hk, h2⟩, if_pos (by omega)]
      · rw [if_neg (by omega), if_neg (by omega)]
  · rw [if_neg (by omega), if_neg (by omega), if_neg (by omega)]
theorem am_cp_other {σ : am_S} {a0 a b sp dp n : Nat} (h : b ≠ a) : (am_cp σ a0 a sp dp n).1 b = σ.1 b := by
  funext j
  simp [am_cp, h]
theorem l_image7 {σ : am_S} {k : Nat} (hk2 : k < 2) {Q : Option am_V → am_S → Prop} (hk : AW am_tab mX7_image 45 [some (vR 70), some (vI k), some (vI (6424 : Nat))] [] (am_cp σ 71 72 0 (6424 * k) 6424) Q) : ∀ i : Nat, i ≤ 6424 → AW am_tab mX7_image 14 [some (vR 70), some (vI k), some (vI i)] [] (am_cp σ 71 72 0 (6424 * k) i) Q :=
  up_loop (fun i hi ih => by
    refine AW_iload_n dX7_image_14 rfl ?_
    refine AW_sipush dX7_image_15 (by decide) ?_
    refine AW_icmp_ge 45 dX7_image_18 (by decide) (by omega) (by omega) (fun h18 => ?_) (fun h18 => ?_)
    · have e : i = 6424 := by omega
      subst e
      exact hk
    · refine AW_aload_n dX7_image_21 rfl ?_
      refine AW_get dX7_image_22 fX7_13 rfl rfl ?_
      refine AW_sipush dX7_image_25 (by decide) ?_
      refine AW_iload_n dX7_image_28 rfl ?_
      refine AW_imul dX7_image_29 ?_
      refine AW_iload_n dX7_image_30 rfl ?_
      refine AW_iadd dX7_image_31 ?_
      refine AW_aload_n dX7_image_32 rfl ?_
      refine AW_get dX7_image_33 fX7_7 rfl rfl ?_
      refine AW_iload_n dX7_image_36 rfl ?_
      refine AW_ialdN (j := i) dX7_image_37 rfl (Nat.le_of_ble_eq_true rfl) (by omega) (by omega) ?_
      refine AW_iastN (j := 6424 * k + i) dX7_image_38 rfl (Nat.le_of_ble_eq_true rfl) (by omega) (by omega) ?_
      refine AW_iinc (lv' := [_, _, _]) dX7_image_39 rfl (by decide) rfl ?_
      refine AW_goto (tgt := 14) dX7_image_42 (by decide) ?_
      rw [am_cp_s (by rw [am_cp_other (by decide), Nat.zero_add])]
      exact ih (by omega))
theorem c_image7 {σ : am_S} {n : Int} (hn : -2147483648 ≤ n ∧ n < 2147483648) : Runs am_tab mX7_image [vR 70, vI n] σ (QI (fun z σ' => if 0 ≤ n ∧ n ≤ 1 then z = 1 ∧ σ' = am_up (am_cp σ 71 72 0 (6424 * n.toNat) 6424) 73 n.toNat 1 else z = -2 ∧ σ' = σ)) := by
  refine Runs.of (by decide) rfl (by simp) (Nat.le_of_ble_eq_true rfl) ?_
  show AW am_tab mX7_image 0 [some (vR 70), some (vI n), none] [] σ _
  refine AW_iload_n dX7_image_0 rfl ?_
  refine AW_iconst dX7_image_1 ?_
  refine AW_iconst dX7_image_2 ?_
  refine AW_cSI3 dX7_image_3 kX7_56 (am_fit_b rfl) (Nat.le_of_ble_eq_true rfl) (c_in hn (by omega) (by omega)) (fun z σ' hq => ?_)
  obtain ⟨rfl, ⟨rfl, h3⟩ | ⟨rfl, h3⟩⟩ := hq
  · refine AW_if_ne 12 dX7_image_6 (by decide) (by decide) (fun _ => ?_) (fun h => absurd (by decide) h)
    refine AW_iconst dX7_image_12 ?_
    refine AW_istore_n (i := 2) (lv' := [_, _, _]) dX7_image_13 rfl (by decide) (Nat.le_of_ble_eq_true rfl) rfl ?_
    obtain ⟨k, rfl⟩ : ∃ k : Nat, n = k := ⟨n.toNat, by omega⟩
    suffices hs : AW am_tab mX7_image 45 [some (vR 70), some (vI k), some (vI (6424 : Nat))] [] (am_cp σ 71 72 0 (6424 * k) 6424) _ by
      have h9 := l_image7 (by omega) hs 0 (by omega)
      rw [am_cp_0] at h9
      exact h9
    refine AW_aload_n dX7_image_45 rfl ?_
    refine AW_get dX7_image_46 fX7_16 rfl rfl ?_
    refine AW_iload_n dX7_image_49 rfl ?_
    refine AW_iconst dX7_image_50 ?_
    refine AW_zastN (j := k) dX7_image_51 rfl (Nat.le_of_ble_eq_true rfl) (by omega) (by omega) (by first | exact Or.inl rfl | exact Or.inr rfl) ?_
    refine AW_iconst dX7_image_52 ?_
    refine AW_iret dX7_image_53 rfl ?_
    exact ⟨_, rfl, by dsimp only; rw [if_pos (by omega), Int.toNat_natCast]; exact ⟨rfl, rfl⟩⟩
  · refine AW_if_ne 12 dX7_image_6 (by decide) (by decide) (fun h => absurd h (by decide)) (fun _ => ?_)
    refine AW_bipush dX7_image_9 (by decide) ?_
    refine AW_iret dX7_image_11 rfl ?_
    exact ⟨_, rfl, by dsimp only; rw [if_neg (by omega)]; exact ⟨rfl, rfl⟩⟩
theorem l_restore7 {σ : am_S} {k : Nat} (hk2 : k < 2) {Q : Option am_V → am_S → Prop} (hk : AW am_tab mX7_restore 57 [some (vR 70), some (vI k), some (vI (6424 : Nat))] [] (am_cp σ 72 71 (6424 * k) 0 6424) Q) : ∀ i : Nat, i ≤ 6424 → AW am_tab mX7_restore 26 [some (vR 70), some (vI k), some (vI i)] [] (am_cp σ 72 71 (6424 * k) 0 i) Q :=
  up_loop (fun i hi ih => by
    refine AW_iload_n dX7_restore_26 rfl ?_
    refine AW_sipush dX7_restore_27 (by decide) ?_
    refine AW_icmp_ge 57 dX7_restore_30 (by decide) (by omega) (by omega) (fun h30 => ?_) (fun h30 => ?_)
    · have e : i = 6424 := by omega
      subst e
      exact hk
    · refine AW_aload_n dX7_restore_33 rfl ?_
      refine AW_get dX7_restore_34 fX7_7 rfl rfl ?_
      refine AW_iload_n dX7_restore_37 rfl ?_
      refine AW_aload_n dX7_restore_38 rfl ?_
      refine AW_get dX7_restore_39 fX7_13 rfl rfl ?_
      refine AW_sipush dX7_restore_42 (by decide) ?_
      refine AW_iload_n dX7_restore_45 rfl ?_
      refine AW_imul dX7_restore_46 ?_
      refine AW_iload_n dX7_restore_47 rfl ?_
      refine AW_iadd dX7_restore_48 ?_
      refine AW_ialdN (j := 6424 * k + i) dX7_restore_49 rfl (Nat.le_of_ble_eq_true rfl) (by omega) (by omega) ?_
      refine AW_iastN (j := i) dX7_restore_50 rfl (Nat.le_of_ble_eq_true rfl) (by omega) (by omega) ?_
      refine AW_iinc (lv' := [_, _, _]) dX7_restore_51 rfl (by decide) rfl ?_
      refine AW_goto (tgt := 26) dX7_restore_54 (by decide) ?_
      have e := am_cp_s (σ := σ) (a0 := 72) (a := 71) (sp := 6424 * k) (dp := 0) (n := i) rfl
      rw [Nat.zero_add] at e
      rw [am_cp_other (by decide), e]
      exact ih (by omega))
theorem c_restore7 {σ : am_S} (hK : ∀ k, k < 2 → 0 ≤ σ.1 73 k ∧ σ.1 73 k ≤ 1) {n : Int} (hn : -2147483648 ≤ n ∧ n < 2147483648) : Runs am_tab mX7_restore [vR 70, vI n] σ (QI (fun z σ' => if 0 ≤ n ∧ n ≤ 1 then (if σ.1 73 n.toNat = 0 then z = -3 ∧ σ' = σ else z = 1 ∧ σ' = am_cp σ 72 71 (6424 * n.toNat) 0 6424) else z = -2 ∧ σ' = σ)) := by
  refine Runs.of (by decide) rfl (by simp) (Nat.le_of_ble_eq_true rfl) ?_
  show AW am_tab mX7_restore 0 [some (vR 70), some (vI n), none] [] σ _
  refine AW_iload_n dX7_restore_0 rfl ?_
  refine AW_iconst dX7_restore_1 ?_
  refine AW_iconst dX7_restore_2 ?_
  refine AW_cSI3 dX7_restore_3 kX7_56 (am_fit_b rfl) (Nat.le_of_ble_eq_true rfl) (c_in hn (by omega) (by omega)) (fun z σ' hq => ?_)
  obtain ⟨rfl, ⟨rfl, h3⟩ | ⟨rfl, h3⟩⟩ := hq
  · refine AW_if_ne 12 dX7_restore_6 (by decide) (by decide) (fun _ => ?_) (fun h => absurd (by decide) h)
    obtain ⟨k, rfl⟩ : ∃ k : Nat, n = k := ⟨n.toNat, by omega⟩
    refine AW_aload_n dX7_restore_12 rfl ?_
    refine AW_get dX7_restore_13 fX7_16 rfl rfl ?_
    refine AW_iload_n dX7_restore_16 rfl ?_
    refine AW_zaldN (j := k) dX7_restore_17 rfl (Nat.le_of_ble_eq_true rfl) (by omega) (by omega) ?_
    have hKk := hK k (by omega)
    refine AW_if_ne 24 dX7_restore_18 (by decide) (by omega) (fun h18 => ?_) (fun h18 => ?_)
    · refine AW_iconst dX7_restore_24 ?_
      refine AW_istore_n (i := 2) (lv' := [_, _, _]) dX7_restore_25 rfl (by decide) (Nat.le_of_ble_eq_true rfl) rfl ?_
      suffices hs : AW am_tab mX7_restore 57 [some (vR 70), some (vI k), some (vI (6424 : Nat))] [] (am_cp σ 72 71 (6424 * k) 0 6424) _ by
        have h9 := l_restore7 (by omega) hs 0 (by omega)
        rw [am_cp_0] at h9
        exact h9
      refine AW_iconst dX7_restore_57 ?_
      refine AW_iret dX7_restore_58 rfl ?_
      exact ⟨_, rfl, by dsimp only; rw [if_pos (by omega), Int.toNat_natCast, if_neg (by omega)]; exact ⟨rfl, rfl⟩⟩
    · refine AW_bipush dX7_restore_21 (by decide) ?_
      refine AW_iret dX7_restore_23 rfl ?_
      exact ⟨_, rfl, by dsimp only; rw [if_pos (by omega), Int.toNat_natCast, if_pos (by omega)]; exact ⟨rfl, rfl⟩⟩
  · refine AW_if_ne 12 dX7_restore_6 (by decide) (by decide) (fun h => absurd h (by decide)) (fun _ => ?_)
    refine AW_bipush dX7_restore_9 (by decide) ?_
    refine AW_iret dX7_restore_11 rfl ?_
    exact ⟨_, rfl, by dsimp only; rw [if_neg (by omega)]; exact ⟨rfl, rfl⟩⟩
end
section
/-- which ARM takes THING k at TICK t, laid for the first n places -/
def laS (σ : am_S) (w : Int) (n : Nat) : am_S := am_row (am_row σ 74 301 (gn (σ.1 71))) 75 n (armR (σ.1 71) w)
theorem laS_71 {σ : am_S} {w : Int} {n : Nat} : (laS σ w n).1 71 = σ.1 71 := by
  unfold laS
  rw [am_row_other (by decide), am_row_other (by decide)]
theorem laS_74 {σ : am_S} {w : Int} {n : Nat} : ∀ t, t ≤ 300 → (laS σ w n).1 74 t = gn ((laS σ w n).1 71) t := by
  intro t ht
  rw [laS_71]
  unfold laS
  rw [am_row_other (by decide), am_row_at (by omega)]
theorem laS_s {σ : am_S} {w : Int} {k t : Nat} (ht : t < 301) : am_up (laS σ w (301 * k + t)) 75 (301 * k + t) (avX (σ.1 71) w k t 4) = laS σ w (301 * k + (t + 1)) := by
  unfold laS
  rw [am_row_s]
  · rw [Nat.add_assoc]
  · unfold armR
    rw [show (301 * k + t) / 301 = k by omega, show (301 * k + t) % 301 = t by omega]
theorem laS_MS {σ : am_S} {w : Int} {n : Nat} : MS σ (laS σ w n) (σ.1 71) := (MS.rf.row (by decide)).row (by decide)
theorem l_layArms7a {σ : am_S} (hS : WS (σ.1 71)) (hT : WT (σ.1 71)) (hA : WA (σ.1 71)) {w : Int} (hw : -2147483648 ≤ w ∧ w < 2147483648) {k t : Nat} (hk : (k : Int) < σ.1 71 6423) (ht : t < 301) {Q : Option am_V → am_S → Prop} (hk2 : AW am_tab mX7_layArms 72 [some (vR 70), some (vI w), some (vI k), some (vI t), some (vI (avX (σ.1 71) w k t 4)), some (vI (4 : Nat))] [] (laS σ w (301 * k + t)) Q) : ∀ a : Nat, a ≤ 4 → AW am_tab mX7_layArms 34 [some (vR 70), some (vI w), some (vI k), some (vI t), some (vI (avX (σ.1 71) w k t a)), some (vI a)] [] (laS σ w (301 * k + t)) Q :=
  up_loop (fun a ha ih => by
    refine AW_iload dX7_layArms_34 rfl ?_
    refine AW_iconst dX7_layArms_36 ?_
    refine AW_icmp_ge 72 dX7_layArms_37 (by decide) (by omega) (by omega) (fun h37 => ?_) (fun h37 => ?_)
    · have e : a = 4 := by omega
      subst e
      exact hk2
    · refine AW_iload dX7_layArms_40 rfl ?_
      refine AW_iload_n dX7_layArms_42 rfl ?_
      refine AW_icmp_eq 62 dX7_layArms_43 (by decide) (by omega) (by omega) (fun h43 => ?_) (fun h43 => ?_)
      · have e : avX (σ.1 71) w k t (a + 1) = avX (σ.1 71) w k t a := by
          simp only [avX]
          first
          | (rw [laS_71] at h51; rw [if_neg (fun h => h51 h.2)])
          | (rw [if_neg (by omega)])
        refine AW_iload dX7_layArms_62 rfl ?_
        refine AW_istore (lv' := [_, _, _, _, _, _]) dX7_layArms_64 (by decide) (Nat.le_of_ble_eq_true rfl) rfl ?_
        refine AW_iinc (lv' := [_, _, _, _, _, _]) dX7_layArms_66 rfl (by decide) rfl ?_
        refine AW_goto (tgt := 34) dX7_layArms_69 (by decide) ?_
        have h9 := ih (by omega)
        rw [e] at h9
        exact h9
      · refine AW_aload_n dX7_layArms_46 rfl ?_
        refine AW_iload dX7_layArms_47 rfl ?_
        refine AW_iload_n dX7_layArms_49 rfl ?_
        refine AW_iload_n dX7_layArms_50 rfl ?_
        refine AW_cVI3 dX7_layArms_51 kX7_92 (am_fit_b rfl) rfl rfl (Nat.le_of_ble_eq_true rfl) (c_canTake7 (σ := (laS σ w (301 * k + t))) (by rw [laS_71]; exact hS) (by rw [laS_71]; exact hT) (by rw [laS_71]; exact hA) laS_74 (by omega) (by rw [laS_71]; exact hk) (by omega)) (fun z σ' hq => ?_)
        obtain ⟨rfl, ⟨rfl, h51⟩ | ⟨rfl, h51⟩⟩ := hq
        · refine AW_if_eq 62 dX7_layArms_54 (by decide) (by decide) (fun h => absurd h (by decide)) (fun _ => ?_)
          rw [laS_71] at h51
          have e : avX (σ.1 71) w k t (a + 1) = a := by simp only [avX]; rw [if_pos ⟨by omega, h51⟩]
          refine AW_iload dX7_layArms_57 rfl ?_
          refine AW_goto (tgt := 64) dX7_layArms_59 (by decide) ?_
          refine AW_istore (lv' := [_, _, _, _, _, _]) dX7_layArms_64 (by decide) (Nat.le_of_ble_eq_true rfl) rfl ?_
          refine AW_iinc (lv' := [_, _, _, _, _, _]) dX7_layArms_66 rfl (by decide) rfl ?_
          refine AW_goto (tgt := 34) dX7_layArms_69 (by decide) ?_
          have h9 := ih (by omega)
          rw [e] at h9
          exact h9
        · refine AW_if_eq 62 dX7_layArms_54 (by decide) (by decide) (fun _ => ?_) (fun h => absurd (by decide) h)
          have e : avX (σ.1 71) w k t (a + 1) = avX (σ.1 71) w k t a := by
            simp only [avX]
            first
            | (rw [laS_71] at h51; rw [if_neg (fun h => h51 h.2)])
            | (rw [if_neg (by omega)])
          refine AW_iload dX7_layArms_62 rfl ?_
          refine AW_istore (lv' := [_, _, _, _, _, _]) dX7_layArms_64 (by decide) (Nat.le_of_ble_eq_true rfl) rfl ?_
          refine AW_iinc (lv' := [_, _, _, _, _, _]) dX7_layArms_66 rfl (by decide) rfl ?_
          refine AW_goto (tgt := 34) dX7_layArms_69 (by decide) ?_
          have h9 := ih (by omega)
          rw [e] at h9
          exact h9)
theorem l_layArms7t {σ : am_S} (hS : WS (σ.1 71)) (hT : WT (σ.1 71)) (hA : WA (σ.1 71)) {w : Int} (hw : -2147483648 ≤ w ∧ w < 2147483648) {k : Nat} (hk : (k : Int) < σ.1 71 6423) {Q : Option am_V → am_S → Prop} (hk2 : ∀ x y : Option am_V, AW am_tab mX7_layArms 92 [some (vR 70), some (vI w), some (vI k), some (vI (301 : Nat)), x, y] [] (laS σ w (301 * k + 301)) Q) : ∀ t : Nat, t ≤ 301 → ∀ x y : Option am_V, AW am_tab mX7_layArms 20 [some (vR 70), some (vI w), some (vI k), some (vI t), x, y] [] (laS σ w (301 * k + t)) Q :=
  up_loop (fun t ht ih x y => by
    refine AW_iload_n dX7_layArms_20 rfl ?_
    refine AW_sipush dX7_layArms_21 (by decide) ?_
    refine AW_icmp_ge 92 dX7_layArms_24 (by decide) (by omega) (by omega) (fun h24 => ?_) (fun h24 => ?_)
    · have e : t = 301 := by omega
      subst e
      exact hk2 _ _
    · refine AW_bipush dX7_layArms_27 (by decide) ?_
      refine AW_istore (lv' := [_, _, _, _, _, _]) dX7_layArms_29 (by decide) (Nat.le_of_ble_eq_true rfl) rfl ?_
      refine AW_iconst dX7_layArms_31 ?_
      refine AW_istore (lv' := [_, _, _, _, _, _]) dX7_layArms_32 (by decide) (Nat.le_of_ble_eq_true rfl) rfl ?_
      refine l_layArms7a hS hT hA hw hk (by omega) ?_ 0 (by omega)
      have hM := hT.1
      refine AW_aload_n dX7_layArms_72 rfl ?_
      refine AW_get dX7_layArms_73 fX7_23 rfl rfl ?_
      refine AW_sipush dX7_layArms_76 (by decide) ?_
      refine AW_iload_n dX7_layArms_79 rfl ?_
      refine AW_imul dX7_layArms_80 ?_
      refine AW_iload_n dX7_layArms_81 rfl ?_
      refine AW_iadd dX7_layArms_82 ?_
      refine AW_iload dX7_layArms_83 rfl ?_
      refine AW_iastN (j := 301 * k + t) dX7_layArms_85 rfl (Nat.le_of_ble_eq_true rfl) (by omega) (by omega) ?_
      refine AW_iinc (lv' := [_, _, _, _, _, _]) dX7_layArms_86 rfl (by decide) rfl ?_
      refine AW_goto (tgt := 20) dX7_layArms_89 (by decide) ?_
      rw [laS_s (by omega)]
      exact ih (by omega) _ _)
theorem l_layArms7k {σ : am_S} (hS : WS (σ.1 71)) (hT : WT (σ.1 71)) (hA : WA (σ.1 71)) {w : Int} (hw : -2147483648 ≤ w ∧ w < 2147483648) {Q : Option am_V → am_S → Prop} (hQ : Q none (laS σ w (301 * (σ.1 71 6423).toNat))) : ∀ k : Nat, k ≤ (σ.1 71 6423).toNat → ∀ z x y : Option am_V, AW am_tab mX7_layArms 6 [some (vR 70), some (vI w), some (vI k), z, x, y] [] (laS σ w (301 * k)) Q :=
  up_loop (fun k hk0 ih z x y => by
    have hM := hT.1
    refine AW_iload_n dX7_layArms_6 rfl ?_
    refine AW_aload_n dX7_layArms_7 rfl ?_
    refine AW_get dX7_layArms_8 fX7_7 rfl rfl ?_
    refine AW_sipush dX7_layArms_11 (by decide) ?_
    refine AW_ialdN (j := 6423) dX7_layArms_14 rfl (Nat.le_of_ble_eq_true rfl) (by omega) (by omega) ?_
    refine AW_icmp_ge 98 dX7_layArms_15 (by decide) (by omega) (by rw [laS_71]; omega) (fun h15 => ?_) (fun h15 => ?_)
    · have e : k = (σ.1 71 6423).toNat := by rw [laS_71] at h15; omega
      subst e
      refine AW_vret dX7_layArms_98 rfl ?_
      exact hQ
    · refine AW_iconst dX7_layArms_18 ?_
      refine AW_istore_n (i := 3) (lv' := [_, _, _, _, _, _]) dX7_layArms_19 rfl (by decide) (Nat.le_of_ble_eq_true rfl) rfl ?_
      refine l_layArms7t hS hT hA hw (by rw [laS_71] at h15; omega) (fun x y => ?_) 0 (by omega) _ _
      refine AW_iinc (lv' := [_, _, _, _, _, _]) dX7_layArms_92 rfl (by decide) rfl ?_
      refine AW_goto (tgt := 6) dX7_layArms_95 (by decide) ?_
      exact ih (by rw [laS_71] at h15; omega) _ _ _)
theorem c_layArms7 {σ : am_S} (hS : WS (σ.1 71)) (hT : WT (σ.1 71)) (hA : WA (σ.1 71)) {w : Int} (hw : -2147483648 ≤ w ∧ w < 2147483648) : Runs am_tab mX7_layArms [vR 70, vI w] σ (QV (fun σ' => σ' = laS σ w (301 * (σ.1 71 6423).toNat))) := by
  refine Runs.of (by decide) rfl (by simp) (Nat.le_of_ble_eq_true rfl) ?_
  show AW am_tab mX7_layArms 0 [some (vR 70), some (vI w), none, none, none, none] [] σ _
  refine AW_aload_n dX7_layArms_0 rfl ?_
  refine AW_cVV0 dX7_layArms_1 kX7_72 (am_fit_b rfl) rfl rfl (Nat.le_of_ble_eq_true rfl) (c_layGone7 hS) (fun σ' hq => ?_)
  replace hq := hq.symm
  subst hq
  refine AW_iconst dX7_layArms_4 ?_
  refine AW_istore_n (i := 2) (lv' := [_, _, _, _, _, _]) dX7_layArms_5 rfl (by decide) (Nat.le_of_ble_eq_true rfl) rfl ?_
  have h9 := l_layArms7k hS hT hA hw (Q := QV (fun σ' => σ' = laS σ w (301 * (σ.1 71 6423).toNat))) ⟨rfl, rfl⟩ 0 (by omega) none none none
  unfold laS at h9
  rw [Nat.mul_zero, am_row_0] at h9
  exact h9
end
section
/-- the nearest of the first k THINGS that a SIGHT may be of, and how far -/
def nearN (X : Row) (tick : Nat) (lane place kind : Int) : Nat → Int × Int
  | 0 => (-6, X 6421 + 1)
  | k + 1 => if X (321 + k) = lane ∧ X (361 + k) = kind ∧ X (381 + 301 * k + tick) ≠ 1 ∧ ((plc X k tick - place).natAbs : Int) < (nearN X tick lane place kind k).2 then ((k : Int), ((plc X k tick - place).natAbs : Int)) else nearN X tick lane place kind k
theorem nearN_b {X : Row} (hN : WN X) {tick : Nat} {lane place kind : Int} : ∀ k, ((nearN X tick lane place kind k).1 = -6 ∨ 0 ≤ (nearN X tick lane place kind k).1 ∧ (nearN X tick lane place kind k).1 < k) ∧ 0 ≤ (nearN X tick lane place kind k).2 ∧ (nearN X tick lane place kind k).2 ≤ 21 := by
  intro k
  induction k with
  | zero => have := hN.1; exact ⟨Or.inl rfl, show 0 ≤ X 6421 + 1 by omega, show X 6421 + 1 ≤ 21 by omega⟩
  | succ k ih =>
    simp only [nearN]
    split
    · dsimp only; omega
    · omega
/-- the row behind a new THING -/
def newX (X : Row) (tick : Nat) (lane place kind : Int) : Row := fun j => if j = 6423 then X 6423 + 1 else if j = 381 + 301 * (X 6423).toNat + tick then 1 else if 381 + 301 * (X 6423).toNat ≤ j ∧ j < 381 + 301 * (X 6423).toNat + 301 then 0 else if j = 361 + (X 6423).toNat then kind else if j = 341 + (X 6423).toNat then place else if j = 321 + (X 6423).toNat then lane else if j = 301 + (X 6423).toNat then (tick : Int) else X j
def seeS (X : Row) (tick lane place kind : Int) : Int × Row := if (0 ≤ tick ∧ tick ≤ 300) ∧ (0 ≤ lane ∧ lane ≤ 3) ∧ (0 ≤ place ∧ place ≤ 60) ∧ 0 ≤ kind ∧ kind ≤ 2 then (if 0 ≤ (nearN X tick.toNat lane place kind (X 6423).toNat).1 then ((nearN X tick.toNat lane place kind (X 6423).toNat).1, rup X (381 + 301 * (nearN X tick.toNat lane place kind (X 6423).toNat).1.toNat + tick.toNat) 1) else if X 6423 = 20 then (-4, X) else (X 6423, newX X tick.toNat lane place kind)) else (-2, X)
theorem l_see7 {σ : am_S} (hS : WS (σ.1 71)) (hT : WT (σ.1 71)) (hN : WN (σ.1 71)) {tick : Nat} {lane place kind : Int} (htick : tick ≤ 300) (hl : 0 ≤ lane ∧ lane ≤ 3) (hp : 0 ≤ place ∧ place ≤ 60) (hkd : 0 ≤ kind ∧ kind ≤ 2) {Q : Option am_V → am_S → Prop} (hk2 : ∀ x : Option am_V, AW am_tab mX7_see 151 [some (vR 70), some (vI (tick : Nat)), some (vI lane), some (vI place), some (vI kind), some (vI (nearN (σ.1 71) tick lane place kind (σ.1 71 6423).toNat).1), some (vI (nearN (σ.1 71) tick lane place kind (σ.1 71 6423).toNat).2), some (vI (σ.1 71 6423).toNat), x] [] (am_row σ 74 301 (gn (σ.1 71))) Q) : ∀ i : Nat, i ≤ (σ.1 71 6423).toNat → ∀ x : Option am_V, AW am_tab mX7_see 62 [some (vR 70), some (vI (tick : Nat)), some (vI lane), some (vI place), some (vI kind), some (vI (nearN (σ.1 71) tick lane place kind i).1), some (vI (nearN (σ.1 71) tick lane place kind i).2), some (vI i), x] [] (am_row σ 74 301 (gn (σ.1 71))) Q :=
  up_loop (fun i hi ih x => by
    have hX := (am_row_other (σ := σ) (a := 74) (a' := 71) (n := 301) (g := gn (σ.1 71)) (by decide))
    have hM := hT.1
    have hb := nearN_b hN (tick := tick) (lane := lane) (place := place) (kind := kind) i
    refine AW_iload dX7_see_62 rfl ?_
    refine AW_aload_n dX7_see_64 rfl ?_
    refine AW_get dX7_see_65 fX7_7 rfl rfl ?_
    refine AW_sipush dX7_see_68 (by decide) ?_
    refine AW_ialdN (j := 6423) dX7_see_71 rfl (Nat.le_of_ble_eq_true rfl) (by omega) (by omega) ?_
    refine AW_icmp_ge 151 dX7_see_72 (by decide) (by omega) (by rw [hX]; omega) (fun h72 => ?_) (fun h72 => ?_)
    · have e : i = (σ.1 71 6423).toNat := by rw [hX] at h72; omega
      subst e
      exact hk2 _
    · have hp := plc_b hS hT (k := i) (t := tick) (by rw [hX] at h72; omega) htick
      have hk2 := hT.2 i (by rw [hX] at h72; omega)
      refine AW_aload_n dX7_see_75 rfl ?_
      refine AW_iload dX7_see_76 rfl ?_
      refine AW_iload_n dX7_see_78 rfl ?_
      refine AW_cVI2 dX7_see_79 kX7_75 (am_fit_b rfl) rfl rfl (Nat.le_of_ble_eq_true rfl) (c_placeOf7 (σ := (am_row σ 74 301 (gn (σ.1 71)))) (by rw [hX]; exact hS) (by rw [hX]; exact hT) gl_row (by rw [hX]; rw [hX] at h72; omega) htick) (fun z σ' hq => ?_)
      obtain ⟨hz, hs⟩ := hq
      rw [hX] at hz
      subst hz
      replace hs := hs.symm
      subst hs
      refine AW_iload_n dX7_see_82 rfl ?_
      refine AW_isub dX7_see_83 ?_
      refine AW_cSI1 dX7_see_84 kX7_79 (am_fit_b rfl) (Nat.le_of_ble_eq_true rfl) (c_size7 (by omega)) (fun z σ' hq => ?_)
      obtain ⟨hz, hs⟩ := hq
      replace hz := hz.symm
      subst hz
      replace hs := hs.symm
      subst hs
      refine AW_istore (lv' := [_, _, _, _, _, _, _, _, _]) dX7_see_87 (by decide) (Nat.le_of_ble_eq_true rfl) rfl ?_
      refine AW_aload_n dX7_see_89 rfl ?_
      refine AW_get dX7_see_90 fX7_7 rfl rfl ?_
      refine AW_sipush dX7_see_93 (by decide) ?_
      refine AW_iload dX7_see_96 rfl ?_
      refine AW_iadd dX7_see_98 ?_
      refine AW_ialdN (j := 321 + i) dX7_see_99 rfl (Nat.le_of_ble_eq_true rfl) (by omega) (by omega) ?_
      refine AW_iload_n dX7_see_100 rfl ?_
      rw [hX]
      refine AW_icmp_ne 145 dX7_see_101 (by decide) (by omega) (by omega) (fun h101 => ?_) (fun h101 => ?_)
      · refine AW_iinc (lv' := [_, _, _, _, _, _, _, _, _]) dX7_see_145 rfl (by decide) rfl ?_
        refine AW_goto (tgt := 62) dX7_see_148 (by decide) ?_
        rw [hX] at h72
        try rw [hX] at h124
        have e : nearN (σ.1 71) tick lane place kind (i + 1) = nearN (σ.1 71) tick lane place kind i := by
          simp only [nearN]
          rw [if_neg (by omega)]
        have h9 := ih (by omega) (some (vI ((plc (σ.1 71) i tick - place).natAbs : Int)))
        rw [e] at h9
        exact h9
      · refine AW_aload_n dX7_see_104 rfl ?_
        refine AW_get dX7_see_105 fX7_7 rfl rfl ?_
        refine AW_sipush dX7_see_108 (by decide) ?_
        refine AW_iload dX7_see_111 rfl ?_
        refine AW_iadd dX7_see_113 ?_
        refine AW_ialdN (j := 361 + i) dX7_see_114 rfl (Nat.le_of_ble_eq_true rfl) (by omega) (by omega) ?_
        refine AW_iload dX7_see_115 rfl ?_
        rw [hX]
        refine AW_icmp_ne 145 dX7_see_117 (by decide) (by omega) (by omega) (fun h117 => ?_) (fun h117 => ?_)
        · refine AW_iinc (lv' := [_, _, _, _, _, _, _, _, _]) dX7_see_145 rfl (by decide) rfl ?_
          refine AW_goto (tgt := 62) dX7_see_148 (by decide) ?_
          rw [hX] at h72
          try rw [hX] at h124
          have e : nearN (σ.1 71) tick lane place kind (i + 1) = nearN (σ.1 71) tick lane place kind i := by
            simp only [nearN]
            rw [if_neg (by omega)]
          have h9 := ih (by omega) (some (vI ((plc (σ.1 71) i tick - place).natAbs : Int)))
          rw [e] at h9
          exact h9
        · refine AW_aload_n dX7_see_120 rfl ?_
          refine AW_iload dX7_see_121 rfl ?_
          refine AW_iload_n dX7_see_123 rfl ?_
          refine AW_cVI2 dX7_see_124 kX7_82 (am_fit_b rfl) rfl rfl (Nat.le_of_ble_eq_true rfl) (c_wasSeen7 (σ := (am_row σ 74 301 (gn (σ.1 71)))) (by rw [hX]; exact hT) (by rw [hX]; rw [hX] at h72; omega) htick) (fun z σ' hq => ?_)
          obtain ⟨rfl, ⟨rfl, h124⟩ | ⟨rfl, h124⟩⟩ := hq
          · refine AW_if_ne 145 dX7_see_127 (by decide) (by decide) (fun _ => ?_) (fun h => absurd (by decide) h)
            refine AW_iinc (lv' := [_, _, _, _, _, _, _, _, _]) dX7_see_145 rfl (by decide) rfl ?_
            refine AW_goto (tgt := 62) dX7_see_148 (by decide) ?_
            rw [hX] at h72
            try rw [hX] at h124
            have e : nearN (σ.1 71) tick lane place kind (i + 1) = nearN (σ.1 71) tick lane place kind i := by
              simp only [nearN]
              rw [if_neg (by omega)]
            have h9 := ih (by omega) (some (vI ((plc (σ.1 71) i tick - place).natAbs : Int)))
            rw [e] at h9
            exact h9
          · refine AW_if_ne 145 dX7_see_127 (by decide) (by decide) (fun h => absurd h (by decide)) (fun _ => ?_)
            refine AW_iload dX7_see_130 rfl ?_
            refine AW_iload dX7_see_132 rfl ?_
            refine AW_icmp_ge 145 dX7_see_134 (by decide) (by omega) (by omega) (fun h134 => ?_) (fun h134 => ?_)
            · refine AW_iinc (lv' := [_, _, _, _, _, _, _, _, _]) dX7_see_145 rfl (by decide) rfl ?_
              refine AW_goto (tgt := 62) dX7_see_148 (by decide) ?_
              rw [hX] at h72
              try rw [hX] at h124
              have e : nearN (σ.1 71) tick lane place kind (i + 1) = nearN (σ.1 71) tick lane place kind i := by
                simp only [nearN]
                rw [if_neg (by omega)]
              have h9 := ih (by omega) (some (vI ((plc (σ.1 71) i tick - place).natAbs : Int)))
              rw [e] at h9
              exact h9
            · rw [hX] at h72 h124
              refine AW_iload dX7_see_137 rfl ?_
              refine AW_istore (lv' := [_, _, _, _, _, _, _, _, _]) dX7_see_139 (by decide) (Nat.le_of_ble_eq_true rfl) rfl ?_
              refine AW_iload dX7_see_141 rfl ?_
              refine AW_istore (lv' := [_, _, _, _, _, _, _, _, _]) dX7_see_143 (by decide) (Nat.le_of_ble_eq_true rfl) rfl ?_
              refine AW_iinc (lv' := [_, _, _, _, _, _, _, _, _]) dX7_see_145 rfl (by decide) rfl ?_
              refine AW_goto (tgt := 62) dX7_see_148 (by decide) ?_
              have e : nearN (σ.1 71) tick lane place kind (i + 1) = ((i : Int), ((plc (σ.1 71) i tick - place).natAbs : Int)) := by
                simp only [nearN]
                rw [if_pos (by omega)]
              have h9 := ih (by omega) (some (vI ((plc (σ.1 71) i tick - place).natAbs : Int)))
              rw [e] at h9
              exact h9)
theorem l_see7z {σ0 : am_S} {tick n : Nat} {lane place kind : Int} {b x : Option am_V} {Y : Row} (hn : n < 20) {Q : Option am_V → am_S → Prop} (hk2 : ∀ (σ : am_S) {Z : Row}, MS σ0 σ Z → (∀ j, Z j = if 381 + 301 * n ≤ j ∧ j < 381 + 301 * n + 301 then 0 else Y j) → AW am_tab mX7_see 261 [some (vR 70), some (vI (tick : Nat)), some (vI lane), some (vI place), some (vI kind), some (vI (n : Nat)), b, some (vI (301 : Nat)), x] [] σ Q) : ∀ i : Nat, i ≤ 301 → ∀ (σ : am_S) {Z : Row}, MS σ0 σ Z → (∀ j, Z j = if 381 + 301 * n ≤ j ∧ j < 381 + 301 * n + i then 0 else Y j) → AW am_tab mX7_see 228 [some (vR 70), some (vI (tick : Nat)), some (vI lane), some (vI place), some (vI kind), some (vI (n : Nat)), b, some (vI i), x] [] σ Q :=
  up_loop (fun i hi ih σ Z hM hE => by
    refine AW_iload dX7_see_228 rfl ?_
    refine AW_sipush dX7_see_230 (by decide) ?_
    refine AW_icmp_ge 261 dX7_see_233 (by decide) (by omega) (by omega) (fun h233 => ?_) (fun h233 => ?_)
    · have e : i = 301 := by omega
      subst e
      exact hk2 _ hM hE
    · refine AW_aload_n dX7_see_236 rfl ?_
      refine AW_get dX7_see_237 fX7_7 rfl rfl ?_
      refine AW_sipush dX7_see_240 (by decide) ?_
      refine AW_sipush dX7_see_243 (by decide) ?_
      refine AW_iload dX7_see_246 rfl ?_
      refine AW_imul dX7_see_248 ?_
      refine AW_iadd dX7_see_249 ?_
      refine AW_iload dX7_see_250 rfl ?_
      refine AW_iadd dX7_see_252 ?_
      refine AW_iconst dX7_see_253 ?_
      refine AW_iastN (j := 381 + 301 * n + i) dX7_see_254 rfl (Nat.le_of_ble_eq_true rfl) (by omega) (by omega) ?_
      refine AW_iinc (lv' := [_, _, _, _, _, _, _, _, _]) dX7_see_255 rfl (by decide) rfl ?_
      refine AW_goto (tgt := 228) dX7_see_258 (by decide) ?_
      refine ih (by omega) _ hM.set ?_
      intro j
      simp only [rup]
      by_cases e : j = 381 + 301 * n + i
      · rw [if_pos e, if_pos (by omega)]
      · rw [if_neg e, hE j]
        by_cases e2 : 381 + 301 * n ≤ j ∧ j < 381 + 301 * n + i
        · rw [if_pos e2, if_pos (by omega)]
        · rw [if_neg e2, if_neg (by omega)])
theorem c_see7 {σ : am_S} (hS : WS (σ.1 71)) (hT : WT (σ.1 71)) (hN : WN (σ.1 71)) {tick lane place kind : Int} (htick : -2147483648 ≤ tick ∧ tick < 2147483648) (hlane : -2147483648 ≤ lane ∧ lane < 2147483648) (hplace : -2147483648 ≤ place ∧ place < 2147483648) (hkind : -2147483648 ≤ kind ∧ kind < 2147483648) : Runs am_tab mX7_see [vR 70, vI tick, vI lane, vI place, vI kind] σ (QI (fun z σ' => z = (seeS (σ.1 71) tick lane place kind).1 ∧ MS σ σ' (seeS (σ.1 71) tick lane place kind).2)) := by
  refine Runs.of (by decide) rfl (by simp) (Nat.le_of_ble_eq_true rfl) ?_
  show AW am_tab mX7_see 0 [some (vR 70), some (vI tick), some (vI lane), some (vI place), some (vI kind), none, none, none, none] [] σ _
  refine AW_iload_n dX7_see_0 rfl ?_
  refine AW_cSI1 dX7_see_1 kX7_60 (am_fit_b rfl) (Nat.le_of_ble_eq_true rfl) (c_isTick7 htick) (fun z σ' hq => ?_)
  obtain ⟨rfl, ⟨rfl, h1⟩ | ⟨rfl, h1⟩⟩ := hq
  · refine AW_if_eq 36 dX7_see_4 (by decide) (by decide) (fun h => absurd h (by decide)) (fun _ => ?_)
    refine AW_iload_n dX7_see_7 rfl ?_
    refine AW_iconst dX7_see_8 ?_
    refine AW_iconst dX7_see_9 ?_
    refine AW_cSI3 dX7_see_10 kX7_56 (am_fit_b rfl) (Nat.le_of_ble_eq_true rfl) (c_in hlane (by omega) (by omega)) (fun z σ' hq => ?_)
    obtain ⟨rfl, ⟨rfl, h10⟩ | ⟨rfl, h10⟩⟩ := hq
    · refine AW_if_eq 36 dX7_see_13 (by decide) (by decide) (fun h => absurd h (by decide)) (fun _ => ?_)
      refine AW_iload_n dX7_see_16 rfl ?_
      refine AW_iconst dX7_see_17 ?_
      refine AW_bipush dX7_see_18 (by decide) ?_
      refine AW_cSI3 dX7_see_20 kX7_56 (am_fit_b rfl) (Nat.le_of_ble_eq_true rfl) (c_in hplace (by omega) (by omega)) (fun z σ' hq => ?_)
      obtain ⟨rfl, ⟨rfl, h20⟩ | ⟨rfl, h20⟩⟩ := hq
      · refine AW_if_eq 36 dX7_see_23 (by decide) (by decide) (fun h => absurd h (by decide)) (fun _ => ?_)
        refine AW_iload dX7_see_26 rfl ?_
        refine AW_iconst dX7_see_28 ?_
        refine AW_iconst dX7_see_29 ?_
        refine AW_cSI3 dX7_see_30 kX7_56 (am_fit_b rfl) (Nat.le_of_ble_eq_true rfl) (c_in hkind (by omega) (by omega)) (fun z σ' hq => ?_)
        obtain ⟨rfl, ⟨rfl, h30⟩ | ⟨rfl, h30⟩⟩ := hq
        · refine AW_if_ne 39 dX7_see_33 (by decide) (by decide) (fun _ => ?_) (fun h => absurd (by decide) h)
          obtain ⟨t, rfl⟩ : ∃ t : Nat, tick = t := ⟨tick.toNat, by omega⟩
          have hX := (am_row_other (σ := σ) (a := 74) (a' := 71) (n := 301) (g := gn (σ.1 71)) (by decide))
          refine AW_aload_n dX7_see_39 rfl ?_
          refine AW_cVV0 dX7_see_40 kX7_72 (am_fit_b rfl) rfl rfl (Nat.le_of_ble_eq_true rfl) (c_layGone7 hS) (fun σ' hq => ?_)
          replace hq := hq.symm
          subst hq
          refine AW_bipush dX7_see_43 (by decide) ?_
          refine AW_istore (lv' := [_, _, _, _, _, _, _, _, _]) dX7_see_45 (by decide) (Nat.le_of_ble_eq_true rfl) rfl ?_
          refine AW_aload_n dX7_see_47 rfl ?_
          refine AW_get dX7_see_48 fX7_7 rfl rfl ?_
          refine AW_sipush dX7_see_51 (by decide) ?_
          refine AW_ialdN (j := 6421) dX7_see_54 rfl (Nat.le_of_ble_eq_true rfl) (by omega) (by omega) ?_
          refine AW_iconst dX7_see_55 ?_
          refine AW_iadd dX7_see_56 ?_
          refine AW_istore (lv' := [_, _, _, _, _, _, _, _, _]) dX7_see_57 (by decide) (Nat.le_of_ble_eq_true rfl) rfl ?_
          refine AW_iconst dX7_see_59 ?_
          refine AW_istore (lv' := [_, _, _, _, _, _, _, _, _]) dX7_see_60 (by decide) (Nat.le_of_ble_eq_true rfl) rfl ?_
          rw [hX]
          refine l_see7 hS hT hN (by omega) h10 h20 h30 (fun x => ?_) 0 (by omega) none
          have hb := nearN_b hN (tick := t) (lane := lane) (place := place) (kind := kind) (σ.1 71 6423).toNat
          have hM := hT.1
          refine AW_iload dX7_see_151 rfl ?_
          refine AW_if_ge 273 dX7_see_153 (by decide) (by omega) (fun h153 => ?_) (fun h153 => ?_)
          · obtain ⟨b, hbe⟩ : ∃ b : Nat, (nearN (σ.1 71) t lane place kind (σ.1 71 6423).toNat).1 = b := ⟨_, (Int.toNat_of_nonneg (by omega)).symm⟩
            rw [hbe]
            refine AW_aload_n dX7_see_273 rfl ?_
            refine AW_get dX7_see_274 fX7_7 rfl rfl ?_
            refine AW_sipush dX7_see_277 (by decide) ?_
            refine AW_sipush dX7_see_280 (by decide) ?_
            refine AW_iload dX7_see_283 rfl ?_
            refine AW_imul dX7_see_285 ?_
            refine AW_iadd dX7_see_286 ?_
            refine AW_iload_n dX7_see_287 rfl ?_
            refine AW_iadd dX7_see_288 ?_
            refine AW_iconst dX7_see_289 ?_
            refine AW_iastN (j := 381 + 301 * b + t) dX7_see_290 rfl (Nat.le_of_ble_eq_true rfl) (by omega) (by omega) ?_
            refine AW_iload dX7_see_291 rfl ?_
            refine AW_iret dX7_see_293 rfl ?_
            refine ⟨_, rfl, ?_⟩
            simp only [seeS, Int.toNat_natCast]
            rw [if_pos (by omega), if_pos (by omega), hbe, Int.toNat_natCast]
            exact ⟨rfl, (MS.rf.row (by decide)).set⟩
          · refine AW_aload_n dX7_see_156 rfl ?_
            refine AW_get dX7_see_157 fX7_7 rfl rfl ?_
            refine AW_sipush dX7_see_160 (by decide) ?_
            refine AW_ialdN (j := 6423) dX7_see_163 rfl (Nat.le_of_ble_eq_true rfl) (by omega) (by omega) ?_
            refine AW_istore (lv' := [_, _, _, _, _, _, _, _, _]) dX7_see_164 (by decide) (Nat.le_of_ble_eq_true rfl) rfl ?_
            rw [hX]
            obtain ⟨n, hne⟩ : ∃ n : Nat, σ.1 71 6423 = n := ⟨_, (Int.toNat_of_nonneg (by omega)).symm⟩
            rw [hne]
            refine AW_iload dX7_see_166 rfl ?_
            refine AW_bipush dX7_see_168 (by decide) ?_
            refine AW_icmp_ne 176 dX7_see_170 (by decide) (by omega) (by omega) (fun h170 => ?_) (fun h170 => ?_)
            · refine AW_aload_n dX7_see_176 rfl ?_
              refine AW_get dX7_see_177 fX7_7 rfl rfl ?_
              refine AW_sipush dX7_see_180 (by decide) ?_
              refine AW_iload dX7_see_183 rfl ?_
              refine AW_iadd dX7_see_185 ?_
              refine AW_iload_n dX7_see_186 rfl ?_
              refine AW_iastN (j := 301 + n) dX7_see_187 rfl (Nat.le_of_ble_eq_true rfl) (by omega) (by omega) ?_
              refine AW_aload_n dX7_see_188 rfl ?_
              refine AW_get dX7_see_189 fX7_7 rfl rfl ?_
              refine AW_sipush dX7_see_192 (by decide) ?_
              refine AW_iload dX7_see_195 rfl ?_
              refine AW_iadd dX7_see_197 ?_
              refine AW_iload_n dX7_see_198 rfl ?_
              refine AW_iastN (j := 321 + n) dX7_see_199 rfl (Nat.le_of_ble_eq_true rfl) (by omega) (by omega) ?_
              refine AW_aload_n dX7_see_200 rfl ?_
              refine AW_get dX7_see_201 fX7_7 rfl rfl ?_
              refine AW_sipush dX7_see_204 (by decide) ?_
              refine AW_iload dX7_see_207 rfl ?_
              refine AW_iadd dX7_see_209 ?_
              refine AW_iload_n dX7_see_210 rfl ?_
              refine AW_iastN (j := 341 + n) dX7_see_211 rfl (Nat.le_of_ble_eq_true rfl) (by omega) (by omega) ?_
              refine AW_aload_n dX7_see_212 rfl ?_
              refine AW_get dX7_see_213 fX7_7 rfl rfl ?_
              refine AW_sipush dX7_see_216 (by decide) ?_
              refine AW_iload dX7_see_219 rfl ?_
              refine AW_iadd dX7_see_221 ?_
              refine AW_iload dX7_see_222 rfl ?_
              refine AW_iastN (j := 361 + n) dX7_see_224 rfl (Nat.le_of_ble_eq_true rfl) (by omega) (by omega) ?_
              refine AW_iconst dX7_see_225 ?_
              refine AW_istore (lv' := [_, _, _, _, _, _, _, _, _]) dX7_see_226 (by decide) (Nat.le_of_ble_eq_true rfl) rfl ?_
              have hM0 : MS σ (am_row σ 74 301 (gn (σ.1 71))) (σ.1 71) := MS.rf.row (by decide)
              have h9 := hM0.set (j := 301 + n) (x := (t : Int))
              have h9 := h9.set (j := 321 + n) (x := lane)
              have h9 := h9.set (j := 341 + n) (x := place)
              have h9 := h9.set (j := 361 + n) (x := kind)
              refine l_see7z (σ0 := σ) (Y := rup (rup (rup (rup (σ.1 71) (301 + n) t) (321 + n) lane) (341 + n) place) (361 + n) kind) (by omega) (fun σ2 Z hZ hE => ?_) 0 (by omega) _ h9 (fun j => by rw [if_neg (by omega)])
              refine AW_aload_n dX7_see_261 rfl ?_
              refine AW_get dX7_see_262 fX7_7 rfl rfl ?_
              refine AW_sipush dX7_see_265 (by decide) ?_
              refine AW_dup2 dX7_see_268 ?_
              refine AW_ialdN (j := 6423) dX7_see_269 rfl (Nat.le_of_ble_eq_true rfl) (by omega) (by omega) ?_
              refine AW_iconst dX7_see_270 ?_
              refine AW_iadd dX7_see_271 ?_
              refine AW_iastN (j := 6423) dX7_see_272 rfl (Nat.le_of_ble_eq_true rfl) (by omega) (by omega) ?_
              refine AW_aload_n dX7_see_273 rfl ?_
              refine AW_get dX7_see_274 fX7_7 rfl rfl ?_
              refine AW_sipush dX7_see_277 (by decide) ?_
              refine AW_sipush dX7_see_280 (by decide) ?_
              refine AW_iload dX7_see_283 rfl ?_
              refine AW_imul dX7_see_285 ?_
              refine AW_iadd dX7_see_286 ?_
              refine AW_iload_n dX7_see_287 rfl ?_
              refine AW_iadd dX7_see_288 ?_
              refine AW_iconst dX7_see_289 ?_
              refine AW_iastN (j := 381 + 301 * n + t) dX7_see_290 rfl (Nat.le_of_ble_eq_true rfl) (by omega) (by omega) ?_
              refine AW_iload dX7_see_291 rfl ?_
              refine AW_iret dX7_see_293 rfl ?_
              refine ⟨_, rfl, ?_⟩
              simp only [seeS, Int.toNat_natCast]
              rw [if_pos (by omega), if_neg (by omega), if_neg (by omega)]
              refine ⟨hne.symm, ?_⟩
              have hF := (hZ.set (j := 6423) (x := σ2.1 71 6423 + 1)).set (j := 381 + 301 * n + t) (x := 1)
              refine ⟨hF.1.trans ?_, hF.2⟩
              funext j
              have e6 : σ2.1 71 6423 = n := by
                rw [hZ.1, hE 6423, if_neg (by omega)]
                simp only [rup]
                rw [if_neg (by omega), if_neg (by omega), if_neg (by omega), if_neg (by omega), hne]
              simp only [newX, e6, hne, Int.toNat_natCast]
              simp only [rup, hE j]
              by_cases c1 : j = 6423
              · subst c1
                rw [if_neg (by omega), if_pos rfl, if_pos rfl]
              by_cases c2 : j = 381 + 301 * n + t
              · simp only [if_neg c1, if_pos c2]
              simp only [if_neg c1, if_neg c2]
            · refine AW_bipush dX7_see_173 (by decide) ?_
              refine AW_iret dX7_see_175 rfl ?_
              refine ⟨_, rfl, ?_⟩
              simp only [seeS, Int.toNat_natCast]
              rw [if_pos (by omega), if_neg (by omega), if_pos (by omega)]
              exact ⟨rfl, MS.rf.row (by decide)⟩
        · refine AW_if_ne 39 dX7_see_33 (by decide) (by decide) (fun h => absurd h (by decide)) (fun _ => ?_)
          refine AW_bipush dX7_see_36 (by decide) ?_
          refine AW_iret dX7_see_38 rfl ?_
          refine ⟨_, rfl, ?_⟩
          simp only [seeS]
          rw [if_neg (by omega)]
          exact ⟨rfl, MS.rf⟩
      · refine AW_if_eq 36 dX7_see_23 (by decide) (by decide) (fun _ => ?_) (fun h => absurd (by decide) h)
        refine AW_bipush dX7_see_36 (by decide) ?_
        refine AW_iret dX7_see_38 rfl ?_
        refine ⟨_, rfl, ?_⟩
        simp only [seeS]
        rw [if_neg (by omega)]
        exact ⟨rfl, MS.rf⟩
    · refine AW_if_eq 36 dX7_see_13 (by decide) (by decide) (fun _ => ?_) (fun h => absurd (by decide) h)
      refine AW_bipush dX7_see_36 (by decide) ?_
      refine AW_iret dX7_see_38 rfl ?_
      refine ⟨_, rfl, ?_⟩
      simp only [seeS]
      rw [if_neg (by omega)]
      exact ⟨rfl, MS.rf⟩
  · refine AW_if_eq 36 dX7_see_4 (by decide) (by decide) (fun _ => ?_) (fun h => absurd (by decide) h)
    refine AW_bipush dX7_see_36 (by decide) ?_
    refine AW_iret dX7_see_38 rfl ?_
    refine ⟨_, rfl, ?_⟩
    simp only [seeS]
    rw [if_neg (by omega)]
    exact ⟨rfl, MS.rf⟩
end
section
/-- the row behind a THING's going, when those behind it up to k have come one place on, and of k's TICKS the first t -/
def dropX (X : Row) (d k t : Nat) : Row := fun j => if j = 6423 then X 6423 - 1 else if (301 + d ≤ j ∧ j < 301 + k) ∨ (321 + d ≤ j ∧ j < 321 + k) ∨ (341 + d ≤ j ∧ j < 341 + k) ∨ (361 + d ≤ j ∧ j < 361 + k) then X (j + 1) else if 381 + 301 * d ≤ j ∧ j < 381 + 301 * k + t then X (j + 301) else X j
def dropS (X : Row) (thing : Int) : Int × Row := if 0 ≤ thing ∧ thing < X 6423 then (X 6423 - 1, dropX X thing.toNat (X 6423 - 1).toNat 0) else (-1, X)
/-- between the four rows and the TICKS of k -/
def dropY (X : Row) (d k t : Nat) : Row := fun j => if j = 6423 then X 6423 - 1 else if (301 + d ≤ j ∧ j < 301 + (k + 1)) ∨ (321 + d ≤ j ∧ j < 321 + (k + 1)) ∨ (341 + d ≤ j ∧ j < 341 + (k + 1)) ∨ (361 + d ≤ j ∧ j < 361 + (k + 1)) then X (j + 1) else if 381 + 301 * d ≤ j ∧ j < 381 + 301 * k + t then X (j + 301) else X j
theorem dropY_s {X : Row} {d k t : Nat} (hd : d ≤ k) (hk : k < 20) (ht : t < 301) : rup (dropY X d k t) (381 + 301 * k + t) (X (381 + 301 * k + 301 + t)) = dropY X d k (t + 1) := by
  funext j
  simp only [rup, dropY]
  by_cases e : j = 381 + 301 * k + t
  · rw [if_pos e]
    by_cases e6 : j = 6423
    · omega
    · rw [if_neg e6, if_neg (by omega), if_pos (by omega), e]
      congr 1
      omega
  · rw [if_neg e]
    by_cases e6 : j = 6423
    · rw [if_pos e6, if_pos e6]
    · rw [if_neg e6, if_neg e6]
      by_cases c : (301 + d ≤ j ∧ j < 301 + (k + 1)) ∨ (321 + d ≤ j ∧ j < 321 + (k + 1)) ∨ (341 + d ≤ j ∧ j < 341 + (k + 1)) ∨ (361 + d ≤ j ∧ j < 361 + (k + 1))
      · rw [if_pos c, if_pos c]
      · rw [if_neg c, if_neg c]
        by_cases c2 : 381 + 301 * d ≤ j ∧ j < 381 + 301 * k + t
        · rw [if_pos c2, if_pos (by omega)]
        · rw [if_neg c2, if_neg (by omega)]
theorem dropY_end {X : Row} {d k : Nat} : dropY X d k 301 = dropX X d (k + 1) 0 := by
  funext j
  simp only [dropX, dropY]
  rw [show 381 + 301 * (k + 1) + 0 = 381 + 301 * k + 301 by omega]
theorem dropX_4 {X : Row} {d k : Nat} (hd : d ≤ k) (hk : k < 19) : rup (rup (rup (rup (dropX X d k 0) (301 + k) (X (301 + k + 1))) (321 + k) (X (321 + k + 1))) (341 + k) (X (341 + k + 1))) (361 + k) (X (361 + k + 1)) = dropY X d k 0 := by
  funext j
  simp only [rup, dropX, dropY]
  by_cases e1 : j = 361 + k
  · rw [if_pos e1, if_neg (by omega), if_pos (by omega), e1]
  rw [if_neg e1]
  by_cases e2 : j = 341 + k
  · rw [if_pos e2, if_neg (by omega), if_pos (by omega), e2]
  rw [if_neg e2]
  by_cases e3 : j = 321 + k
  · rw [if_pos e3, if_neg (by omega), if_pos (by omega), e3]
  rw [if_neg e3]
  by_cases e4 : j = 301 + k
  · rw [if_pos e4, if_neg (by omega), if_pos (by omega), e4]
  rw [if_neg e4]
  by_cases e6 : j = 6423
  · rw [if_pos e6, if_pos e6]
  rw [if_neg e6, if_neg e6]
  by_cases c : (301 + d ≤ j ∧ j < 301 + k) ∨ (321 + d ≤ j ∧ j < 321 + k) ∨ (341 + d ≤ j ∧ j < 341 + k) ∨ (361 + d ≤ j ∧ j < 361 + k)
  · rw [if_pos c, if_pos (by omega)]
  · rw [if_neg c]
    by_cases c2 : (301 + d ≤ j ∧ j < 301 + (k + 1)) ∨ (321 + d ≤ j ∧ j < 321 + (k + 1)) ∨ (341 + d ≤ j ∧ j < 341 + (k + 1)) ∨ (361 + d ≤ j ∧ j < 361 + (k + 1))
    · omega
    · rw [if_neg c2]
theorem dropX_at {X : Row} {d k j : Nat} (h1 : j ≠ 6423) (h2 : ¬ ((301 + d ≤ j ∧ j < 301 + k) ∨ (321 + d ≤ j ∧ j < 321 + k) ∨ (341 + d ≤ j ∧ j < 341 + k) ∨ (361 + d ≤ j ∧ j < 361 + k))) (h3 : ¬ (381 + 301 * d ≤ j ∧ j < 381 + 301 * k)) : dropX X d k 0 j = X j := by
  simp only [dropX]
  rw [if_neg h1, if_neg h2, if_neg (by omega)]
theorem dropX_many {X : Row} {d k t : Nat} : dropX X d k t 6423 = X 6423 - 1 := if_pos rfl
theorem dropX_self {X : Row} {d : Nat} : dropX X d d 0 = rup X 6423 (X 6423 - 1) := by
  funext j
  simp only [dropX, rup]
  by_cases e6 : j = 6423
  · rw [if_pos e6, if_pos e6]
  · rw [if_neg e6, if_neg e6, if_neg (by omega), if_neg (by omega)]
theorem l_drop7t {σ0 : am_S} {X : Row} {d k : Nat} (hd : d ≤ k) (hk : k < 19) {Q : Option am_V → am_S → Prop} (hk2 : ∀ σ, MS σ0 σ (dropX X d (k + 1) 0) → AW am_tab mX7_drop 122 [some (vR 70), some (vI (d : Nat)), some (vI (k : Nat)), some (vI (301 : Nat))] [] σ Q) : ∀ t : Nat, t ≤ 301 → ∀ σ, MS σ0 σ (dropY X d k t) → AW am_tab mX7_drop 73 [some (vR 70), some (vI (d : Nat)), some (vI (k : Nat)), some (vI t)] [] σ Q :=
  up_loop (fun t ht ih σ hM => by
    refine AW_iload_n dX7_drop_73 rfl ?_
    refine AW_sipush dX7_drop_74 (by decide) ?_
    refine AW_icmp_ge 122 dX7_drop_77 (by decide) (by omega) (by omega) (fun h77 => ?_) (fun h77 => ?_)
    · have e : t = 301 := by omega
      subst e
      rw [dropY_end] at hM
      exact hk2 _ hM
    · refine AW_aload_n dX7_drop_80 rfl ?_
      refine AW_get dX7_drop_81 fX7_7 rfl rfl ?_
      refine AW_sipush dX7_drop_84 (by decide) ?_
      refine AW_sipush dX7_drop_87 (by decide) ?_
      refine AW_iload_n dX7_drop_90 rfl ?_
      refine AW_imul dX7_drop_91 ?_
      refine AW_iadd dX7_drop_92 ?_
      refine AW_iload_n dX7_drop_93 rfl ?_
      refine AW_iadd dX7_drop_94 ?_
      refine AW_aload_n dX7_drop_95 rfl ?_
      refine AW_get dX7_drop_96 fX7_7 rfl rfl ?_
      refine AW_sipush dX7_drop_99 (by decide) ?_
      refine AW_sipush dX7_drop_102 (by decide) ?_
      refine AW_iload_n dX7_drop_105 rfl ?_
      refine AW_imul dX7_drop_106 ?_
      refine AW_iadd dX7_drop_107 ?_
      refine AW_sipush dX7_drop_108 (by decide) ?_
      refine AW_iadd dX7_drop_111 ?_
      refine AW_iload_n dX7_drop_112 rfl ?_
      refine AW_iadd dX7_drop_113 ?_
      refine AW_ialdN (j := 381 + 301 * k + 301 + t) dX7_drop_114 rfl (Nat.le_of_ble_eq_true rfl) (by omega) (by omega) ?_
      refine AW_iastN (j := 381 + 301 * k + t) dX7_drop_115 rfl (Nat.le_of_ble_eq_true rfl) (by omega) (by omega) ?_
      refine AW_iinc (lv' := [_, _, _, _]) dX7_drop_116 rfl (by decide) rfl ?_
      refine AW_goto (tgt := 73) dX7_drop_119 (by decide) ?_
      have h9 := hM.set (j := 381 + 301 * k + t) (x := σ.1 71 (381 + 301 * k + 301 + t))
      have e : σ.1 71 (381 + 301 * k + 301 + t) = X (381 + 301 * k + 301 + t) := by
        rw [hM.1]
        simp only [dropY]
        rw [if_neg (by omega), if_neg (by omega), if_neg (by omega)]
      rw [e, dropY_s hd (by omega) (by omega)] at h9
      rw [e]
      exact ih (by omega) _ h9)
theorem l_drop7k {σ0 : am_S} {X : Row} (hM0 : 0 ≤ X 6423 ∧ X 6423 ≤ 20) {d : Nat} {Q : Option am_V → am_S → Prop} (hk2 : ∀ σ, MS σ0 σ (dropX X d (X 6423 - 1).toNat 0) → ∀ x, AW am_tab mX7_drop 128 [some (vR 70), some (vI (d : Nat)), some (vI (X 6423 - 1).toNat), x] [] σ Q) : ∀ k : Nat, k ≤ (X 6423 - 1).toNat → d ≤ k → ∀ σ, MS σ0 σ (dropX X d k 0) → ∀ x, AW am_tab mX7_drop 24 [some (vR 70), some (vI (d : Nat)), some (vI (k : Nat)), x] [] σ Q :=
  up_loop (fun k hk0 ih hdk σ hM x => by
    have hMany : σ.1 71 6423 = X 6423 - 1 := by rw [hM.1]; exact dropX_many
    refine AW_iload_n dX7_drop_24 rfl ?_
    refine AW_aload_n dX7_drop_25 rfl ?_
    refine AW_get dX7_drop_26 fX7_7 rfl rfl ?_
    refine AW_sipush dX7_drop_29 (by decide) ?_
    refine AW_ialdN (j := 6423) dX7_drop_32 rfl (Nat.le_of_ble_eq_true rfl) (by omega) (by omega) ?_
    refine AW_icmp_ge 128 dX7_drop_33 (by decide) (by omega) (by omega) (fun h33 => ?_) (fun h33 => ?_)
    · have e : k = (X 6423 - 1).toNat := by omega
      subst e
      exact hk2 _ hM _
    · refine AW_sipush dX7_drop_36 (by decide) ?_
      refine AW_istore_n (i := 3) (lv' := [_, _, _, _]) dX7_drop_39 rfl (by decide) (Nat.le_of_ble_eq_true rfl) rfl ?_
      refine AW_iload_n dX7_drop_40 rfl ?_
      refine AW_sipush dX7_drop_41 (by decide) ?_
      refine AW_icmp_gt 71 dX7_drop_44 (by decide) (by decide) (by decide) (fun h => absurd h (by decide)) (fun _ => ?_)
      refine AW_aload_n dX7_drop_47 rfl ?_
      refine AW_get dX7_drop_48 fX7_7 rfl rfl ?_
      refine AW_iload_n dX7_drop_51 rfl ?_
      refine AW_iload_n dX7_drop_52 rfl ?_
      refine AW_iadd dX7_drop_53 ?_
      refine AW_aload_n dX7_drop_54 rfl ?_
      refine AW_get dX7_drop_55 fX7_7 rfl rfl ?_
      refine AW_iload_n dX7_drop_58 rfl ?_
      refine AW_iload_n dX7_drop_59 rfl ?_
      refine AW_iadd dX7_drop_60 ?_
      refine AW_iconst dX7_drop_61 ?_
      refine AW_iadd dX7_drop_62 ?_
      refine AW_ialdN (j := 301 + k + 1) dX7_drop_63 rfl (Nat.le_of_ble_eq_true rfl) (by omega) (by omega) ?_
      refine AW_iastN (j := 301 + k) dX7_drop_64 rfl (Nat.le_of_ble_eq_true rfl) (by omega) (by omega) ?_
      refine AW_iinc (lv' := [_, _, _, _]) dX7_drop_65 rfl (by decide) rfl ?_
      refine AW_goto (tgt := 40) dX7_drop_68 (by decide) ?_
      -- row 301
      refine AW_iload_n dX7_drop_40 rfl ?_
      refine AW_sipush dX7_drop_41 (by decide) ?_
      refine AW_icmp_gt 71 dX7_drop_44 (by decide) (by decide) (by decide) (fun h => absurd h (by decide)) (fun _ => ?_)
      refine AW_aload_n dX7_drop_47 rfl ?_
      refine AW_get dX7_drop_48 fX7_7 rfl rfl ?_
      refine AW_iload_n dX7_drop_51 rfl ?_
      refine AW_iload_n dX7_drop_52 rfl ?_
      refine AW_iadd dX7_drop_53 ?_
      refine AW_aload_n dX7_drop_54 rfl ?_
      refine AW_get dX7_drop_55 fX7_7 rfl rfl ?_
      refine AW_iload_n dX7_drop_58 rfl ?_
      refine AW_iload_n dX7_drop_59 rfl ?_
      refine AW_iadd dX7_drop_60 ?_
      refine AW_iconst dX7_drop_61 ?_
      refine AW_iadd dX7_drop_62 ?_
      refine AW_ialdN (j := 321 + k + 1) dX7_drop_63 rfl (Nat.le_of_ble_eq_true rfl) (by omega) (by omega) ?_
      refine AW_iastN (j := 321 + k) dX7_drop_64 rfl (Nat.le_of_ble_eq_true rfl) (by omega) (by omega) ?_
      refine AW_iinc (lv' := [_, _, _, _]) dX7_drop_65 rfl (by decide) rfl ?_
      refine AW_goto (tgt := 40) dX7_drop_68 (by decide) ?_
      -- row 321
      refine AW_iload_n dX7_drop_40 rfl ?_
      refine AW_sipush dX7_drop_41 (by decide) ?_
      refine AW_icmp_gt 71 dX7_drop_44 (by decide) (by decide) (by decide) (fun h => absurd h (by decide)) (fun _ => ?_)
      refine AW_aload_n dX7_drop_47 rfl ?_
      refine AW_get dX7_drop_48 fX7_7 rfl rfl ?_
      refine AW_iload_n dX7_drop_51 rfl ?_
      refine AW_iload_n dX7_drop_52 rfl ?_
      refine AW_iadd dX7_drop_53 ?_
      refine AW_aload_n dX7_drop_54 rfl ?_
      refine AW_get dX7_drop_55 fX7_7 rfl rfl ?_
      refine AW_iload_n dX7_drop_58 rfl ?_
      refine AW_iload_n dX7_drop_59 rfl ?_
      refine AW_iadd dX7_drop_60 ?_
      refine AW_iconst dX7_drop_61 ?_
      refine AW_iadd dX7_drop_62 ?_
      refine AW_ialdN (j := 341 + k + 1) dX7_drop_63 rfl (Nat.le_of_ble_eq_true rfl) (by omega) (by omega) ?_
      refine AW_iastN (j := 341 + k) dX7_drop_64 rfl (Nat.le_of_ble_eq_true rfl) (by omega) (by omega) ?_
      refine AW_iinc (lv' := [_, _, _, _]) dX7_drop_65 rfl (by decide) rfl ?_
      refine AW_goto (tgt := 40) dX7_drop_68 (by decide) ?_
      -- row 341
      refine AW_iload_n dX7_drop_40 rfl ?_
      refine AW_sipush dX7_drop_41 (by decide) ?_
      refine AW_icmp_gt 71 dX7_drop_44 (by decide) (by decide) (by decide) (fun h => absurd h (by decide)) (fun _ => ?_)
      refine AW_aload_n dX7_drop_47 rfl ?_
      refine AW_get dX7_drop_48 fX7_7 rfl rfl ?_
      refine AW_iload_n dX7_drop_51 rfl ?_
      refine AW_iload_n dX7_drop_52 rfl ?_
      refine AW_iadd dX7_drop_53 ?_
      refine AW_aload_n dX7_drop_54 rfl ?_
      refine AW_get dX7_drop_55 fX7_7 rfl rfl ?_
      refine AW_iload_n dX7_drop_58 rfl ?_
      refine AW_iload_n dX7_drop_59 rfl ?_
      refine AW_iadd dX7_drop_60 ?_
      refine AW_iconst dX7_drop_61 ?_
      refine AW_iadd dX7_drop_62 ?_
      refine AW_ialdN (j := 361 + k + 1) dX7_drop_63 rfl (Nat.le_of_ble_eq_true rfl) (by omega) (by omega) ?_
      refine AW_iastN (j := 361 + k) dX7_drop_64 rfl (Nat.le_of_ble_eq_true rfl) (by omega) (by omega) ?_
      refine AW_iinc (lv' := [_, _, _, _]) dX7_drop_65 rfl (by decide) rfl ?_
      refine AW_goto (tgt := 40) dX7_drop_68 (by decide) ?_
      -- row 361
      refine AW_iload_n dX7_drop_40 rfl ?_
      refine AW_sipush dX7_drop_41 (by decide) ?_
      refine AW_icmp_gt 71 dX7_drop_44 (by decide) (by decide) (by decide) (fun _ => ?_) (fun h => absurd (by decide) h)
      have hx : ∀ j, j ≠ 6423 → ¬ ((301 + d ≤ j ∧ j < 301 + k) ∨ (321 + d ≤ j ∧ j < 321 + k) ∨ (341 + d ≤ j ∧ j < 341 + k) ∨ (361 + d ≤ j ∧ j < 361 + k)) → ¬ (381 + 301 * d ≤ j ∧ j < 381 + 301 * k) → σ.1 71 j = X j := fun j h1 h2 h3 => by rw [hM.1]; exact dropX_at h1 h2 h3
      have g1 : σ.1 71 (301 + k + 1) = X (301 + k + 1) := hx _ (by omega) (by omega) (by omega)
      have g2 : (am_up σ 71 (301 + k) (X (301 + k + 1))).1 71 (321 + k + 1) = X (321 + k + 1) := by
        rw [am_up_same, show rup (σ.1 71) (301 + k) (X (301 + k + 1)) (321 + k + 1) = σ.1 71 (321 + k + 1) from if_neg (by omega)]
        exact hx _ (by omega) (by omega) (by omega)
      have g3 : (am_up (am_up σ 71 (301 + k) (X (301 + k + 1))) 71 (321 + k) (X (321 + k + 1))).1 71 (341 + k + 1) = X (341 + k + 1) := by
        rw [am_up_same, am_up_same, show rup (rup (σ.1 71) (301 + k) (X (301 + k + 1))) (321 + k) (X (321 + k + 1)) (341 + k + 1) = σ.1 71 (341 + k + 1) from (if_neg (by omega)).trans (if_neg (by omega))]
        exact hx _ (by omega) (by omega) (by omega)
      have g4 : (am_up (am_up (am_up σ 71 (301 + k) (X (301 + k + 1))) 71 (321 + k) (X (321 + k + 1))) 71 (341 + k) (X (341 + k + 1))).1 71 (361 + k + 1) = X (361 + k + 1) := by
        rw [am_up_same, am_up_same, am_up_same, show rup (rup (rup (σ.1 71) (301 + k) (X (301 + k + 1))) (321 + k) (X (321 + k + 1))) (341 + k) (X (341 + k + 1)) (361 + k + 1) = σ.1 71 (361 + k + 1) from ((if_neg (by omega)).trans (if_neg (by omega))).trans (if_neg (by omega))]
        exact hx _ (by omega) (by omega) (by omega)
      rw [g1, g2, g3, g4]
      have h9 := (((hM.set (j := 301 + k) (x := X (301 + k + 1))).set (j := 321 + k) (x := X (321 + k + 1))).set (j := 341 + k) (x := X (341 + k + 1))).set (j := 361 + k) (x := X (361 + k + 1))
      rw [dropX_4 (by omega) (by omega)] at h9
      refine AW_iconst dX7_drop_71 ?_
      refine AW_istore_n (i := 3) (lv' := [_, _, _, _]) dX7_drop_72 rfl (by decide) (Nat.le_of_ble_eq_true rfl) rfl ?_
      refine l_drop7t (by omega) (by omega) (fun σ3 h8 => ?_) 0 (by omega) _ h9
      refine AW_iinc (lv' := [_, _, _, _]) dX7_drop_122 rfl (by decide) rfl ?_
      refine AW_goto (tgt := 24) dX7_drop_125 (by decide) ?_
      exact ih (by omega) (by omega) _ h8 _)
theorem c_drop7 {σ : am_S} (hT : WT (σ.1 71)) {thing : Int} (hthing : -2147483648 ≤ thing ∧ thing < 2147483648) : Runs am_tab mX7_drop [vR 70, vI thing] σ (QI (fun z σ' => z = (dropS (σ.1 71) thing).1 ∧ MS σ σ' (dropS (σ.1 71) thing).2)) := by
  refine Runs.of (by decide) rfl (by simp) (Nat.le_of_ble_eq_true rfl) ?_
  show AW am_tab mX7_drop 0 [some (vR 70), some (vI thing), none, none] [] σ _
  refine AW_aload_n dX7_drop_0 rfl ?_
  refine AW_iload_n dX7_drop_1 rfl ?_
  refine AW_cVI1 dX7_drop_2 kX7_86 (am_fit_b rfl) rfl rfl (Nat.le_of_ble_eq_true rfl) (c_isThing7 hthing hT.1) (fun z σ' hq => ?_)
  obtain ⟨rfl, ⟨rfl, h2⟩ | ⟨rfl, h2⟩⟩ := hq
  · refine AW_if_ne 10 dX7_drop_5 (by decide) (by decide) (fun _ => ?_) (fun h => absurd (by decide) h)
    obtain ⟨d, rfl⟩ : ∃ d : Nat, thing = d := ⟨thing.toNat, by omega⟩
    refine AW_aload_n dX7_drop_10 rfl ?_
    refine AW_get dX7_drop_11 fX7_7 rfl rfl ?_
    refine AW_sipush dX7_drop_14 (by decide) ?_
    refine AW_dup2 dX7_drop_17 ?_
    refine AW_ialdN (j := 6423) dX7_drop_18 rfl (Nat.le_of_ble_eq_true rfl) (by omega) (by omega) ?_
    refine AW_iconst dX7_drop_19 ?_
    refine AW_isub dX7_drop_20 ?_
    refine AW_iastN (j := 6423) dX7_drop_21 rfl (Nat.le_of_ble_eq_true rfl) (by omega) (by omega) ?_
    refine AW_iload_n dX7_drop_22 rfl ?_
    refine AW_istore_n (i := 2) (lv' := [_, _, _, _]) dX7_drop_23 rfl (by decide) (Nat.le_of_ble_eq_true rfl) rfl ?_
    have h9 := MS.rf (σ := σ).set (j := 6423) (x := σ.1 71 6423 - 1)
    rw [← dropX_self (d := d)] at h9
    refine l_drop7k hT.1 (fun σ2 h8 x => ?_) d (by omega) (Nat.le_refl _) _ h9 none
    refine AW_aload_n dX7_drop_128 rfl ?_
    refine AW_get dX7_drop_129 fX7_7 rfl rfl ?_
    refine AW_sipush dX7_drop_132 (by decide) ?_
    refine AW_ialdN (j := 6423) dX7_drop_135 rfl (Nat.le_of_ble_eq_true rfl) (by omega) (by omega) ?_
    refine AW_iret dX7_drop_136 rfl ?_
    refine ⟨_, rfl, ?_⟩
    simp only [dropS, Int.toNat_natCast]
    rw [if_pos (by omega)]
    exact ⟨by rw [h8.1]; exact dropX_many, h8⟩
  · refine AW_if_ne 10 dX7_drop_5 (by decide) (by decide) (fun h => absurd h (by decide)) (fun _ => ?_)
    refine AW_iconst dX7_drop_8 ?_
    refine AW_iret dX7_drop_9 rfl ?_
    refine ⟨_, rfl, ?_⟩
    simp only [dropS]
    rw [if_neg (by omega)]
    exact ⟨rfl, MS.rf⟩
end
section
/-! ===== PLANS: things k < n, slots (TICK, ARM); how many can be taken ===== -/
abbrev Sl : Type := Nat × Nat
def Mg (A : Nat → Sl → Prop) (P : Nat → Prop) (F : Sl → Prop) (g : Nat → Option Sl) : Prop := (∀ k s, g k = some s → P k ∧ A k s ∧ ¬ F s) ∧ ∀ k j s, g k = some s → g j = some s → k = j
def sz (g : Nat → Option Sl) : Nat → Nat
  | 0 => 0
  | n + 1 => sz g n + (if (g n).isSome = true then 1 else 0)
def IsMax (A : Nat → Sl → Prop) (P : Nat → Prop) (F : Sl → Prop) (n m : Nat) : Prop := (∃ g, Mg A P F g ∧ sz g n = m) ∧ ∀ g, Mg A P F g → sz g n ≤ m
theorem IsMax.uniq {A : Nat → Sl → Prop} {P : Nat → Prop} {F : Sl → Prop} {n m m' : Nat} (h : IsMax A P F n m) (h' : IsMax A P F n m') : m = m' := by
  obtain ⟨⟨g, h1, h2⟩, h3⟩ := h
  obtain ⟨⟨g', h1', h2'⟩, h3'⟩ := h'
  have a := h3 _ h1'
  have b := h3' _ h1
  omega
theorem IsMax.congr {A A' : Nat → Sl → Prop} {P P' : Nat → Prop} {F F' : Sl → Prop} {n m : Nat} (hA : ∀ k s, P k → (A k s ↔ A' k s)) (hP : ∀ k, P k ↔ P' k) (hF : ∀ k s, P k → A k s → (F s ↔ F' s)) (h : IsMax A P F n m) : IsMax A' P' F' n m := by
  have key : ∀ g, Mg A P F g ↔ Mg A' P' F' g := by
    intro g
    constructor
    · rintro ⟨h1, h2⟩
      refine ⟨fun k s hk => ?_, h2⟩
      obtain ⟨a, b, c⟩ := h1 k s hk
      exact ⟨(hP k).mp a, (hA k s a).mp b, fun z => c ((hF k s a b).mpr z)⟩
    · rintro ⟨h1, h2⟩
      refine ⟨fun k s hk => ?_, h2⟩
      obtain ⟨a, b, c⟩ := h1 k s hk
      have a' := (hP k).mpr a
      have b' := (hA k s a').mpr b
      exact ⟨a', b', fun z => c ((hF k s a' b').mp z)⟩
  obtain ⟨⟨g, h1, h2⟩, h3⟩ := h
  exact ⟨⟨g, (key g).mp h1, h2⟩, fun g hg => h3 g ((key g).mpr hg)⟩
/-- as many of the first n as places that hold yes -/
def cnt (p : Nat → Bool) : Nat → Nat
  | 0 => 0
  | n + 1 => cnt p n + (if p n = true then 1 else 0)
theorem sz_cnt (g : Nat → Option Sl) (n : Nat) : sz g n = cnt (fun k => (g k).isSome) n := by
  induction n with
  | zero => rfl
  | succ n ih => simp only [sz, cnt, ih]
theorem cnt_le (p : Nat → Bool) (n : Nat) : cnt p n ≤ n := by
  induction n with
  | zero => exact Nat.le_refl 0
  | succ n ih => simp only [cnt]; split <;> omega
theorem cnt_congr {p q : Nat → Bool} {n : Nat} (h : ∀ k, k < n → p k = q k) : cnt p n = cnt q n := by
  induction n with
  | zero => rfl
  | succ n ih => simp only [cnt]; rw [ih (fun k hk => h k (by omega)), h n (by omega)]
theorem cnt_add {p q : Nat → Bool} {u n : Nat} (hu : u < n) (h1 : p u = false) (h2 : q u = true) (h : ∀ k, k < n → k ≠ u → p k = q k) : cnt q n = cnt p n + 1 := by
  induction n with
  | zero => omega
  | succ n ih =>
    simp only [cnt]
    by_cases e : u = n
    · subst e
      rw [cnt_congr (p := p) (q := q) (fun k hk => h k (by omega) (by omega)), h1, h2]
      simp
    · rw [ih (by omega) (fun k hk => h k (by omega)), h n (by omega) (by omega)]
      omega
theorem nodup_sub_len {l1 l2 : List Nat} (hn : l1.Nodup) (hs : ∀ x ∈ l1, x ∈ l2) : l1.length ≤ l2.length := by
  induction l1 generalizing l2 with
  | nil => simp
  | cons a l ih =>
    have ha : a ∈ l2 := hs a List.mem_cons_self
    have hn' := List.nodup_cons.mp hn
    have h1 := ih hn'.2 (l2 := l2.erase a) (fun x hx => by
      have hne : x ≠ a := fun e => hn'.1 (e ▸ hx)
      exact (List.mem_erase_of_ne hne).mpr (hs x (List.mem_cons_of_mem _ hx)))
    rw [List.length_erase_of_mem ha] at h1
    have hpos : 0 < l2.length := List.length_pos_of_mem ha
    simp only [List.length_cons]
    omega
theorem cnt_filter (p : Nat → Bool) (n : Nat) : cnt p n = ((List.range n).filter p).length := by
  induction n with
  | zero => rfl
  | succ n ih =>
    rw [List.range_succ, List.filter_append, List.length_append, ← ih]
    simp only [cnt, List.filter_cons, List.filter_nil]
    split <;> rfl
theorem nodup_map_on {l : List Nat} {φ : Nat → Nat} (hn : l.Nodup) (h : ∀ x ∈ l, ∀ y ∈ l, φ x = φ y → x = y) : (l.map φ).Nodup := by
  induction l with
  | nil => simp
  | cons a l ih =>
    have hn' := List.nodup_cons.mp hn
    rw [List.map_cons, List.nodup_cons]
    refine ⟨fun hm => ?_, ih hn'.2 (fun x hx y hy => h x (List.mem_cons_of_mem _ hx) y (List.mem_cons_of_mem _ hy))⟩
    obtain ⟨x, hx, he⟩ := List.mem_map.mp hm
    have := h x (List.mem_cons_of_mem _ hx) a List.mem_cons_self he
    exact hn'.1 (this ▸ hx)
theorem cnt_inj {p q : Nat → Bool} {n : Nat} (φ : Nat → Nat) (h1 : ∀ k, k < n → p k = true → φ k < n ∧ q (φ k) = true) (h2 : ∀ j k, j < n → k < n → p j = true → p k = true → φ j = φ k → j = k) : cnt p n ≤ cnt q n := by
  rw [cnt_filter, cnt_filter]
  have hn : ((List.range n).filter p).Nodup := List.nodup_range.filter p
  have hm : (((List.range n).filter p).map φ).Nodup := nodup_map_on hn (fun x hx y hy he => by
    have a := List.mem_filter.mp hx
    have b := List.mem_filter.mp hy
    exact h2 x y (List.mem_range.mp a.1) (List.mem_range.mp b.1) a.2 b.2 he)
  have := nodup_sub_len hm (l2 := (List.range n).filter q) (fun x hx => by
    obtain ⟨k, hk, rfl⟩ := List.mem_map.mp hx
    have a := List.mem_filter.mp hk
    obtain ⟨b, c⟩ := h1 k (List.mem_range.mp a.1) a.2
    exact List.mem_filter.mpr ⟨List.mem_range.mpr b, c⟩)
  rwa [List.length_map] at this
/-- D is shut: what a thing of D could have, another thing of D holds -/
def Shut (A : Nat → Sl → Prop) (F : Sl → Prop) (f : Nat → Option Sl) (D : Nat → Prop) : Prop := ∀ k s, D k → A k s → ¬ F s → ∃ j, D j ∧ f j = some s
theorem cert {A : Nat → Sl → Prop} {P : Nat → Prop} {F : Sl → Prop} {n : Nat} {f : Nat → Option Sl} {D : Nat → Prop} (hP : ∀ k, P k → k < n) (hf : Mg A P F f) (h1 : ∀ k, P k → f k = none → D k) (h2 : Shut A F f D) {g : Nat → Option Sl} (hg : Mg A P F g) : sz g n ≤ sz f n := by
  rw [sz_cnt, sz_cnt]
  have hex : ∀ k, ∃ j, (g k).isSome = true → (D k → D j ∧ f j = g k) ∧ (¬ D k → j = k) := by
    intro k
    cases hk : g k with
    | none => exact ⟨0, fun h => by cases h⟩
    | some s =>
      by_cases hD : D k
      · obtain ⟨a, b, c⟩ := hg.1 k s hk
        obtain ⟨j, hj, hs⟩ := h2 k s hD b c
        exact ⟨j, fun _ => ⟨fun _ => ⟨hj, hs⟩, fun h => absurd hD h⟩⟩
      · exact ⟨k, fun _ => ⟨fun h => absurd h hD, fun _ => rfl⟩⟩
  refine cnt_inj (fun k => Classical.choose (hex k)) (fun k hk hp => ?_) (fun j k hj hk hpj hpk he => ?_)
  · have hc := Classical.choose_spec (hex k) hp
    generalize hφ : Classical.choose (hex k) = j at hc ⊢
    obtain ⟨s, hs⟩ := Option.isSome_iff_exists.mp hp
    by_cases hD : D k
    · obtain ⟨_, b⟩ := hc.1 hD
      rw [hs] at b
      exact ⟨hP _ (hf.1 j s b).1, by rw [b]; rfl⟩
    · have e := hc.2 hD
      subst e
      refine ⟨hk, ?_⟩
      cases hfk : f j with
      | none => exact absurd (h1 j (hg.1 j s hs).1 hfk) hD
      | some s => rfl
  · have cj := Classical.choose_spec (hex j) hpj
    have ck := Classical.choose_spec (hex k) hpk
    rw [he] at cj
    generalize Classical.choose (hex k) = i at cj ck
    obtain ⟨sj, hsj⟩ := Option.isSome_iff_exists.mp hpj
    obtain ⟨sk, hsk⟩ := Option.isSome_iff_exists.mp hpk
    by_cases hDj : D j
    · by_cases hDk : D k
      · have a := (cj.1 hDj).2
        have b := (ck.1 hDk).2
        rw [hsj] at a
        rw [hsk] at b
        have : sj = sk := Option.some.inj (a.symm.trans b)
        subst this
        exact hg.2 j k sj hsj hsk
      · have a := (cj.1 hDj).1
        rw [ck.2 hDk] at a
        exact absurd a hDk
    · by_cases hDk : D k
      · have a := (ck.1 hDk).1
        rw [cj.2 hDj] at a
        exact absurd a hDj
      · rw [← cj.2 hDj, ← ck.2 hDk]
theorem cert_max {A : Nat → Sl → Prop} {P : Nat → Prop} {F : Sl → Prop} {n : Nat} {f : Nat → Option Sl} {D : Nat → Prop} (hP : ∀ k, P k → k < n) (hf : Mg A P F f) (h1 : ∀ k, P k → f k = none → D k) (h2 : Shut A F f D) : IsMax A P F n (sz f n) := ⟨⟨f, hf, rfl⟩, fun _ hg => cert hP hf h1 h2 hg⟩
-- ===== THE PLAN, thing by thing =====
def Pge (n k : Nat) : Nat → Prop := fun j => k ≤ j ∧ j < n
def Fx (F : Sl → Prop) (s : Sl) : Sl → Prop := fun x => F x ∨ x = s
/-- THING k at s leaves as many taken -/
def Works (A : Nat → Sl → Prop) (n k : Nat) (F : Sl → Prop) (s : Sl) : Prop := ∃ m, IsMax A (Pge n (k + 1)) (Fx F s) n m ∧ IsMax A (Pge n k) F n (m + 1)
def Fof (pl : Nat → Option Sl) (k : Nat) : Sl → Prop := fun s => ∃ j, j < k ∧ pl j = some s
def PlanSpec (A : Nat → Sl → Prop) (n : Nat) (pl : Nat → Option Sl) : Prop := ∀ k, k < n → (∀ s, pl k = some s → A k s ∧ ¬ Fof pl k s ∧ Works A n k (Fof pl k) s ∧ ∀ s', A k s' → ¬ Fof pl k s' → s'.1 < s.1 → ¬ Works A n k (Fof pl k) s') ∧ (pl k = none → ∀ s, A k s → ¬ Fof pl k s → ¬ Works A n k (Fof pl k) s)
theorem Fof_congr {p q : Nat → Option Sl} {k : Nat} (h : ∀ j, j < k → p j = q j) : Fof p k = Fof q k := by
  funext s
  apply propext
  constructor
  · rintro ⟨j, hj, e⟩; exact ⟨j, hj, (h j hj) ▸ e⟩
  · rintro ⟨j, hj, e⟩; exact ⟨j, hj, (h j hj).symm ▸ e⟩
theorem PlanSpec.uniq {A : Nat → Sl → Prop} {n : Nat} {p q : Nat → Option Sl} (hA : ∀ k s s', k < n → A k s → A k s' → s.1 = s'.1 → s = s') (hp : PlanSpec A n p) (hq : PlanSpec A n q) : ∀ k, k < n → p k = q k := by
  intro k
  induction k using Nat.strongRecOn with
  | ind k ih =>
    intro hk
    have hF : Fof p k = Fof q k := Fof_congr (fun j hj => ih j hj (by omega))
    obtain ⟨p1, p2⟩ := hp k hk
    obtain ⟨q1, q2⟩ := hq k hk
    rw [hF] at p1 p2
    cases hpk : p k with
    | none =>
      cases hqk : q k with
      | none => rfl
      | some s =>
        obtain ⟨a, b, c, d⟩ := q1 s hqk
        exact absurd c (p2 hpk s a b)
    | some s =>
      obtain ⟨a, b, c, d⟩ := p1 s hpk
      cases hqk : q k with
      | none => exact absurd c (q2 hqk s a b)
      | some s' =>
        obtain ⟨a', b', c', d'⟩ := q1 s' hqk
        have h1 : ¬ s'.1 < s.1 := fun h => d s' a' b' h c'
        have h2 : ¬ s.1 < s'.1 := fun h => d' s a b h c
        rw [hA k s s' hk a a' (by omega)]
/-- f with THING k left out -/
def but (f : Nat → Option Sl) (k : Nat) : Nat → Option Sl := fun j => if j = k then none else f j
def put (f : Nat → Option Sl) (k : Nat) (s : Sl) : Nat → Option Sl := fun j => if j = k then some s else f j
theorem but_self {f : Nat → Option Sl} {k : Nat} : but f k k = none := if_pos rfl
theorem but_ne {f : Nat → Option Sl} {k j : Nat} (h : j ≠ k) : but f k j = f j := if_neg h
theorem put_self {f : Nat → Option Sl} {k : Nat} {s : Sl} : put f k s k = some s := if_pos rfl
theorem put_ne {f : Nat → Option Sl} {k j : Nat} {s : Sl} (h : j ≠ k) : put f k s j = f j := if_neg h
theorem sz_but {f : Nat → Option Sl} {k n : Nat} (hk : k < n) {s : Sl} (h : f k = some s) : sz f n = sz (but f k) n + 1 := by
  rw [sz_cnt, sz_cnt]
  exact cnt_add hk (by simp [but]) (by simp [h]) (fun j _ hj => by simp [but, hj])
theorem sz_put {f : Nat → Option Sl} {k n : Nat} (hk : k < n) {s : Sl} (h : f k = none) : sz (put f k s) n = sz f n + 1 := by
  rw [sz_cnt, sz_cnt]
  exact cnt_add hk (by simp [h]) (by simp [put]) (fun j _ hj => by simp [put, hj])
theorem sz_congr {f g : Nat → Option Sl} {n : Nat} (h : ∀ j, j < n → (f j).isSome = (g j).isSome) : sz f n = sz g n := by
  rw [sz_cnt, sz_cnt]
  exact cnt_congr h
theorem works_of {A : Nat → Sl → Prop} {n k : Nat} {F : Sl → Prop} {f : Nat → Option Sl} {s : Sl} (hk : k < n) (hf : Mg A (Pge n k) F f) (hmax : IsMax A (Pge n k) F n (sz f n)) (hs : f k = some s) : Works A n k F s ∧ IsMax A (Pge n (k + 1)) (Fx F s) n (sz (but f k) n) := by
  obtain ⟨_, hAs, hFs⟩ := hf.1 k s hs
  have e := sz_but hk hs
  have hM : IsMax A (Pge n (k + 1)) (Fx F s) n (sz (but f k) n) := by
    refine ⟨⟨but f k, ⟨fun j x hj => ?_, fun i j x hi hj => ?_⟩, rfl⟩, fun g hg => ?_⟩
    · by_cases hjk : j = k
      · subst hjk; rw [but_self] at hj; cases hj
      · rw [but_ne hjk] at hj
        obtain ⟨a, b, c⟩ := hf.1 j x hj
        refine ⟨⟨by have := a.1; omega, a.2⟩, b, fun h => ?_⟩
        rcases h with h | h
        · exact c h
        · subst h; exact hjk (hf.2 j k _ hj hs)
    · by_cases hik : i = k
      · subst hik; rw [but_self] at hi; cases hi
      · by_cases hjk : j = k
        · subst hjk; rw [but_self] at hj; cases hj
        · rw [but_ne hik] at hi
          rw [but_ne hjk] at hj
          exact hf.2 i j x hi hj
    · have hgk : g k = none := by
        cases h : g k with
        | none => rfl
        | some x => exact absurd (hg.1 k x h).1.1 (by omega)
      have hp : Mg A (Pge n k) F (put g k s) := by
        refine ⟨fun j x hj => ?_, fun i j x hi hj => ?_⟩
        · by_cases hjk : j = k
          · subst hjk; rw [put_self] at hj; cases hj; exact ⟨⟨Nat.le_refl _, hk⟩, hAs, hFs⟩
          · rw [put_ne hjk] at hj
            obtain ⟨a, b, c⟩ := hg.1 j x hj
            exact ⟨⟨by have := a.1; omega, a.2⟩, b, fun h => c (Or.inl h)⟩
        · by_cases hik : i = k
          · subst hik
            rw [put_self] at hi
            cases hi
            by_cases hjk : j = i
            · exact hjk.symm
            · rw [put_ne hjk] at hj
              exact absurd (Or.inr rfl) (hg.1 j s hj).2.2
          · rw [put_ne hik] at hi
            by_cases hjk : j = k
            · subst hjk
              rw [put_self] at hj
              cases hj
              exact absurd (Or.inr rfl) (hg.1 i s hi).2.2
            · rw [put_ne hjk] at hj
              exact hg.2 i j x hi hj
      have := hmax.2 _ hp
      rw [sz_put hk hgk] at this
      omega
  exact ⟨⟨_, hM, e ▸ hmax⟩, hM⟩
theorem Mg_up {A : Nat → Sl → Prop} {n k : Nat} {F : Sl → Prop} {g : Nat → Option Sl} (hg : Mg A (Pge n (k + 1)) F g) : Mg A (Pge n k) F g := ⟨fun j x hj => by
  obtain ⟨a, b, c⟩ := hg.1 j x hj
  exact ⟨⟨by have := a.1; omega, a.2⟩, b, c⟩, hg.2⟩
theorem Mg_down {A : Nat → Sl → Prop} {n k : Nat} {F : Sl → Prop} {g : Nat → Option Sl} (hg : Mg A (Pge n k) F g) (h : g k = none) : Mg A (Pge n (k + 1)) F g := ⟨fun j x hj => by
  obtain ⟨a, b, c⟩ := hg.1 j x hj
  have : j ≠ k := fun e => by subst e; rw [h] at hj; cases hj
  exact ⟨⟨by have := a.1; omega, a.2⟩, b, c⟩, hg.2⟩
theorem max_skip {A : Nat → Sl → Prop} {n k m : Nat} {F : Sl → Prop} (hk : k < n) (hmax : IsMax A (Pge n k) F n m) (hno : ∀ s, A k s → ¬ F s → ¬ Works A n k F s) : IsMax A (Pge n (k + 1)) F n m := by
  obtain ⟨⟨g, hg, rfl⟩, hu⟩ := hmax
  cases hgk : g k with
  | some s =>
    obtain ⟨_, b, c⟩ := hg.1 k s hgk
    exact absurd (works_of hk hg ⟨⟨g, hg, rfl⟩, hu⟩ hgk).1 (hno s b c)
  | none => exact ⟨⟨g, Mg_down hg hgk, rfl⟩, fun g' hg' => hu g' (Mg_up hg')⟩
theorem max_none {A : Nat → Sl → Prop} {n k : Nat} {F : Sl → Prop} {f : Nat → Option Sl} (hf : Mg A (Pge n k) F f) (hmax : IsMax A (Pge n k) F n (sz f n)) (hs : f k = none) : IsMax A (Pge n (k + 1)) F n (sz f n) := ⟨⟨f, Mg_down hf hs, rfl⟩, fun g' hg' => hmax.2 g' (Mg_up hg')⟩
/-- a shut set without THING k: each PLAN that takes most has k -/
theorem need_of {A : Nat → Sl → Prop} {n k : Nat} {F : Sl → Prop} {f : Nat → Option Sl} {D : Nat → Prop} (hk : k < n) (hf : Mg A (fun j => j < n) F f) (h1 : ∀ j, j < n → f j = none → D j) (h2 : Shut A F f D) (hD : ¬ D k) : IsMax A (fun j => j < n ∧ j ≠ k) F n (sz f n - 1) ∧ 0 < sz f n := by
  cases hfk : f k with
  | none => exact absurd (h1 k hk hfk) hD
  | some s =>
    have e := sz_but hk hfk
    have hb : Mg A (fun j => j < n ∧ j ≠ k) F (but f k) := by
      refine ⟨fun j x hj => ?_, fun i j x hi hj => ?_⟩
      · by_cases hjk : j = k
        · subst hjk; rw [but_self] at hj; cases hj
        · rw [but_ne hjk] at hj
          obtain ⟨a, b, c⟩ := hf.1 j x hj
          exact ⟨⟨a, hjk⟩, b, c⟩
      · by_cases hik : i = k
        · subst hik; rw [but_self] at hi; cases hi
        · by_cases hjk : j = k
          · subst hjk; rw [but_self] at hj; cases hj
          · rw [but_ne hik] at hi
            rw [but_ne hjk] at hj
            exact hf.2 i j x hi hj
    have hM := cert_max (n := n) (D := D) (fun j hj => hj.1) hb (fun j hj hn => h1 j hj.1 (by rw [but_ne hj.2] at hn; exact hn)) (fun j x hj ha hF => by
      obtain ⟨i, hi, hx⟩ := h2 j x hj ha hF
      have : i ≠ k := fun e => hD (e ▸ hi)
      exact ⟨i, hi, by rw [but_ne this]; exact hx⟩)
    rw [e]
    exact ⟨hM, by omega⟩
end
section
/-! ===== the reference's search: slots as it numbers them ===== -/
def enc (s : Sl) : Nat := 301 * s.2 + s.1
def dec (c : Nat) : Sl := (c % 301, c / 301)
def okS (s : Sl) : Prop := s.1 ≤ 300 ∧ s.2 < 4
theorem dec_enc {s : Sl} (h : okS s) : dec (enc s) = s := by
  obtain ⟨t, a⟩ := s
  have h1 : t ≤ 300 := h.1
  simp only [dec, enc, Prod.mk.injEq]
  omega
theorem enc_dec {c : Nat} : enc (dec c) = c := by
  simp only [dec, enc]
  omega
theorem enc_lt {s : Sl} (h : okS s) : enc s < 1204 := by
  obtain ⟨t, a⟩ := s
  have h1 : t ≤ 300 := h.1
  have h2 : a < 4 := h.2
  simp only [enc]
  omega
theorem okS_dec {c : Nat} (h : c < 1204) : okS (dec c) := by
  simp only [okS, dec]
  omega
theorem enc_inj {s s' : Sl} (h : okS s) (h' : okS s') (e : enc s = enc s') : s = s' := by
  rw [← dec_enc h, ← dec_enc h', e]
/-- rows that hold a PLAN f: who takes each slot, which slot each has -/
def Con (n : Nat) (Tk So : Row) (f : Nat → Option Sl) : Prop := (∀ k, k < 20 → f k = none → So k = -6) ∧ (∀ k s, f k = some s → k < n ∧ okS s ∧ So k = enc s) ∧ (∀ k s, f k = some s → Tk (enc s) = k) ∧ ∀ x, x < 1204 → Tk x = -6 ∨ ∃ k : Nat, k < n ∧ Tk x = k ∧ f k = some (dec x)
/-- the same but for the slot c, which nobody has -/
def ConH (n : Nat) (Tk So : Row) (f : Nat → Option Sl) (c : Nat) : Prop := (∀ k, k < 20 → f k = none → So k = -6) ∧ (∀ k s, f k = some s → k < n ∧ okS s ∧ So k = enc s ∧ enc s ≠ c) ∧ (∀ k s, f k = some s → Tk (enc s) = k) ∧ ∀ x, x < 1204 → x ≠ c → Tk x = -6 ∨ ∃ k : Nat, k < n ∧ Tk x = k ∧ f k = some (dec x)
theorem Con.hole {n c : Nat} {Tk So : Row} {f : Nat → Option Sl} (h : Con n Tk So f) (hc : ∀ k, f k ≠ some (dec c)) (hc2 : c < 1204) : ConH n Tk So f c := by
  refine ⟨h.1, fun k s hk => ?_, h.2.2.1, fun x hx _ => h.2.2.2 x hx⟩
  obtain ⟨a, b, d⟩ := h.2.1 k s hk
  refine ⟨a, b, d, fun e => hc k ?_⟩
  rw [hk, ← e, dec_enc b]
theorem ConH.step {n c k : Nat} {Tk So : Row} {f : Nat → Option Sl} (h : ConH n Tk So f c) (hc : c < 1204) (hk : k < n) (hn : n ≤ 20) (hi : ∀ i j s, f i = some s → f j = some s → i = j) : (∀ s, f k = some s → ConH n (rup Tk c k) (rup So k c) (put f k (dec c)) (enc s)) ∧ (f k = none → Con n (rup Tk c k) (rup So k c) (put f k (dec c))) := by
  have e1 : ∀ j, j < 20 → put f k (dec c) j = none → rup So k c j = -6 := by
    intro j hj he
    by_cases hjk : j = k
    · subst hjk; rw [put_self] at he; cases he
    · rw [put_ne hjk] at he
      simp only [rup, if_neg hjk]
      exact h.1 j hj he
  have e2 : ∀ j s, put f k (dec c) j = some s → j < n ∧ okS s ∧ rup So k c j = enc s := by
    intro j s he
    by_cases hjk : j = k
    · subst hjk
      rw [put_self] at he
      cases he
      exact ⟨hk, okS_dec hc, by simp only [rup, if_true, enc_dec]⟩
    · rw [put_ne hjk] at he
      obtain ⟨a, b, d, _⟩ := h.2.1 j s he
      exact ⟨a, b, by simp only [rup, if_neg hjk]; exact d⟩
  have e3 : ∀ j s, put f k (dec c) j = some s → rup Tk c k (enc s) = j := by
    intro j s he
    by_cases hjk : j = k
    · subst hjk
      rw [put_self] at he
      cases he
      simp only [rup, enc_dec, if_true]
    · rw [put_ne hjk] at he
      have hne := (h.2.1 j s he).2.2.2
      simp only [rup, if_neg hne]
      exact h.2.2.1 j s he
  constructor
  · intro s hs
    obtain ⟨_, bs, _, nes⟩ := h.2.1 k s hs
    refine ⟨e1, fun j x he => ?_, e3, fun x hx hxe => ?_⟩
    · obtain ⟨a, b, d⟩ := e2 j x he
      refine ⟨a, b, d, fun e => ?_⟩
      have hx := enc_inj b bs e
      subst hx
      by_cases hjk : j = k
      · subst hjk
        rw [put_self] at he
        cases he
        exact nes enc_dec
      · rw [put_ne hjk] at he
        exact hjk (hi j k x he hs)
    · by_cases hxc : x = c
      · subst hxc
        exact Or.inr ⟨k, hk, by simp only [rup, if_true], put_self⟩
      · simp only [rup, if_neg hxc]
        rcases h.2.2.2 x hx hxc with h1 | ⟨j, h1, h2, h3⟩
        · exact Or.inl h1
        · refine Or.inr ⟨j, h1, h2, ?_⟩
          have : j ≠ k := fun e => by
            subst e
            rw [hs] at h3
            cases h3
            exact hxe enc_dec.symm
          rw [put_ne this]
          exact h3
  · intro hs
    refine ⟨e1, e2, e3, fun x hx => ?_⟩
    by_cases hxc : x = c
    · subst hxc
      exact Or.inr ⟨k, hk, by simp only [rup, if_true], put_self⟩
    · simp only [rup, if_neg hxc]
      rcases h.2.2.2 x hx hxc with h1 | ⟨j, h1, h2, h3⟩
      · exact Or.inl h1
      · refine Or.inr ⟨j, h1, h2, ?_⟩
        have : j ≠ k := fun e => by
          subst e
          rw [hs] at h3
          cases h3
        rw [put_ne this]
        exact h3
/-- all rows but those of S are as before -/
def Eqx (S : List Nat) (σ σ' : am_S) : Prop := (∀ a, a ∉ S → σ'.1 a = σ.1 a) ∧ σ'.2 = σ.2
theorem Eqx.rf {S : List Nat} {σ : am_S} : Eqx S σ σ := ⟨fun _ _ => rfl, rfl⟩
theorem Eqx.tr {S : List Nat} {σ σ' σ'' : am_S} (h : Eqx S σ σ') (h2 : Eqx S σ' σ'') : Eqx S σ σ'' := ⟨fun a ha => (h2.1 a ha).trans (h.1 a ha), h2.2.trans h.2⟩
theorem Eqx.up {S : List Nat} {σ σ' : am_S} (h : Eqx S σ σ') {a j : Nat} {x : Int} (ha : a ∈ S) : Eqx S σ (am_up σ' a j x) := ⟨fun b hb => by
  rw [am_up_other (show b ≠ a from fun e => hb (by rw [e]; exact ha))]
  exact h.1 b hb, h.2⟩
theorem Eqx.row {S : List Nat} {σ σ' : am_S} (h : Eqx S σ σ') {a n : Nat} {g : Row} (ha : a ∈ S) : Eqx S σ (am_row σ' a n g) := ⟨fun b hb => by
  rw [am_row_other (show b ≠ a from fun e => hb (by rw [e]; exact ha))]
  exact h.1 b hb, h.2⟩
theorem Eqx.mono {S S' : List Nat} {σ σ' : am_S} (h : Eqx S σ σ') (hs : ∀ a ∈ S, a ∈ S') : Eqx S' σ σ' := ⟨fun a ha => h.1 a (fun e => ha (hs a e)), h.2⟩
theorem Mg.put {A : Nat → Sl → Prop} {P : Nat → Prop} {F : Sl → Prop} {f : Nat → Option Sl} (h : Mg A P F f) {k : Nat} {s : Sl} (hP : P k) (hA : A k s) (hF : ¬ F s) (hs : ∀ j, f j ≠ some s) : Mg A P F (put f k s) := by
  refine ⟨fun j x hj => ?_, fun i j x hi hj => ?_⟩
  · by_cases hjk : j = k
    · subst hjk; rw [put_self] at hj; cases hj; exact ⟨hP, hA, hF⟩
    · rw [put_ne hjk] at hj; exact h.1 j x hj
  · by_cases hik : i = k
    · subst hik
      rw [put_self] at hi
      cases hi
      by_cases hjk : j = i
      · exact hjk.symm
      · rw [put_ne hjk] at hj; exact absurd hj (hs j)
    · rw [put_ne hik] at hi
      by_cases hjk : j = k
      · subst hjk; rw [put_self] at hj; cases hj; exact absurd hi (hs i)
      · rw [put_ne hjk] at hj; exact h.2 i j x hi hj
/-- a search's tree: things q 0, q 1 .. as they came, each but the first by the slot that it has, each slot W from a thing that could have it -/
def Tree (A : Nat → Sl → Prop) (F : Sl → Prop) (n : Nat) (f : Nat → Option Sl) (thing op : Nat) (W : Row) (q : Nat → Nat) : Prop :=
  (∀ i j, i < op → j < op → q i = q j → i = j) ∧ q 0 = thing ∧ 0 < op ∧ (∀ j, j < op → q j < n) ∧ (∀ j, 0 < j → j < op → ∃ s, f (q j) = some s ∧ ∃ i, i < j ∧ W (enc s) = q i) ∧ ∀ c, c < 1204 → W c = -6 ∨ ∃ j, j < op ∧ W c = q j ∧ A (q j) (dec c) ∧ ¬ F (dec c)
/-- what one more taken leaves -/
def More (A : Nat → Sl → Prop) (P : Nat → Prop) (F : Sl → Prop) (n : Nat) (f : Nat → Option Sl) (thing : Nat) (Tk So : Row) : Prop := ∃ f', Con n Tk So f' ∧ Mg A P F f' ∧ (∀ k, k ≠ thing → (f' k).isSome = (f k).isSome) ∧ (f' thing).isSome = true ∧ ∀ D : Nat → Prop, Shut A F f D → ∀ k, D k → f' k = f k
theorem l_turn7 {A : Nat → Sl → Prop} {P : Nat → Prop} {F : Sl → Prop} {n thing op : Nat} {σ0 : am_S} {f0 : Nat → Option Sl} {q : Nat → Nat} (hn : n ≤ 20) (hT : Tree A F n f0 thing op (σ0.1 80) q) (hP : ∀ j, j < op → P (q j)) (hf0 : f0 thing = none) {e0 : Int} {Q : Option am_V → am_S → Prop} (hQ : ∀ σ, Eqx [76, 81] σ0 σ → More A P F n f0 thing (σ.1 76) (σ.1 81) → Q none σ) : ∀ (j c : Nat) (σ : am_S) (f : Nat → Option Sl), j < op → c < 1204 → σ0.1 80 c = q j → Eqx [76, 81] σ0 σ → ConH n (σ.1 76) (σ.1 81) f c → Mg A P F f → (∀ a, a ≤ j → f (q a) = f0 (q a)) → (∀ k, (f k).isSome = (f0 k).isSome) → (∀ D : Nat → Prop, Shut A F f0 D → (∀ k, D k → f k = f0 k) ∧ ∀ k, D k → f0 k ≠ some (dec c)) → ∀ (x y : Option am_V), AW am_tab mX7_turn 5 [some (vR 70), some (vI e0), some (vI thing), some (vI c), some (vI 1), x, y] [] σ Q := by
  intro j
  induction j using Nat.strongRecOn with
  | ind j ih =>
    intro c σ f hj hc hW hE hH hM hsame hdom hD x y
    have h80 : σ.1 80 = σ0.1 80 := hE.1 80 (by decide)
    have hqn := hT.2.2.2.1 j hj
    have hth0 := hT.2.2.2.1 0 hT.2.2.1
    rw [hT.2.1] at hth0
    obtain ⟨j2, hj2, hWj, hAq, hFq⟩ : ∃ j2, j2 < op ∧ σ0.1 80 c = q j2 ∧ A (q j2) (dec c) ∧ ¬ F (dec c) := by
      rcases hT.2.2.2.2.2 c hc with h | h
      · rw [hW] at h; omega
      · exact h
    have ej : j2 = j := hT.1 j2 j hj2 hj (by rw [hW] at hWj; omega)
    subst ej
    have hst := hH.step hc hqn hn hM.2
    have hnob : ∀ i, f i ≠ some (dec c) := fun i hi => by
      have := (hH.2.1 i _ hi).2.2.2
      exact this enc_dec
    have hM' := hM.put (hP j2 hj) hAq hFq hnob
    have hfj : f (q j2) = f0 (q j2) := hsame j2 (Nat.le_refl _)
    have hE' : Eqx [76, 81] σ0 (am_up (am_up σ 76 c (q j2)) 81 (q j2) c) := (hE.up (by decide)).up (by decide)
    have r76 : (am_up (am_up σ 76 c (q j2)) 81 (q j2) c).1 76 = rup (σ.1 76) c (q j2) := by rw [am_up_other (by decide), am_up_same]
    have r81 : (am_up (am_up σ 76 c (q j2)) 81 (q j2) c).1 81 = rup (σ.1 81) (q j2) c := by rw [am_up_same, am_up_other (by decide)]
    have hDn : ∀ D : Nat → Prop, Shut A F f0 D → ¬ D (q j2) := fun D hS hd => by
      obtain ⟨i, hi, hs⟩ := hS _ _ hd hAq hFq
      exact (hD D hS).2 i hi hs
    have hD' : ∀ D : Nat → Prop, Shut A F f0 D → ∀ k, D k → put f (q j2) (dec c) k = f0 k := fun D hS k hk => by
      have : k ≠ q j2 := fun e => hDn D hS (e ▸ hk)
      rw [put_ne this]
      exact (hD D hS).1 k hk
    have hso : -6 ≤ σ.1 81 (q j2) ∧ σ.1 81 (q j2) < 1204 := by
      cases he : f (q j2) with
      | none => have := hH.1 (q j2) (by omega) he; omega
      | some s => obtain ⟨_, b, d, _⟩ := hH.2.1 _ _ he; have := enc_lt b; omega
    refine AW_iload dX7_turn_5 rfl ?_
    refine AW_if_eq 62 dX7_turn_7 (by decide) (by decide) (fun h => absurd h (by decide)) (fun _ => ?_)
    refine AW_aload_n dX7_turn_10 rfl ?_
    refine AW_get dX7_turn_11 fX7_38 rfl rfl ?_
    refine AW_iload_n dX7_turn_14 rfl ?_
    refine AW_ialdN (j := c) dX7_turn_15 rfl (Nat.le_of_ble_eq_true rfl) (by omega) (by omega) ?_
    rw [h80, hWj]
    refine AW_istore (lv' := [_, _, _, _, _, _, _]) dX7_turn_16 (by decide) (Nat.le_of_ble_eq_true rfl) rfl ?_
    refine AW_aload_n dX7_turn_18 rfl ?_
    refine AW_get dX7_turn_19 fX7_41 rfl rfl ?_
    refine AW_iload dX7_turn_22 rfl ?_
    refine AW_ialdN (j := q j2) dX7_turn_24 rfl (Nat.le_of_ble_eq_true rfl) (by omega) (by omega) ?_
    refine AW_istore (lv' := [_, _, _, _, _, _, _]) dX7_turn_25 (by decide) (Nat.le_of_ble_eq_true rfl) rfl ?_
    refine AW_aload_n dX7_turn_27 rfl ?_
    refine AW_get dX7_turn_28 fX7_26 rfl rfl ?_
    refine AW_iload_n dX7_turn_31 rfl ?_
    refine AW_iload dX7_turn_32 rfl ?_
    refine AW_iastN (j := c) dX7_turn_34 rfl (Nat.le_of_ble_eq_true rfl) (by omega) (by omega) ?_
    refine AW_aload_n dX7_turn_35 rfl ?_
    refine AW_get dX7_turn_36 fX7_41 rfl rfl ?_
    refine AW_iload dX7_turn_39 rfl ?_
    refine AW_iload_n dX7_turn_41 rfl ?_
    refine AW_iastN (j := q j2) dX7_turn_42 rfl (Nat.le_of_ble_eq_true rfl) (by omega) (by omega) ?_
    refine AW_iload dX7_turn_43 rfl ?_
    refine AW_iload_n dX7_turn_45 rfl ?_
    refine AW_icmp_eq 53 dX7_turn_46 (by decide) (by omega) (by omega) (fun h46 => ?_) (fun h46 => ?_)
    · refine AW_iconst dX7_turn_53 ?_
      refine AW_istore (lv' := [_, _, _, _, _, _, _]) dX7_turn_54 (by decide) (Nat.le_of_ble_eq_true rfl) rfl ?_
      refine AW_iload dX7_turn_56 rfl ?_
      refine AW_istore_n (i := 3) (lv' := [_, _, _, _, _, _, _]) dX7_turn_58 rfl (by decide) (Nat.le_of_ble_eq_true rfl) rfl ?_
      refine AW_goto (tgt := 5) dX7_turn_59 (by decide) ?_
      refine AW_iload dX7_turn_5 rfl ?_
      refine AW_if_eq 62 dX7_turn_7 (by decide) (by decide) (fun _ => ?_) (fun h => absurd rfl h)
      refine AW_vret dX7_turn_62 rfl ?_
      have e0 : q j2 = thing := by omega
      have ef : f (q j2) = none := by rw [hfj, e0]; exact hf0
      refine hQ _ hE' ⟨put f (q j2) (dec c), by rw [r76, r81]; exact hst.2 ef, hM', fun k hk => ?_, by rw [e0, put_self]; rfl, hD'⟩
      rw [put_ne (by omega)]
      exact hdom k
    · refine AW_iconst dX7_turn_49 ?_
      refine AW_goto (tgt := 54) dX7_turn_50 (by decide) ?_
      refine AW_istore (lv' := [_, _, _, _, _, _, _]) dX7_turn_54 (by decide) (Nat.le_of_ble_eq_true rfl) rfl ?_
      refine AW_iload dX7_turn_56 rfl ?_
      refine AW_istore_n (i := 3) (lv' := [_, _, _, _, _, _, _]) dX7_turn_58 rfl (by decide) (Nat.le_of_ble_eq_true rfl) rfl ?_
      refine AW_goto (tgt := 5) dX7_turn_59 (by decide) ?_
      have e0 : q j2 ≠ thing := by omega
      have hj0 : 0 < j2 := by
        rcases Nat.eq_zero_or_pos j2 with e | e
        · exact absurd (e ▸ hT.2.1) e0
        · exact e
      obtain ⟨s, hs, i, hi, hWi⟩ := hT.2.2.2.2.1 j2 hj0 hj
      have ef : f (q j2) = some s := by rw [hfj]; exact hs
      obtain ⟨_, bs, ds, _⟩ := hH.2.1 _ _ ef
      rw [ds]
      refine ih i hi (enc s) _ (put f (q j2) (dec c)) (by omega) (enc_lt bs) hWi hE' (by rw [r76, r81]; exact hst.1 s ef) hM' (fun a ha => ?_) (fun k => ?_) (fun D hS => ⟨hD' D hS, fun k hk hks => ?_⟩) _ _
      · have : q a ≠ q j2 := fun e => by have := hT.1 a j2 (by omega) hj e; omega
        rw [put_ne this]
        exact hsame a (by omega)
      · by_cases hkq : k = q j2
        · subst hkq
          rw [put_self, hs]
          rfl
        · rw [put_ne hkq]
          exact hdom k
      · rw [dec_enc bs] at hks
        have h1 : f k = some s := by rw [(hD D hS).1 k hk]; exact hks
        have h2 := hM.2 k (q j2) s h1 ef
        exact hDn D hS (h2 ▸ hk)
theorem c_turn7 {A : Nat → Sl → Prop} {P : Nat → Prop} {F : Sl → Prop} {n thing op c : Nat} {σ : am_S} {f : Nat → Option Sl} {q : Nat → Nat} (hn : n ≤ 20) (hT : Tree A F n f thing op (σ.1 80) q) (hP : ∀ j, j < op → P (q j)) (hf0 : f thing = none) (hth : thing < 20) (hc : c < 1204) (hW : σ.1 80 c ≠ -6) (hC : Con n (σ.1 76) (σ.1 81) f) (hM : Mg A P F f) (hfree : ∀ k, f k ≠ some (dec c)) : Runs am_tab mX7_turn [vR 70, vI c, vI thing] σ (QV (fun σ' => Eqx [76, 81] σ σ' ∧ More A P F n f thing (σ'.1 76) (σ'.1 81))) := by
  refine Runs.of (by decide) rfl (by simp) (Nat.le_of_ble_eq_true rfl) ?_
  show AW am_tab mX7_turn 0 [some (vR 70), some (vI c), some (vI thing), none, none, none, none] [] σ _
  refine AW_iload_n dX7_turn_0 rfl ?_
  refine AW_istore_n (i := 3) (lv' := [_, _, _, _, _, _, _]) dX7_turn_1 rfl (by decide) (Nat.le_of_ble_eq_true rfl) rfl ?_
  refine AW_iconst dX7_turn_2 ?_
  refine AW_istore (lv' := [_, _, _, _, _, _, _]) dX7_turn_3 (by decide) (Nat.le_of_ble_eq_true rfl) rfl ?_
  have hcW : ∃ j, j < op ∧ σ.1 80 c = q j := by
    rcases hT.2.2.2.2.2 c hc with h | ⟨j, h1, h2, _⟩
    · exact absurd h hW
    · exact ⟨j, h1, h2⟩
  obtain ⟨j, hj, hWj⟩ := hcW
  refine l_turn7 hn hT hP hf0 (fun σ' h1 h2 => ⟨rfl, h1, h2⟩) j c σ f hj hc hWj Eqx.rf (hC.hole hfree hc) hM (fun _ _ => rfl) (fun _ => rfl) (fun D hS => ⟨fun _ _ => rfl, fun k hk hks => hfree k hks⟩) _ _
end
section
theorem q_len {q : Nat → Nat} {op n : Nat} (h1 : ∀ i j, i < op → j < op → q i = q j → i = j) (h2 : ∀ j, j < op → q j < n) : op ≤ n := by
  have hm : ((List.range op).map q).Nodup := nodup_map_on List.nodup_range (fun x hx y hy he => h1 x y (List.mem_range.mp hx) (List.mem_range.mp hy) he)
  have := nodup_sub_len hm (l2 := List.range n) (fun x hx => by
    obtain ⟨j, hj, rfl⟩ := List.mem_map.mp hx
    exact List.mem_range.mpr (h2 j (List.mem_range.mp hj)))
  simpa using this
def qadd (q : Nat → Nat) (op k : Nat) : Nat → Nat := fun j => if j = op then k else q j
theorem qadd_at {q : Nat → Nat} {op k j : Nat} (h : j = op) : qadd q op k j = k := if_pos h
theorem qadd_ne {q : Nat → Nat} {op k j : Nat} (h : j ≠ op) : qadd q op k j = q j := if_neg h
def bx_Ad (G : Row) (k : Nat) (s : Sl) : Prop := okS s ∧ G (301 * k + s.1) = s.2
def bx_Fd (Z : Row) (s : Sl) : Prop := Z (enc s) ≠ 0
/-- the search under way: thing q i is looked at, its TICKS below t are done -/
def Bfs (A : Nat → Sl → Prop) (F : Sl → Prop) (n : Nat) (f : Nat → Option Sl) (thing : Nat) (σ0 : am_S) (i t op : Nat) (q : Nat → Nat) (σ : am_S) : Prop :=
  Eqx [79, 80] σ0 σ ∧ Tree A F n f thing op (σ.1 80) q ∧ (∀ j, j < op → σ.1 79 j = q j) ∧ (∀ c, c < 1204 → σ.1 80 c ≠ -6 → ∃ j, j < op ∧ f (q j) = some (dec c)) ∧ ∀ j s, j < op → (j < i ∨ (j = i ∧ s.1 < t)) → A (q j) s → ¬ F s → σ.1 80 (enc s) ≠ -6
theorem Bfs.skip {A : Nat → Sl → Prop} {F : Sl → Prop} {n : Nat} {f : Nat → Option Sl} {thing : Nat} {σ0 σ : am_S} {i t op : Nat} {q : Nat → Nat} (h : Bfs A F n f thing σ0 i t op q σ) (hs : ∀ s, s.1 = t → A (q i) s → ¬ F s → σ.1 80 (enc s) ≠ -6) : Bfs A F n f thing σ0 i (t + 1) op q σ := by
  refine ⟨h.1, h.2.1, h.2.2.1, h.2.2.2.1, fun j s hj hc ha hF => ?_⟩
  by_cases e : j < i ∨ (j = i ∧ s.1 < t)
  · exact h.2.2.2.2 j s hj e ha hF
  · have e1 : j = i := by omega
    subst e1
    exact hs s (by omega) ha hF
theorem Bfs.next {G : Row} {F : Sl → Prop} {n : Nat} {f : Nat → Option Sl} {thing : Nat} {σ0 σ : am_S} {i op : Nat} {q : Nat → Nat} (h : Bfs (bx_Ad G) F n f thing σ0 i 301 op q σ) : Bfs (bx_Ad G) F n f thing σ0 (i + 1) 0 op q σ := by
  refine ⟨h.1, h.2.1, h.2.2.1, h.2.2.2.1, fun j s hj hc ha hF => h.2.2.2.2 j s hj ?_ ha hF⟩
  have := ha.1.1
  omega
/-- a slot that nobody came by yet -/
theorem Bfs.fresh {A : Nat → Sl → Prop} {F : Sl → Prop} {n : Nat} {f : Nat → Option Sl} {thing : Nat} {σ0 σ : am_S} {i t op : Nat} {q : Nat → Nat} {Tk So : Row} (h : Bfs A F n f thing σ0 i t op q σ) (hC : Con n Tk So f) {s : Sl} (hok : okS s) (hW : σ.1 80 (enc s) = -6) : ∀ j x, 0 < j → j < op → f (q j) = some x → enc x ≠ enc s := by
  intro j x h0 hj hx e
  obtain ⟨y, hy, i', hi', hw⟩ := h.2.1.2.2.2.2.1 j h0 hj
  rw [hx] at hy
  cases hy
  rw [e, hW] at hw
  omega
theorem Bfs.free {A : Nat → Sl → Prop} {F : Sl → Prop} {n : Nat} {f : Nat → Option Sl} {thing : Nat} {σ0 σ : am_S} {i t op : Nat} {q : Nat → Nat} {Tk So : Row} (h : Bfs A F n f thing σ0 i t op q σ) (hC : Con n Tk So f) (hi : i < op) {s : Sl} (hok : okS s) (hA : A (q i) s) (hF : ¬ F s) (hW : σ.1 80 (enc s) = -6) : Tree A F n f thing op (rup (σ.1 80) (enc s) (q i)) q := by
  have hfr := h.fresh hC hok hW
  obtain ⟨_, ⟨t1, t2, t3, t4, t5, t6⟩, _⟩ := h
  refine ⟨t1, t2, t3, t4, fun j h0 hj => ?_, fun c hc => ?_⟩
  · obtain ⟨x, hx, i', hi', hw⟩ := t5 j h0 hj
    refine ⟨x, hx, i', hi', ?_⟩
    simp only [rup, if_neg (hfr j x h0 hj hx)]
    exact hw
  · by_cases e : c = enc s
    · subst e
      exact Or.inr ⟨i, hi, by simp only [rup, if_true], by rw [dec_enc hok]; exact hA, by rw [dec_enc hok]; exact hF⟩
    · simp only [rup, if_neg e]
      exact t6 c hc
theorem Bfs.add {A : Nat → Sl → Prop} {F : Sl → Prop} {n : Nat} {f : Nat → Option Sl} {thing : Nat} {σ0 σ : am_S} {i t op : Nat} {q : Nat → Nat} {Tk So : Row} (h : Bfs A F n f thing σ0 i t op q σ) (hC : Con n Tk So f) (hf0 : f thing = none) (hi : i < op) {s : Sl} (hok : okS s) (ht : s.1 = t) (hA : A (q i) s) (huni : ∀ s', A (q i) s' → s'.1 = t → s' = s) (hF : ¬ F s) (hW : σ.1 80 (enc s) = -6) {k : Nat} (hk : k < n) (hfk : f k = some s) : op + 1 ≤ n ∧ Bfs A F n f thing σ0 i (t + 1) (op + 1) (qadd q op k) (am_up (am_up σ 80 (enc s) (q i)) 79 op k) := by
  have hfr := h.fresh hC hok hW
  have hT := h.free hC hi hok hA hF hW
  obtain ⟨hE, ⟨t1, t2, t3, t4, t5, t6⟩, hQ, hV, hD⟩ := h
  have hnq : ∀ j, j < op → q j ≠ k := by
    intro j hj e
    rcases Nat.eq_zero_or_pos j with z | z
    · subst z
      rw [t2] at e
      rw [← e, hf0] at hfk
      cases hfk
    · exact hfr j s z hj (by rw [e]; exact hfk) rfl
  have hd : ∀ a b, a < op + 1 → b < op + 1 → qadd q op k a = qadd q op k b → a = b := by
    intro a b ha hb e
    by_cases h1 : a = op
    · by_cases h2 : b = op
      · omega
      · rw [qadd_at h1, qadd_ne h2] at e
        exact absurd e.symm (hnq b (by omega))
    · by_cases h2 : b = op
      · rw [qadd_ne h1, qadd_at h2] at e
        exact absurd e (hnq a (by omega))
      · rw [qadd_ne h1, qadd_ne h2] at e
        exact t1 a b (by omega) (by omega) e
  have hl : ∀ j, j < op + 1 → qadd q op k j < n := by
    intro j hj
    by_cases h1 : j = op
    · rw [qadd_at h1]; exact hk
    · rw [qadd_ne h1]; exact t4 j (by omega)
  have r80 : (am_up (am_up σ 80 (enc s) (q i)) 79 op k).1 80 = rup (σ.1 80) (enc s) (q i) := by rw [am_up_other (by decide), am_up_same]
  have r79 : (am_up (am_up σ 80 (enc s) (q i)) 79 op k).1 79 = rup (σ.1 79) op k := by rw [am_up_same, am_up_other (by decide)]
  have hgrow : ∀ c, σ.1 80 c ≠ -6 → rup (σ.1 80) (enc s) (q i) c ≠ -6 := by
    intro c hc
    simp only [rup]
    split
    · omega
    · exact hc
  refine ⟨q_len hd hl, (hE.up (by decide)).up (by decide), ⟨hd, ?_, by omega, hl, fun j h0 hj => ?_, fun c hc => ?_⟩, fun j hj => ?_, fun c hc hcW => ?_, fun j x hj hjt ha hFx => ?_⟩
  · rw [qadd_ne (by omega)]; exact t2
  · rw [r80]
    by_cases h1 : j = op
    · rw [qadd_at h1]
      refine ⟨s, hfk, i, by omega, ?_⟩
      rw [qadd_ne (by omega)]
      simp only [rup, if_true]
    · rw [qadd_ne h1]
      obtain ⟨x, hx, i', hi', hw⟩ := t5 j h0 (by omega)
      refine ⟨x, hx, i', hi', ?_⟩
      rw [qadd_ne (by omega)]
      simp only [rup, if_neg (hfr j x h0 (by omega) hx)]
      exact hw
  · rw [r80]
    rcases hT.2.2.2.2.2 c hc with h1 | ⟨j, h1, h2, h3, h4⟩
    · exact Or.inl h1
    · refine Or.inr ⟨j, by omega, ?_, ?_, h4⟩
      · rw [qadd_ne (by omega)]; exact h2
      · rw [qadd_ne (by omega)]; exact h3
  · rw [r79]
    by_cases h1 : j = op
    · rw [qadd_at h1]; simp only [rup, if_pos h1]
    · rw [qadd_ne h1]; simp only [rup, if_neg h1]; exact hQ j (by omega)
  · rw [r80] at hcW
    by_cases e : c = enc s
    · refine ⟨op, by omega, ?_⟩
      rw [qadd_at rfl, e, dec_enc hok]
      exact hfk
    · simp only [rup, if_neg e] at hcW
      obtain ⟨j, hj, hx⟩ := hV c hc hcW
      refine ⟨j, by omega, ?_⟩
      rw [qadd_ne (by omega)]
      exact hx
  · rw [r80]
    have hjo : j ≠ op := by omega
    rw [qadd_ne hjo] at ha
    by_cases e : j < i ∨ (j = i ∧ x.1 < t)
    · exact hgrow _ (hD j x (by omega) e ha hFx)
    · have e1 : j = i := by omega
      subst e1
      have := huni x ha (by omega)
      subst this
      simp only [rup, if_true]
      omega
theorem Bfs.shut {G : Row} {F : Sl → Prop} {n : Nat} {f : Nat → Option Sl} {thing : Nat} {σ0 σ : am_S} {op : Nat} {q : Nat → Nat} (h : Bfs (bx_Ad G) F n f thing σ0 op 0 op q σ) : Shut (bx_Ad G) F f (fun k => ∃ j, j < op ∧ q j = k) := by
  rintro k s ⟨j, hj, rfl⟩ ha hF
  have h1 := h.2.2.2.2 j s hj (Or.inl hj) ha hF
  obtain ⟨j', hj', hs⟩ := h.2.2.2.1 (enc s) (enc_lt ha.1) h1
  rw [dec_enc ha.1] at hs
  exact ⟨q j', ⟨j', hj', rfl⟩, hs⟩
theorem c_slot7 {T : List am_C} {σ : am_S} {a t : Int} : Runs T mX7_slot [vI a, vI t] σ (QI (fun z σ' => z = 301 * a + t ∧ σ' = σ)) := by
  refine Runs.of (by decide) rfl (by simp) (Nat.le_of_ble_eq_true rfl) ?_
  show AW T mX7_slot 0 [some (vI a), some (vI t)] [] σ _
  refine AW_sipush dX7_slot_0 (by decide) ?_
  refine AW_iload_n dX7_slot_3 rfl ?_
  refine AW_imul dX7_slot_4 ?_
  refine AW_iload_n dX7_slot_5 rfl ?_
  refine AW_iadd dX7_slot_6 ?_
  refine AW_iret dX7_slot_7 rfl ?_
  refine ⟨_, rfl, ?_, rfl⟩
  rfl
set_option maxHeartbeats 4000000 in
theorem l_find7t {P : Nat → Prop} {n thing : Nat} {σ0 : am_S} {f : Nat → Option Sl} (hn : n ≤ 20) (hG : ∀ k t, k < n → t ≤ 300 → σ0.1 75 (301 * k + t) = -6 ∨ 0 ≤ σ0.1 75 (301 * k + t) ∧ σ0.1 75 (301 * k + t) < 4) (hZ : ∀ c, c < 1204 → 0 ≤ σ0.1 77 c ∧ σ0.1 77 c ≤ 1) (hC : Con n (σ0.1 76) (σ0.1 81) f) (hM : Mg (bx_Ad (σ0.1 75)) P (bx_Fd (σ0.1 77)) f) (hf0 : f thing = none) (hP0 : P thing) (hth : thing < n) {Q : Option am_V → am_S → Prop} (hyes : (∀ σ, Eqx [76, 79, 80, 81] σ0 σ → More (bx_Ad (σ0.1 75)) P (bx_Fd (σ0.1 77)) n f thing (σ.1 76) (σ.1 81) → Q (some (vI 1)) σ)) {i : Nat} (hk2 : ∀ (op : Nat) (q : Nat → Nat) (σ : am_S), Bfs (bx_Ad (σ0.1 75)) (bx_Fd (σ0.1 77)) n f thing σ0 i 301 op q σ → i < op → ∀ x y : Option am_V, AW am_tab mX7_find 169 [some (vR 70), some (vI thing), some (vI op), some (vI i), some (vI (q i)), some (vI (301 : Nat)), x, y] [] σ Q) : ∀ t : Nat, t ≤ 301 → ∀ (op : Nat) (q : Nat → Nat) (σ : am_S), Bfs (bx_Ad (σ0.1 75)) (bx_Fd (σ0.1 77)) n f thing σ0 i t op q σ → i < op → ∀ x y : Option am_V, AW am_tab mX7_find 50 [some (vR 70), some (vI thing), some (vI op), some (vI i), some (vI (q i)), some (vI t), x, y] [] σ Q :=
  up_loop (fun t ht ih op q σ hB hi x y => by
    have r75 : σ.1 75 = σ0.1 75 := hB.1.1 75 (by decide)
    have r76 : σ.1 76 = σ0.1 76 := hB.1.1 76 (by decide)
    have r77 : σ.1 77 = σ0.1 77 := hB.1.1 77 (by decide)
    have r81 : σ.1 81 = σ0.1 81 := hB.1.1 81 (by decide)
    have hop := q_len hB.2.1.1 hB.2.1.2.2.2.1
    have hqi := hB.2.1.2.2.2.1 i hi
    refine AW_iload dX7_find_50 rfl ?_
    refine AW_sipush dX7_find_52 (by decide) ?_
    refine AW_icmp_ge 169 dX7_find_55 (by decide) (by omega) (by omega) (fun h55 => ?_) (fun h55 => ?_)
    · have e : t = 301 := by omega
      subst e
      exact hk2 op q σ hB hi _ _
    · refine AW_aload_n dX7_find_58 rfl ?_
      refine AW_get dX7_find_59 fX7_23 rfl rfl ?_
      refine AW_sipush dX7_find_62 (by decide) ?_
      refine AW_iload dX7_find_65 rfl ?_
      refine AW_imul dX7_find_67 ?_
      refine AW_iload dX7_find_68 rfl ?_
      refine AW_iadd dX7_find_70 ?_
      refine AW_ialdN (j := 301 * q i + t) dX7_find_71 rfl (Nat.le_of_ble_eq_true rfl) (by omega) (by omega) ?_
      have hg := hG (q i) t hqi (by omega)
      rw [r75]
      refine AW_istore (lv' := [_, _, _, _, _, _, _, _]) dX7_find_72 (by decide) (Nat.le_of_ble_eq_true rfl) rfl ?_
      refine AW_iload dX7_find_74 rfl ?_
      refine AW_if_ge 83 dX7_find_76 (by decide) (by omega) (fun h76 => ?_) (fun h76 => ?_)
      · obtain ⟨a, hae⟩ : ∃ a : Nat, σ0.1 75 (301 * q i + t) = a := ⟨_, (Int.toNat_of_nonneg (by omega)).symm⟩
        rw [hae]
        have ha4 : a < 4 := by omega
        have hok : okS (t, a) := ⟨by dsimp only; omega, ha4⟩
        have hAd : bx_Ad (σ0.1 75) (q i) (t, a) := ⟨hok, hae⟩
        have henc : enc (t, a) = 301 * a + t := rfl
        have huni : ∀ s', bx_Ad (σ0.1 75) (q i) s' → s'.1 = t → s' = (t, a) := fun s' h1 h2 => by
          obtain ⟨t2, a2⟩ := s'
          have h2 : t2 = t := h2
          subst h2
          have h3 : σ0.1 75 (301 * q i + t2) = (a2 : Int) := h1.2
          have : a2 = a := by omega
          subst this
          rfl
        refine AW_iload dX7_find_83 rfl ?_
        refine AW_iload dX7_find_85 rfl ?_
        refine AW_cSI2 dX7_find_87 kX7_95 (am_fit_b rfl) (Nat.le_of_ble_eq_true rfl) (c_slot7) (fun z σ' hq => ?_)
        obtain ⟨hz, hs⟩ := hq
        replace hz := hz.symm
        subst hz
        replace hs := hs.symm
        subst hs
        refine AW_istore (lv' := [_, _, _, _, _, _, _, _]) dX7_find_90 (by decide) (Nat.le_of_ble_eq_true rfl) rfl ?_
        refine AW_iload dX7_find_92 rfl ?_
        refine AW_if_lt 163 dX7_find_94 (by decide) (by omega) (fun h94 => ?_) (fun h94 => ?_)
        · refine AW_iinc (lv' := [_, _, _, _, _, _, _, _]) dX7_find_163 rfl (by decide) rfl ?_
          refine AW_goto (tgt := 50) dX7_find_166 (by decide) ?_
          refine ih (by omega) op q σ (hB.skip (fun s hs ha hF => ?_)) hi _ _
          first
          | (exfalso
             have h3 := ha.2
             have h4 : σ0.1 75 (301 * q i + t) = (s.2 : Int) := by rw [← hs]; exact h3
             omega)
          | (have e := huni s ha hs
             subst e
             first
             | (rw [henc]; omega)
             | (exact absurd (show bx_Fd (σ0.1 77) (t, a) from by unfold bx_Fd; rw [henc]; omega) hF))
        · refine AW_aload_n dX7_find_97 rfl ?_
          refine AW_get dX7_find_98 fX7_38 rfl rfl ?_
          refine AW_iload dX7_find_101 rfl ?_
          refine AW_ialdN (j := 301 * a + t) dX7_find_103 rfl (Nat.le_of_ble_eq_true rfl) (by omega) (by omega) ?_
          refine AW_bipush dX7_find_104 (by decide) ?_
          have hwb : -6 ≤ σ.1 80 (301 * a + t) ∧ σ.1 80 (301 * a + t) < 20 := by
            rcases hB.2.1.2.2.2.2.2 (301 * a + t) (by omega) with h | ⟨j, hj, h, _⟩
            · omega
            · have := hB.2.1.2.2.2.1 j hj; omega
          refine AW_icmp_ne 163 dX7_find_106 (by decide) (by omega) (by omega) (fun h106 => ?_) (fun h106 => ?_)
          · refine AW_iinc (lv' := [_, _, _, _, _, _, _, _]) dX7_find_163 rfl (by decide) rfl ?_
            refine AW_goto (tgt := 50) dX7_find_166 (by decide) ?_
            refine ih (by omega) op q σ (hB.skip (fun s hs ha hF => ?_)) hi _ _
            first
            | (exfalso
               have h3 := ha.2
               have h4 : σ0.1 75 (301 * q i + t) = (s.2 : Int) := by rw [← hs]; exact h3
               omega)
            | (have e := huni s ha hs
               subst e
               first
               | (rw [henc]; omega)
               | (exact absurd (show bx_Fd (σ0.1 77) (t, a) from by unfold bx_Fd; rw [henc]; omega) hF))
          · refine AW_aload_n dX7_find_109 rfl ?_
            refine AW_get dX7_find_110 fX7_29 rfl rfl ?_
            refine AW_iload dX7_find_113 rfl ?_
            refine AW_zaldN (j := 301 * a + t) dX7_find_115 rfl (Nat.le_of_ble_eq_true rfl) (by omega) (by omega) ?_
            have hz := hZ (301 * a + t) (by omega)
            rw [r77]
            refine AW_if_ne 163 dX7_find_116 (by decide) (by omega) (fun h116 => ?_) (fun h116 => ?_)
            · refine AW_iinc (lv' := [_, _, _, _, _, _, _, _]) dX7_find_163 rfl (by decide) rfl ?_
              refine AW_goto (tgt := 50) dX7_find_166 (by decide) ?_
              refine ih (by omega) op q σ (hB.skip (fun s hs ha hF => ?_)) hi _ _
              first
              | (exfalso
                 have h3 := ha.2
                 have h4 : σ0.1 75 (301 * q i + t) = (s.2 : Int) := by rw [← hs]; exact h3
                 omega)
              | (have e := huni s ha hs
                 subst e
                 first
                 | (rw [henc]; omega)
                 | (exact absurd (show bx_Fd (σ0.1 77) (t, a) from by unfold bx_Fd; rw [henc]; omega) hF))
            · have hFn : ¬ bx_Fd (σ0.1 77) (t, a) := fun h => h (by rw [henc]; omega)
              have hWn : σ.1 80 (enc (t, a)) = -6 := by rw [henc]; omega
              refine AW_aload_n dX7_find_119 rfl ?_
              refine AW_get dX7_find_120 fX7_38 rfl rfl ?_
              refine AW_iload dX7_find_123 rfl ?_
              refine AW_iload dX7_find_125 rfl ?_
              refine AW_iastN (j := 301 * a + t) dX7_find_127 rfl (Nat.le_of_ble_eq_true rfl) (by omega) (by omega) ?_
              refine AW_aload_n dX7_find_128 rfl ?_
              refine AW_get dX7_find_129 fX7_26 rfl rfl ?_
              refine AW_iload dX7_find_132 rfl ?_
              refine AW_ialdN (j := 301 * a + t) dX7_find_134 rfl (Nat.le_of_ble_eq_true rfl) (by omega) (by omega) ?_
              rw [am_up_other (by decide), r76]
              have htb : -6 ≤ σ0.1 76 (301 * a + t) ∧ σ0.1 76 (301 * a + t) < 20 := by
                rcases hC.2.2.2 (301 * a + t) (by omega) with h | ⟨k, h1, h2, _⟩ <;> omega
              refine AW_if_ge 147 dX7_find_135 (by decide) (by omega) (fun h135 => ?_) (fun h135 => ?_)
              · refine AW_aload_n dX7_find_147 rfl ?_
                refine AW_get dX7_find_148 fX7_35 rfl rfl ?_
                refine AW_iload_n dX7_find_151 rfl ?_
                refine AW_aload_n dX7_find_152 rfl ?_
                refine AW_get dX7_find_153 fX7_26 rfl rfl ?_
                refine AW_iload dX7_find_156 rfl ?_
                refine AW_ialdN (j := 301 * a + t) dX7_find_158 rfl (Nat.le_of_ble_eq_true rfl) (by omega) (by omega) ?_
                rw [am_up_other (by decide), r76]
                have hk : ∃ k, k < n ∧ σ0.1 76 (301 * a + t) = (k : Nat) ∧ f k = some (t, a) := by
                  rcases hC.2.2.2 (301 * a + t) (by omega) with h | ⟨k, h1, h2, h3⟩
                  · omega
                  · exact ⟨k, h1, h2, by rw [h3, ← henc, dec_enc hok]⟩
                obtain ⟨k, hkn, hke, hkf⟩ := hk
                obtain ⟨hop2, hB2⟩ := hB.add hC hf0 hi hok rfl hAd huni hFn hWn hkn hkf
                rw [hke]
                refine AW_iastN (j := op) dX7_find_159 rfl (Nat.le_of_ble_eq_true rfl) (by omega) (by omega) ?_
                refine AW_iinc (lv' := [_, _, _, _, _, _, _, _]) dX7_find_160 rfl (by decide) rfl ?_
                refine AW_iinc (lv' := [_, _, _, _, _, _, _, _]) dX7_find_163 rfl (by decide) rfl ?_
                refine AW_goto (tgt := 50) dX7_find_166 (by decide) ?_
                have h9 := ih (by omega) (op + 1) _ _ hB2 (by omega)
                have hqe : qadd q op k i = q i := qadd_ne (by omega)
                rw [hqe] at h9
                exact h9 _ _
              · have hfree : ∀ k, f k ≠ some (dec (301 * a + t)) := fun k hk => by
                  have h1 := hC.2.2.1 k _ hk
                  rw [enc_dec] at h1
                  omega
                have hPq : ∀ j, j < op → P (q j) := fun j hj => by
                  rcases Nat.eq_zero_or_pos j with z | z
                  · subst z; rw [hB.2.1.2.1]; exact hP0
                  · obtain ⟨x, hx, _⟩ := hB.2.1.2.2.2.2.1 j z hj
                    exact (hM.1 _ _ hx).1
                have hE1 : Eqx [76, 79, 80, 81] σ0 (am_up σ 80 (301 * a + t) (q i)) := (hB.1.mono (by decide)).up (by decide)
                refine AW_aload_n dX7_find_138 rfl ?_
                refine AW_iload dX7_find_139 rfl ?_
                rw [show (301 * (a : Int) + (t : Int)) = ((301 * a + t : Nat) : Int) by omega]
                refine AW_iload_n dX7_find_141 rfl ?_
                refine AW_cVV2 dX7_find_142 kX7_98 (am_fit_b rfl) rfl rfl (Nat.le_of_ble_eq_true rfl) (c_turn7 (n := n) (q := q) (op := op) (P := P) (f := f) (A := bx_Ad (σ0.1 75)) (F := bx_Fd (σ0.1 77)) (c := 301 * a + t) hn (by rw [am_up_same]; exact hB.free hC hi hok hAd hFn hWn) hPq hf0 (by omega) (by omega) (by rw [am_up_same]; simp only [rup, if_true]; omega) (by rw [am_up_other (by decide), am_up_other (by decide), r76, r81]; exact hC) hM hfree) (fun σ' hq => ?_)
                obtain ⟨h1, h2⟩ := hq
                refine AW_iconst dX7_find_145 ?_
                refine AW_zret dX7_find_146 rfl (by first | exact Or.inl rfl | exact Or.inr rfl) ?_
                exact hyes _ (hE1.tr (h1.mono (by decide))) h2
      · refine AW_iconst dX7_find_79 ?_
        refine AW_goto (tgt := 90) dX7_find_80 (by decide) ?_
        refine AW_istore (lv' := [_, _, _, _, _, _, _, _]) dX7_find_90 (by decide) (Nat.le_of_ble_eq_true rfl) rfl ?_
        refine AW_iload dX7_find_92 rfl ?_
        refine AW_if_lt 163 dX7_find_94 (by decide) (by omega) (fun _ => ?_) (fun h => absurd (by omega) h)
        refine AW_iinc (lv' := [_, _, _, _, _, _, _, _]) dX7_find_163 rfl (by decide) rfl ?_
        refine AW_goto (tgt := 50) dX7_find_166 (by decide) ?_
        refine ih (by omega) op q σ (hB.skip (fun s hs ha hF => ?_)) hi _ _
        first
        | (exfalso
           have h3 := ha.2
           have h4 : σ0.1 75 (301 * q i + t) = (s.2 : Int) := by rw [← hs]; exact h3
           omega)
        | (have e := huni s ha hs
           subst e
           first
           | (rw [henc]; omega)
           | (exact absurd (show bx_Fd (σ0.1 77) (t, a) from by unfold bx_Fd; rw [henc]; omega) hF)))
end
section
theorem l_find7i {P : Nat → Prop} {n thing : Nat} {σ0 : am_S} {f : Nat → Option Sl} (hn : n ≤ 20) (hG : ∀ k t, k < n → t ≤ 300 → σ0.1 75 (301 * k + t) = -6 ∨ 0 ≤ σ0.1 75 (301 * k + t) ∧ σ0.1 75 (301 * k + t) < 4) (hZ : ∀ c, c < 1204 → 0 ≤ σ0.1 77 c ∧ σ0.1 77 c ≤ 1) (hC : Con n (σ0.1 76) (σ0.1 81) f) (hM : Mg (bx_Ad (σ0.1 75)) P (bx_Fd (σ0.1 77)) f) (hf0 : f thing = none) (hP0 : P thing) (hth : thing < n) {Q : Option am_V → am_S → Prop} (hyes : (∀ σ, Eqx [76, 79, 80, 81] σ0 σ → More (bx_Ad (σ0.1 75)) P (bx_Fd (σ0.1 77)) n f thing (σ.1 76) (σ.1 81) → Q (some (vI 1)) σ)) (hno : (∀ σ (D : Nat → Prop), Eqx [79, 80] σ0 σ → D thing → (∀ k, D k → P k) → Shut (bx_Ad (σ0.1 75)) (bx_Fd (σ0.1 77)) f D → Q (some (vI 0)) σ)) : ∀ i : Nat, i ≤ n → ∀ (op : Nat) (q : Nat → Nat) (σ : am_S), i ≤ op → Bfs (bx_Ad (σ0.1 75)) (bx_Fd (σ0.1 77)) n f thing σ0 i 0 op q σ → ∀ x4 x5 x6 x7 : Option am_V, AW am_tab mX7_find 34 [some (vR 70), some (vI thing), some (vI op), some (vI i), x4, x5, x6, x7] [] σ Q :=
  up_loop (fun i hi0 ih op q σ hio hB x4 x5 x6 x7 => by
    have hop := q_len hB.2.1.1 hB.2.1.2.2.2.1
    refine AW_iload_n dX7_find_34 rfl ?_
    refine AW_iload_n dX7_find_35 rfl ?_
    refine AW_icmp_ge 175 dX7_find_36 (by decide) (by omega) (by omega) (fun h36 => ?_) (fun h36 => ?_)
    · have e : i = op := by omega
      subst e
      refine AW_iconst dX7_find_175 ?_
      refine AW_zret dX7_find_176 rfl (by first | exact Or.inl rfl | exact Or.inr rfl) ?_
      refine hno σ _ hB.1 ⟨0, hB.2.1.2.2.1, hB.2.1.2.1⟩ (fun k hk => ?_) hB.shut
      obtain ⟨j, hj, rfl⟩ := hk
      rcases Nat.eq_zero_or_pos j with z | z
      · subst z; rw [hB.2.1.2.1]; exact hP0
      · obtain ⟨s, hs, _⟩ := hB.2.1.2.2.2.2.1 j z hj
        exact (hM.1 _ _ hs).1
    · refine AW_aload_n dX7_find_39 rfl ?_
      refine AW_get dX7_find_40 fX7_35 rfl rfl ?_
      refine AW_iload_n dX7_find_43 rfl ?_
      refine AW_ialdN (j := i) dX7_find_44 rfl (Nat.le_of_ble_eq_true rfl) (by omega) (by omega) ?_
      rw [hB.2.2.1 i (by omega)]
      refine AW_istore (lv' := [_, _, _, _, _, _, _, _]) dX7_find_45 (by decide) (Nat.le_of_ble_eq_true rfl) rfl ?_
      refine AW_iconst dX7_find_47 ?_
      refine AW_istore (lv' := [_, _, _, _, _, _, _, _]) dX7_find_48 (by decide) (Nat.le_of_ble_eq_true rfl) rfl ?_
      refine l_find7t hn hG hZ hC hM hf0 hP0 hth hyes (fun op2 q2 σ2 hB2 hi2 x6 y6 => ?_) 0 (by omega) op q σ hB (by omega) _ _
      refine AW_iinc (lv' := [_, _, _, _, _, _, _, _]) dX7_find_169 rfl (by decide) rfl ?_
      refine AW_goto (tgt := 34) dX7_find_172 (by decide) ?_
      have hop2 := q_len hB2.2.1.1 hB2.2.1.2.2.2.1
      exact ih (by omega) op2 q2 σ2 (by omega) hB2.next _ _ _ _)
theorem l_find7w {σ : am_S} {thing : Nat} {Q : Option am_V → am_S → Prop} (hk2 : AW am_tab mX7_find 23 [some (vR 70), some (vI thing), some (vI (1204 : Nat)), none, none, none, none, none] [] (am_row σ 80 1204 (fun _ => -6)) Q) : ∀ i : Nat, i ≤ 1204 → AW am_tab mX7_find 2 [some (vR 70), some (vI thing), some (vI i), none, none, none, none, none] [] (am_row σ 80 i (fun _ => -6)) Q :=
  up_loop (fun i hi ih => by
    refine AW_iload_n dX7_find_2 rfl ?_
    refine AW_sipush dX7_find_3 (by decide) ?_
    refine AW_icmp_ge 23 dX7_find_6 (by decide) (by omega) (by omega) (fun h6 => ?_) (fun h6 => ?_)
    · have e : i = 1204 := by omega
      subst e
      exact hk2
    · refine AW_aload_n dX7_find_9 rfl ?_
      refine AW_get dX7_find_10 fX7_38 rfl rfl ?_
      refine AW_iload_n dX7_find_13 rfl ?_
      refine AW_bipush dX7_find_14 (by decide) ?_
      refine AW_iastN (j := i) dX7_find_16 rfl (Nat.le_of_ble_eq_true rfl) (by omega) (by omega) ?_
      refine AW_iinc (lv' := [_, _, _, _, _, _, _, _]) dX7_find_17 rfl (by decide) rfl ?_
      refine AW_goto (tgt := 2) dX7_find_20 (by decide) ?_
      rw [am_row_s (g := fun _ => -6) rfl]
      exact ih (by omega))
theorem c_find7 {P : Nat → Prop} {n thing : Nat} {σ : am_S} {f : Nat → Option Sl} (hn : n ≤ 20) (hG : ∀ k t, k < n → t ≤ 300 → σ.1 75 (301 * k + t) = -6 ∨ 0 ≤ σ.1 75 (301 * k + t) ∧ σ.1 75 (301 * k + t) < 4) (hZ : ∀ c, c < 1204 → 0 ≤ σ.1 77 c ∧ σ.1 77 c ≤ 1) (hC : Con n (σ.1 76) (σ.1 81) f) (hM : Mg (bx_Ad (σ.1 75)) P (bx_Fd (σ.1 77)) f) (hf0 : f thing = none) (hP0 : P thing) (hth : thing < n) : Runs am_tab mX7_find [vR 70, vI thing] σ (QI (fun z σ' => (z = 1 ∧ Eqx [76, 79, 80, 81] σ σ' ∧ More (bx_Ad (σ.1 75)) P (bx_Fd (σ.1 77)) n f thing (σ'.1 76) (σ'.1 81)) ∨ (z = 0 ∧ Eqx [79, 80] σ σ' ∧ ∃ D : Nat → Prop, D thing ∧ (∀ k, D k → P k) ∧ Shut (bx_Ad (σ.1 75)) (bx_Fd (σ.1 77)) f D))) := by
  refine Runs.of (by decide) rfl (by simp) (Nat.le_of_ble_eq_true rfl) ?_
  show AW am_tab mX7_find 0 [some (vR 70), some (vI thing), none, none, none, none, none, none] [] σ _
  refine AW_iconst dX7_find_0 ?_
  refine AW_istore_n (i := 2) (lv' := [_, _, _, _, _, _, _, _]) dX7_find_1 rfl (by decide) (Nat.le_of_ble_eq_true rfl) rfl ?_
  suffices hs : AW am_tab mX7_find 23 [some (vR 70), some (vI thing), some (vI (1204 : Nat)), none, none, none, none, none] [] (am_row σ 80 1204 (fun _ => -6)) _ by
    have h9 := l_find7w hs 0 (by omega)
    rw [am_row_0] at h9
    exact h9
  refine AW_iconst dX7_find_23 ?_
  refine AW_istore_n (i := 2) (lv' := [_, _, _, _, _, _, _, _]) dX7_find_24 rfl (by decide) (Nat.le_of_ble_eq_true rfl) rfl ?_
  refine AW_aload_n dX7_find_25 rfl ?_
  refine AW_get dX7_find_26 fX7_35 rfl rfl ?_
  refine AW_iconst dX7_find_29 ?_
  refine AW_iload_n dX7_find_30 rfl ?_
  refine AW_iastN (j := 0) dX7_find_31 rfl (Nat.le_of_ble_eq_true rfl) (by omega) (by omega) ?_
  refine AW_iconst dX7_find_32 ?_
  refine AW_istore_n (i := 3) (lv' := [_, _, _, _, _, _, _, _]) dX7_find_33 rfl (by decide) (Nat.le_of_ble_eq_true rfl) rfl ?_
  have hB : Bfs (bx_Ad (σ.1 75)) (bx_Fd (σ.1 77)) n f thing σ 0 0 1 (fun _ => thing) (am_up (am_row σ 80 1204 (fun _ => -6)) 79 0 thing) := by
    have r80 : (am_up (am_row σ 80 1204 (fun _ => -6)) 79 0 thing).1 80 = (am_row σ 80 1204 (fun _ => -6)).1 80 := am_up_other (by decide)
    refine ⟨(Eqx.rf.row (by decide)).up (by decide), ⟨fun i j hi hj _ => by omega, rfl, by omega, fun _ _ => hth, fun j h0 hj => by omega, fun c hc => ?_⟩, fun j hj => ?_, fun c hc h => ?_, fun j s hj h => by omega⟩
    · rw [r80, am_row_at hc]; exact Or.inl rfl
    · rw [am_up_same, show j = 0 by omega]; exact if_pos rfl
    · rw [r80, am_row_at hc] at h; exact absurd rfl h
  exact l_find7i hn hG hZ hC hM hf0 hP0 hth (fun σ' h1 h2 => ⟨1, rfl, Or.inl ⟨rfl, h1, h2⟩⟩) (fun σ' D h1 h2 h3 h4 => ⟨0, rfl, Or.inr ⟨rfl, h1, D, h2, h3, h4⟩⟩) 0 (by omega) 1 (fun _ => thing) _ (by omega) hB _ _ _ _
theorem l_clear7a {σ : am_S} {Q : Option am_V → am_S → Prop} (hk2 : AW am_tab mX7_clear 22 [some (vR 70), some (vI (1204 : Nat))] [] (am_row σ 77 1204 (fun _ => 0)) Q) : ∀ i : Nat, i ≤ 1204 → AW am_tab mX7_clear 2 [some (vR 70), some (vI i)] [] (am_row σ 77 i (fun _ => 0)) Q :=
  up_loop (fun i hi ih => by
    refine AW_iload_n dX7_clear_2 rfl ?_
    refine AW_sipush dX7_clear_3 (by decide) ?_
    refine AW_icmp_ge 22 dX7_clear_6 (by decide) (by omega) (by omega) (fun h6 => ?_) (fun h6 => ?_)
    · have e : i = 1204 := by omega
      subst e
      exact hk2
    · refine AW_aload_n dX7_clear_9 rfl ?_
      refine AW_get dX7_clear_10 fX7_29 rfl rfl ?_
      refine AW_iload_n dX7_clear_13 rfl ?_
      refine AW_iconst dX7_clear_14 ?_
      refine AW_zastN (j := i) dX7_clear_15 rfl (Nat.le_of_ble_eq_true rfl) (by omega) (by omega) (by first | exact Or.inl rfl | exact Or.inr rfl) ?_
      refine AW_iinc (lv' := [_, _]) dX7_clear_16 rfl (by decide) rfl ?_
      refine AW_goto (tgt := 2) dX7_clear_19 (by decide) ?_
      rw [am_row_s (g := fun _ => 0) rfl]
      exact ih (by omega))
theorem l_clear7b {σ : am_S} {Q : Option am_V → am_S → Prop} (hQ : Q none (am_row σ 78 20 (fun _ => 0))) : ∀ i : Nat, i ≤ 20 → AW am_tab mX7_clear 24 [some (vR 70), some (vI i)] [] (am_row σ 78 i (fun _ => 0)) Q :=
  up_loop (fun i hi ih => by
    refine AW_iload_n dX7_clear_24 rfl ?_
    refine AW_bipush dX7_clear_25 (by decide) ?_
    refine AW_icmp_ge 43 dX7_clear_27 (by decide) (by omega) (by omega) (fun h27 => ?_) (fun h27 => ?_)
    · refine AW_vret dX7_clear_43 rfl ?_
      have e : i = 20 := by omega
      subst e
      exact hQ
    · refine AW_aload_n dX7_clear_30 rfl ?_
      refine AW_get dX7_clear_31 fX7_32 rfl rfl ?_
      refine AW_iload_n dX7_clear_34 rfl ?_
      refine AW_iconst dX7_clear_35 ?_
      refine AW_zastN (j := i) dX7_clear_36 rfl (Nat.le_of_ble_eq_true rfl) (by omega) (by omega) (by first | exact Or.inl rfl | exact Or.inr rfl) ?_
      refine AW_iinc (lv' := [_, _]) dX7_clear_37 rfl (by decide) rfl ?_
      refine AW_goto (tgt := 24) dX7_clear_40 (by decide) ?_
      rw [am_row_s (g := fun _ => 0) rfl]
      exact ih (by omega))
theorem c_clear7 {σ : am_S} : Runs am_tab mX7_clear [vR 70] σ (QV (fun σ' => σ' = am_row (am_row σ 77 1204 (fun _ => 0)) 78 20 (fun _ => 0))) := by
  refine Runs.of (by decide) rfl (by simp) (Nat.le_of_ble_eq_true rfl) ?_
  show AW am_tab mX7_clear 0 [some (vR 70), none] [] σ _
  refine AW_iconst dX7_clear_0 ?_
  refine AW_istore_n (i := 1) (lv' := [_, _]) dX7_clear_1 rfl (by decide) (Nat.le_of_ble_eq_true rfl) rfl ?_
  suffices hs : AW am_tab mX7_clear 22 [some (vR 70), some (vI (1204 : Nat))] [] (am_row σ 77 1204 (fun _ => 0)) _ by
    have h9 := l_clear7a hs 0 (by omega)
    rw [am_row_0] at h9
    exact h9
  refine AW_iconst dX7_clear_22 ?_
  refine AW_istore_n (i := 1) (lv' := [_, _]) dX7_clear_23 rfl (by decide) (Nat.le_of_ble_eq_true rfl) rfl ?_
  have h9 := l_clear7b (σ := am_row σ 77 1204 (fun _ => 0)) (Q := QV (fun σ' => σ' = am_row (am_row σ 77 1204 (fun _ => 0)) 78 20 (fun _ => 0))) ⟨rfl, rfl⟩ 0 (by omega)
  rw [am_row_0] at h9
  exact h9
end
section
theorem l_most7a {σ : am_S} {fr : Nat} {Q : Option am_V → am_S → Prop} (hk2 : AW am_tab mX7_most 23 [some (vR 70), some (vI fr), some (vI (1204 : Nat)), none] [] (am_row σ 76 1204 (fun _ => -6)) Q) : ∀ i : Nat, i ≤ 1204 → AW am_tab mX7_most 2 [some (vR 70), some (vI fr), some (vI (i : Nat)), none] [] (am_row σ 76 i (fun _ => -6)) Q :=
  up_loop (fun i hi ih => by
    refine AW_iload_n dX7_most_2 rfl ?_
    refine AW_sipush dX7_most_3 (by decide) ?_
    refine AW_icmp_ge 23 dX7_most_6 (by decide) (by omega) (by omega) (fun h6 => ?_) (fun h6 => ?_)
    · have e : i = 1204 := by omega
      subst e
      exact hk2
    · refine AW_aload_n dX7_most_9 rfl ?_
      refine AW_get dX7_most_10 fX7_26 rfl rfl ?_
      refine AW_iload_n dX7_most_13 rfl ?_
      refine AW_bipush dX7_most_14 (by decide) ?_
      refine AW_iastN (j := i) dX7_most_16 rfl (Nat.le_of_ble_eq_true rfl) (by omega) (by omega) ?_
      refine AW_iinc (lv' := [_, _, _, _]) dX7_most_17 rfl (by decide) rfl ?_
      refine AW_goto (tgt := 2) dX7_most_20 (by decide) ?_
      rw [am_row_s (g := fun _ => -6) rfl]
      exact ih (by omega))
theorem l_most7b {σ : am_S} {fr : Nat} {Q : Option am_V → am_S → Prop} (hk2 : AW am_tab mX7_most 47 [some (vR 70), some (vI fr), some (vI 0), some (vI (20 : Nat))] [] (am_row σ 81 20 (fun _ => -6)) Q) : ∀ i : Nat, i ≤ 20 → AW am_tab mX7_most 27 [some (vR 70), some (vI fr), some (vI 0), some (vI (i : Nat))] [] (am_row σ 81 i (fun _ => -6)) Q :=
  up_loop (fun i hi ih => by
    refine AW_iload_n dX7_most_27 rfl ?_
    refine AW_bipush dX7_most_28 (by decide) ?_
    refine AW_icmp_ge 47 dX7_most_30 (by decide) (by omega) (by omega) (fun h30 => ?_) (fun h30 => ?_)
    · have e : i = 20 := by omega
      subst e
      exact hk2
    · refine AW_aload_n dX7_most_33 rfl ?_
      refine AW_get dX7_most_34 fX7_41 rfl rfl ?_
      refine AW_iload_n dX7_most_37 rfl ?_
      refine AW_bipush dX7_most_38 (by decide) ?_
      refine AW_iastN (j := i) dX7_most_40 rfl (Nat.le_of_ble_eq_true rfl) (by omega) (by omega) ?_
      refine AW_iinc (lv' := [_, _, _, _]) dX7_most_41 rfl (by decide) rfl ?_
      refine AW_goto (tgt := 27) dX7_most_44 (by decide) ?_
      rw [am_row_s (g := fun _ => -6) rfl]
      exact ih (by omega))
/-- the things that the reference looks at: from one on, below k, that are not out -/
def bx_P (O : Row) (fr k : Nat) : Nat → Prop := fun j => fr ≤ j ∧ j < k ∧ O j = 0
theorem More.sz {A : Nat → Sl → Prop} {P : Nat → Prop} {F : Sl → Prop} {n : Nat} {f f' : Nat → Option Sl} {thing : Nat} (hth : thing < n) (h0 : f thing = none) (h1 : ∀ k, k ≠ thing → (f' k).isSome = (f k).isSome) (h2 : (f' thing).isSome = true) : sz f' n = sz f n + 1 := by
  rw [sz_cnt, sz_cnt]
  exact cnt_add hth (by simp [h0]) h2 (fun k _ hk => (h1 k hk).symm)
theorem l_most7 {n fr : Nat} {σ0 : am_S} (hn : n ≤ 20) (hG : ∀ k t, k < n → t ≤ 300 → σ0.1 75 (301 * k + t) = -6 ∨ 0 ≤ σ0.1 75 (301 * k + t) ∧ σ0.1 75 (301 * k + t) < 4) (hZ : ∀ c, c < 1204 → 0 ≤ σ0.1 77 c ∧ σ0.1 77 c ≤ 1) (hO : ∀ k, k < 20 → 0 ≤ σ0.1 78 k ∧ σ0.1 78 k ≤ 1) (hmany : σ0.1 71 6423 = (n : Nat)) {Q : Option am_V → am_S → Prop} (hQ : ∀ (σ : am_S) (m : Nat), Eqx [76, 79, 80, 81] σ0 σ → IsMax (bx_Ad (σ0.1 75)) (bx_P (σ0.1 78) fr n) (bx_Fd (σ0.1 77)) n m → Q (some (vI m)) σ) : ∀ k : Nat, k ≤ n → fr ≤ k → ∀ (σ : am_S) (f : Nat → Option Sl) (D : Nat → Prop), Eqx [76, 79, 80, 81] σ0 σ → Con n (σ.1 76) (σ.1 81) f → Mg (bx_Ad (σ0.1 75)) (bx_P (σ0.1 78) fr k) (bx_Fd (σ0.1 77)) f → (∀ j, bx_P (σ0.1 78) fr k j → f j = none → D j) → (∀ j, D j → bx_P (σ0.1 78) fr k j) → Shut (bx_Ad (σ0.1 75)) (bx_Fd (σ0.1 77)) f D → AW am_tab mX7_most 49 [some (vR 70), some (vI fr), some (vI (sz f n)), some (vI k)] [] σ Q :=
  up_loop (fun k hk0 ih hfr σ f D hE hC hM hD1 hD2 hS => by
    have r71 : σ.1 71 = σ0.1 71 := hE.1 71 (by decide)
    have r75 : σ.1 75 = σ0.1 75 := hE.1 75 (by decide)
    have r77 : σ.1 77 = σ0.1 77 := hE.1 77 (by decide)
    have r78 : σ.1 78 = σ0.1 78 := hE.1 78 (by decide)
    have hszb : sz f n ≤ 20 := by rw [sz_cnt]; exact Nat.le_trans (cnt_le _ _) hn
    have hfk : f k = none := by
      cases h : f k with
      | none => rfl
      | some s => exact absurd (hM.1 k s h).1.2.1 (by omega)
    refine AW_iload_n dX7_most_49 rfl ?_
    refine AW_aload_n dX7_most_50 rfl ?_
    refine AW_get dX7_most_51 fX7_7 rfl rfl ?_
    refine AW_sipush dX7_most_54 (by decide) ?_
    refine AW_ialdN (j := 6423) dX7_most_57 rfl (Nat.le_of_ble_eq_true rfl) (by omega) (by omega) ?_
    rw [r71, hmany]
    refine AW_icmp_ge 92 dX7_most_58 (by decide) (by omega) (by omega) (fun h58 => ?_) (fun h58 => ?_)
    · have e : k = n := by omega
      subst e
      refine AW_iload_n dX7_most_92 rfl ?_
      refine AW_iret dX7_most_93 rfl ?_
      exact hQ σ _ hE (cert_max (fun j hj => hj.2.1) hM hD1 hS)
    · refine AW_iload_n dX7_most_61 rfl ?_
      refine AW_aload_n dX7_most_62 rfl ?_
      refine AW_get dX7_most_63 fX7_32 rfl rfl ?_
      refine AW_iload_n dX7_most_66 rfl ?_
      refine AW_zaldN (j := k) dX7_most_67 rfl (Nat.le_of_ble_eq_true rfl) (by omega) (by omega) ?_
      rw [r78]
      have hOk := hO k (by omega)
      refine AW_if_ne 83 dX7_most_68 (by decide) (by omega) (fun h68 => ?_) (fun h68 => ?_)
      · refine AW_iconst dX7_most_83 ?_
        refine AW_iadd dX7_most_84 ?_
        refine AW_istore_n (i := 2) (lv' := [_, _, _, _]) dX7_most_85 rfl (by decide) (Nat.le_of_ble_eq_true rfl) rfl ?_
        refine AW_iinc (lv' := [_, _, _, _]) dX7_most_86 rfl (by decide) rfl ?_
        refine AW_goto (tgt := 49) dX7_most_89 (by decide) ?_
        have hP : bx_P (σ0.1 78) fr (k + 1) = bx_P (σ0.1 78) fr k := by
          funext j
          apply propext
          constructor
          · rintro ⟨a, b, c⟩
            refine ⟨a, ?_, c⟩
            have : j ≠ k := fun e => by subst e; omega
            omega
          · rintro ⟨a, b, c⟩
            exact ⟨a, by omega, c⟩
        have h9 := ih (by omega) (by omega) σ f D hE hC (by rw [hP]; exact hM) (by rw [hP]; exact hD1) (by rw [hP]; exact hD2) hS
        rw [Int.add_zero]
        exact h9
      · have hM1 : Mg (bx_Ad (σ0.1 75)) (bx_P (σ0.1 78) fr (k + 1)) (bx_Fd (σ0.1 77)) f := ⟨fun j x hj => by
          obtain ⟨⟨a1, a2, a3⟩, b, c⟩ := hM.1 j x hj
          exact ⟨⟨a1, by omega, a3⟩, b, c⟩, hM.2⟩
        have hPk : bx_P (σ0.1 78) fr (k + 1) k := ⟨hfr, by omega, by omega⟩
        refine AW_aload_n dX7_most_71 rfl ?_
        refine AW_iload_n dX7_most_72 rfl ?_
        refine AW_cVI1 dX7_most_73 kX7_102 (am_fit_b rfl) rfl rfl (Nat.le_of_ble_eq_true rfl) (c_find7 (P := bx_P (σ0.1 78) fr (k + 1)) (n := n) (f := f) hn (by rw [r75]; exact hG) (by rw [r77]; exact hZ) hC (by rw [r75, r77]; exact hM1) hfk hPk (by omega)) (fun z σ2 hq => ?_)
        rw [r75, r77] at hq
        rcases hq with ⟨rfl, h1, h2⟩ | ⟨rfl, h1, D2, h2, h3, h4⟩
        · refine AW_if_eq 83 dX7_most_76 (by decide) (by decide) (fun h => absurd h (by decide)) (fun _ => ?_)
          refine AW_iconst dX7_most_79 ?_
          refine AW_goto (tgt := 84) dX7_most_80 (by decide) ?_
          refine AW_iadd dX7_most_84 ?_
          refine AW_istore_n (i := 2) (lv' := [_, _, _, _]) dX7_most_85 rfl (by decide) (Nat.le_of_ble_eq_true rfl) rfl ?_
          refine AW_iinc (lv' := [_, _, _, _]) dX7_most_86 rfl (by decide) rfl ?_
          refine AW_goto (tgt := 49) dX7_most_89 (by decide) ?_
          obtain ⟨f', g1, g2, g3, g4, g5⟩ := h2
          have hsz := More.sz (A := (bx_Ad (σ0.1 75))) (P := bx_P (σ0.1 78) fr (k + 1)) (F := (bx_Fd (σ0.1 77))) (n := n) (show k < n by omega) hfk g3 g4
          rw [show ((sz f n : Nat) : Int) + 1 = ((sz f' n : Nat) : Int) by omega]
          refine ih (by omega) (by omega) σ2 f' D (hE.tr h1) g1 g2 (fun j hj hjn => ?_) (fun j hj => ?_) (fun i s hi ha hF => ?_)
          · have hjk : j ≠ k := fun e => by subst e; rw [hjn] at g4; cases g4
            refine hD1 j ⟨hj.1, by have := hj.2.1; omega, hj.2.2⟩ ?_
            have := g3 j hjk
            rw [hjn] at this
            cases h : f j with
            | none => rfl
            | some s => rw [h] at this; cases this
          · obtain ⟨a, b, c⟩ := hD2 j hj
            exact ⟨a, by omega, c⟩
          · obtain ⟨j, hj, hjs⟩ := hS i s hi ha hF
            exact ⟨j, hj, by rw [g5 D hS j hj]; exact hjs⟩
        · refine AW_if_eq 83 dX7_most_76 (by decide) (by decide) (fun _ => ?_) (fun h => absurd rfl h)
          refine AW_iconst dX7_most_83 ?_
          refine AW_iadd dX7_most_84 ?_
          refine AW_istore_n (i := 2) (lv' := [_, _, _, _]) dX7_most_85 rfl (by decide) (Nat.le_of_ble_eq_true rfl) rfl ?_
          refine AW_iinc (lv' := [_, _, _, _]) dX7_most_86 rfl (by decide) rfl ?_
          refine AW_goto (tgt := 49) dX7_most_89 (by decide) ?_
          rw [Int.add_zero]
          refine ih (by omega) (by omega) σ2 f (fun j => D j ∨ D2 j) (hE.tr (h1.mono (by decide))) (by rw [h1.1 76 (by decide), h1.1 81 (by decide)]; exact hC) hM1 (fun j hj hjn => ?_) (fun j hj => ?_) (fun i s hi ha hF => ?_)
          · by_cases e : j = k
            · subst e; exact Or.inr h2
            · exact Or.inl (hD1 j ⟨hj.1, by have := hj.2.1; omega, hj.2.2⟩ hjn)
          · rcases hj with hj | hj
            · obtain ⟨a, b, c⟩ := hD2 j hj
              exact ⟨a, by omega, c⟩
            · exact h3 j hj
          · rcases hi with hi | hi
            · obtain ⟨j, hj, hjs⟩ := hS i s hi ha hF
              exact ⟨j, Or.inl hj, hjs⟩
            · obtain ⟨j, hj, hjs⟩ := h4 i s hi ha hF
              exact ⟨j, Or.inr hj, hjs⟩)
theorem c_most7 {n fr : Nat} {σ0 : am_S} (hn : n ≤ 20) (hG : ∀ k t, k < n → t ≤ 300 → σ0.1 75 (301 * k + t) = -6 ∨ 0 ≤ σ0.1 75 (301 * k + t) ∧ σ0.1 75 (301 * k + t) < 4) (hZ : ∀ c, c < 1204 → 0 ≤ σ0.1 77 c ∧ σ0.1 77 c ≤ 1) (hO : ∀ k, k < 20 → 0 ≤ σ0.1 78 k ∧ σ0.1 78 k ≤ 1) (hmany : σ0.1 71 6423 = (n : Nat)) (hfr : fr ≤ n) : Runs am_tab mX7_most [vR 70, vI fr] σ0 (QI (fun z σ' => ∃ m : Nat, z = m ∧ Eqx [76, 79, 80, 81] σ0 σ' ∧ IsMax (bx_Ad (σ0.1 75)) (bx_P (σ0.1 78) fr n) (bx_Fd (σ0.1 77)) n m)) := by
  refine Runs.of (by decide) rfl (by simp) (Nat.le_of_ble_eq_true rfl) ?_
  show AW am_tab mX7_most 0 [some (vR 70), some (vI fr), none, none] [] σ0 _
  refine AW_iconst dX7_most_0 ?_
  refine AW_istore_n (i := 2) (lv' := [_, _, _, _]) dX7_most_1 rfl (by decide) (Nat.le_of_ble_eq_true rfl) rfl ?_
  suffices hs : AW am_tab mX7_most 23 [some (vR 70), some (vI fr), some (vI (1204 : Nat)), none] [] (am_row σ0 76 1204 (fun _ => -6)) _ by
    have h9 := l_most7a hs 0 (by omega)
    rw [am_row_0] at h9
    exact h9
  refine AW_iconst dX7_most_23 ?_
  refine AW_istore_n (i := 2) (lv' := [_, _, _, _]) dX7_most_24 rfl (by decide) (Nat.le_of_ble_eq_true rfl) rfl ?_
  refine AW_iconst dX7_most_25 ?_
  refine AW_istore_n (i := 3) (lv' := [_, _, _, _]) dX7_most_26 rfl (by decide) (Nat.le_of_ble_eq_true rfl) rfl ?_
  suffices hs : AW am_tab mX7_most 47 [some (vR 70), some (vI fr), some (vI 0), some (vI (20 : Nat))] [] (am_row (am_row σ0 76 1204 (fun _ => -6)) 81 20 (fun _ => -6)) _ by
    have h9 := l_most7b hs 0 (by omega)
    rw [am_row_0] at h9
    exact h9
  refine AW_iload_n dX7_most_47 rfl ?_
  refine AW_istore_n (i := 3) (lv' := [_, _, _, _]) dX7_most_48 rfl (by decide) (Nat.le_of_ble_eq_true rfl) rfl ?_
  have hs0 : sz (fun _ => (none : Option Sl)) n = 0 := by
    rw [sz_cnt]
    have : ∀ m, cnt (fun _ => (none : Option Sl).isSome) m = 0 := by
      intro m
      induction m with
      | zero => rfl
      | succ m ih => simp only [cnt, ih]; rfl
    exact this n
  have hC0 : Con n ((am_row (am_row σ0 76 1204 (fun _ => -6)) 81 20 (fun _ => -6)).1 76) ((am_row (am_row σ0 76 1204 (fun _ => -6)) 81 20 (fun _ => -6)).1 81) (fun _ => none) := by
    refine ⟨fun k hk _ => am_row_at hk, fun k s h => ?_, fun k s h => ?_, fun x hx => Or.inl (by rw [am_row_other (by decide), am_row_at hx])⟩
    · cases h
    · cases h
  have hM0 : Mg (bx_Ad (σ0.1 75)) (bx_P (σ0.1 78) fr fr) (bx_Fd (σ0.1 77)) (fun _ => none) := by
    refine ⟨fun k s h => ?_, fun i j s h => ?_⟩
    · cases h
    · cases h
  have h9 := l_most7 (n := n) (fr := fr) (σ0 := σ0) hn hG hZ hO hmany (Q := (QI (fun z σ' => ∃ m : Nat, z = m ∧ Eqx [76, 79, 80, 81] σ0 σ' ∧ IsMax (bx_Ad (σ0.1 75)) (bx_P (σ0.1 78) fr n) (bx_Fd (σ0.1 77)) n m))) (fun σ m h1 h2 => ⟨(m : Int), rfl, m, rfl, h1, h2⟩) fr hfr (Nat.le_refl _) (am_row (am_row σ0 76 1204 (fun _ => -6)) 81 20 (fun _ => -6)) (fun _ => none) (fun _ => False) ((Eqx.rf.row (by decide)).row (by decide)) hC0 hM0 (fun j hj _ => by have := hj.1; have := hj.2.1; omega) (fun j h => h.elim) (fun k s h => h.elim)
  rw [hs0] at h9
  exact h9
end
section
/-! ===== THE PLAN of the reference ===== -/
def gA (X : Row) (w : Int) (k : Nat) (s : Sl) : Prop := okS s ∧ avX X w k s.1 4 = (s.2 : Int)
def f0 : Sl → Prop := fun _ => False
/-- m is how many can be taken, without ARM w -/
def numX (X : Row) (w : Int) (n m : Nat) : Prop := IsMax (gA X w) (Pge n 0) f0 n m
def PSat (A : Nat → Sl → Prop) (n : Nat) (pl : Nat → Option Sl) (k : Nat) : Prop := (∀ s, pl k = some s → A k s ∧ ¬ Fof pl k s ∧ Works A n k (Fof pl k) s ∧ ∀ s', A k s' → ¬ Fof pl k s' → s'.1 < s.1 → ¬ Works A n k (Fof pl k) s') ∧ (pl k = none → ∀ s, A k s → ¬ Fof pl k s → ¬ Works A n k (Fof pl k) s)
theorem PSat.congr {A : Nat → Sl → Prop} {n k : Nat} {p q : Nat → Option Sl} (h : ∀ j, j ≤ k → p j = q j) (hp : PSat A n p k) : PSat A n q k := by
  unfold PSat
  rw [← Fof_congr (p := p) (q := q) (fun j hj => h j (by omega)), ← h k (Nat.le_refl _)]
  exact hp
theorem Fof_put {pl : Nat → Option Sl} {k : Nat} {s : Sl} : Fof (put pl k s) (k + 1) = Fx (Fof pl k) s := by
  funext x
  apply propext
  constructor
  · rintro ⟨j, hj, e⟩
    by_cases hjk : j = k
    · subst hjk; rw [put_self] at e; cases e; exact Or.inr rfl
    · rw [put_ne hjk] at e; exact Or.inl ⟨j, by omega, e⟩
  · rintro (⟨j, hj, e⟩ | rfl)
    · exact ⟨j, by omega, by rw [put_ne (by omega)]; exact e⟩
    · exact ⟨k, by omega, put_self⟩
theorem Fof_none {pl : Nat → Option Sl} {k : Nat} (h : pl k = none) : Fof pl (k + 1) = Fof pl k := by
  funext x
  apply propext
  constructor
  · rintro ⟨j, hj, e⟩
    have : j ≠ k := fun z => by subst z; rw [h] at e; cases e
    exact ⟨j, by omega, e⟩
  · rintro ⟨j, hj, e⟩
    exact ⟨j, by omega, e⟩
def wbR (W B : Row) (k : Nat) (o : Option Sl) : Prop := match o with
  | none => W k = -6 ∧ B k = -6
  | some s => W k = s.1 ∧ B k = s.2
/-- rows 75, 77, 78 as the search wants them, over X -/
def Gok (X : Row) (w : Int) (n : Nat) (σ : am_S) : Prop := (∀ j t, j < n → t ≤ 300 → σ.1 75 (301 * j + t) = avX X w j t 4) ∧ (∀ j, j < 20 → 0 ≤ σ.1 78 j ∧ σ.1 78 j ≤ 1) ∧ (∀ c, c < 1204 → 0 ≤ σ.1 77 c ∧ σ.1 77 c ≤ 1) ∧ σ.1 71 6423 = (n : Nat) ∧ n ≤ 20
theorem Gok.hG {X : Row} {w : Int} {n : Nat} {σ : am_S} (h : Gok X w n σ) : ∀ k t, k < n → t ≤ 300 → σ.1 75 (301 * k + t) = -6 ∨ 0 ≤ σ.1 75 (301 * k + t) ∧ σ.1 75 (301 * k + t) < 4 := by
  intro k t hk ht
  rw [h.1 k t hk ht]
  have hlo : ∀ a, avX X w k t a = -6 ∨ 0 ≤ avX X w k t a ∧ avX X w k t a < a := by
    intro a
    induction a with
    | zero => exact Or.inl rfl
    | succ a ih => simp only [avX]; split <;> omega
  exact hlo 4
theorem Gok.most {X : Row} {w : Int} {n : Nat} {σ : am_S} (h : Gok X w n σ) {fr m : Nat} {P : Nat → Prop} {F : Sl → Prop} (hm : IsMax (bx_Ad (σ.1 75)) (bx_P (σ.1 78) fr n) (bx_Fd (σ.1 77)) n m) (hP : ∀ j, bx_P (σ.1 78) fr n j ↔ P j) (hF : ∀ s, okS s → (bx_Fd (σ.1 77) s ↔ F s)) : IsMax (gA X w) P F n m := by
  refine hm.congr (fun k s hk => ?_) hP (fun k s hk ha => hF s ha.1)
  constructor
  · rintro ⟨a, b⟩; exact ⟨a, by rw [← h.1 k s.1 hk.2.1 a.1]; exact b⟩
  · rintro ⟨a, b⟩; exact ⟨a, by rw [h.1 k s.1 hk.2.1 a.1]; exact b⟩
theorem Gok.kept {X : Row} {w : Int} {n : Nat} {σ σ' : am_S} (h : Gok X w n σ) (hE : Eqx [76, 79, 80, 81] σ σ') : Gok X w n σ' := by
  unfold Gok
  rw [hE.1 75 (by decide), hE.1 77 (by decide), hE.1 78 (by decide), hE.1 71 (by decide)]
  exact h
def clS (σ : am_S) (w : Int) : am_S := am_row (am_row (laS σ w (301 * (σ.1 71 6423).toNat)) 77 1204 (fun _ => 0)) 78 20 (fun _ => 0)
theorem clS_ok {σ : am_S} {w : Int} {n : Nat} (hmany : σ.1 71 6423 = (n : Nat)) (hn : n ≤ 20) : Gok (σ.1 71) w n (clS σ w) ∧ (∀ j, j < 20 → (clS σ w).1 78 j = 0) ∧ (∀ c, c < 1204 → (clS σ w).1 77 c = 0) ∧ Eqx [74, 75, 77, 78] σ (clS σ w) := by
  have e78 : ∀ j, j < 20 → (clS σ w).1 78 j = 0 := fun j hj => am_row_at hj
  have e77 : ∀ c, c < 1204 → (clS σ w).1 77 c = 0 := fun c hc => by
    unfold clS
    rw [am_row_other (by decide), am_row_at hc]
  refine ⟨⟨fun j t hj ht => ?_, fun j hj => by rw [e78 j hj]; decide, fun c hc => by rw [e77 c hc]; decide, ?_, hn⟩, e78, e77, ?_⟩
  · unfold clS laS
    rw [am_row_other (by decide), am_row_other (by decide), am_row_at (by rw [hmany, Int.toNat_natCast]; omega)]
    unfold armR
    rw [show (301 * j + t) / 301 = j by omega, show (301 * j + t) % 301 = t by omega]
  · unfold clS
    rw [am_row_other (by decide), am_row_other (by decide), laS_71]
    exact hmany
  · unfold clS laS
    exact (((Eqx.rf.row (by decide)).row (by decide)).row (by decide)).row (by decide)
theorem bx_P_0 {O : Row} {fr n : Nat} (hO : ∀ j, j < 20 → O j = 0) (hn : n ≤ 20) : ∀ j, bx_P O fr n j ↔ Pge n fr j := fun j => ⟨fun h => ⟨h.1, h.2.1⟩, fun h => ⟨h.1, h.2, hO j (by have := h.2; omega)⟩⟩
theorem c_mostWithout7 {σ : am_S} (hS : WS (σ.1 71)) (hT : WT (σ.1 71)) (hA : WA (σ.1 71)) {n : Nat} (hmany : σ.1 71 6423 = (n : Nat)) {w : Int} (hw : -2147483648 ≤ w ∧ w < 2147483648) : Runs am_tab mX7_mostWithout [vR 70, vI w] σ (QI (fun z σ' => ∃ m : Nat, z = m ∧ numX (σ.1 71) w n m ∧ Eqx [74, 75, 76, 77, 78, 79, 80, 81] σ σ' ∧ Gok (σ.1 71) w n σ' ∧ (∀ j, j < 20 → σ'.1 78 j = 0) ∧ ∀ c, c < 1204 → σ'.1 77 c = 0)) := by
  refine Runs.of (by decide) rfl (by simp) (Nat.le_of_ble_eq_true rfl) ?_
  show AW am_tab mX7_mostWithout 0 [some (vR 70), some (vI w)] [] σ _
  have hn : n ≤ 20 := by have := hT.1; omega
  refine AW_aload_n dX7_mostWithout_0 rfl ?_
  refine AW_iload_n dX7_mostWithout_1 rfl ?_
  refine AW_cVV1 dX7_mostWithout_2 kX7_105 (am_fit_b rfl) rfl rfl (Nat.le_of_ble_eq_true rfl) (c_layArms7 hS hT hA hw) (fun σ' hq => ?_)
  replace hq := hq.symm
  subst hq
  refine AW_aload_n dX7_mostWithout_5 rfl ?_
  refine AW_cVV0 dX7_mostWithout_6 kX7_109 (am_fit_b rfl) rfl rfl (Nat.le_of_ble_eq_true rfl) (c_clear7) (fun σ' hq => ?_)
  replace hq := hq.symm
  subst hq
  have hcl := clS_ok (w := w) hmany hn
  refine AW_aload_n dX7_mostWithout_9 rfl ?_
  refine AW_iconst dX7_mostWithout_10 ?_
  refine AW_cVI1 dX7_mostWithout_11 kX7_112 (am_fit_b rfl) rfl rfl (Nat.le_of_ble_eq_true rfl) (c_most7 (σ0 := clS σ w) (n := n) (fr := 0) hn hcl.1.hG hcl.1.2.2.1 hcl.1.2.1 hcl.1.2.2.2.1 (by omega)) (fun z σ' hq => ?_)
  obtain ⟨m, rfl, h1, h2⟩ := hq
  refine AW_iret dX7_mostWithout_14 rfl ?_
  refine ⟨_, rfl, m, rfl, hcl.1.most h2 (bx_P_0 hcl.2.1 hn) (fun s hs => ?_), (hcl.2.2.2.mono (by decide)).tr (h1.mono (by decide)), hcl.1.kept h1, by rw [h1.1 78 (by decide)]; exact hcl.2.1, by rw [h1.1 77 (by decide)]; exact hcl.2.2.1⟩
  exact ⟨fun h => h (hcl.2.2.1 _ (enc_lt hs)), fun h => h.elim⟩
def PL (X : Row) (n : Nat) (σ0 σ : am_S) (k : Nat) (pl : Nat → Option Sl) (L : Nat) : Prop :=
  Eqx [70, 74, 75, 76, 77, 78, 79, 80, 81, 82, 83] σ0 σ ∧ Gok X (-6) n σ ∧ (∀ j, j < 20 → σ.1 78 j = 0) ∧ (∀ c, c < 1204 → (σ.1 77 c = 0 ∧ ¬ Fof pl k (dec c)) ∨ (σ.1 77 c = 1 ∧ Fof pl k (dec c))) ∧ IsMax (gA X (-6)) (Pge n k) (Fof pl k) n L ∧ (∀ j, j < k → wbR (σ.1 82) (σ.1 83) j (pl j)) ∧ (∀ j, j < k → PSat (gA X (-6)) n pl j) ∧ (∀ j, k ≤ j → pl j = none) ∧ σ.1 70 13 = σ0.1 70 13
theorem PL.L_le {X : Row} {n : Nat} {σ0 σ : am_S} {k : Nat} {pl : Nat → Option Sl} {L : Nat} (h : PL X n σ0 σ k pl L) : L ≤ 20 := by
  obtain ⟨⟨g, _, hg⟩, _⟩ := h.2.2.2.2.1
  rw [← hg, sz_cnt]
  exact Nat.le_trans (cnt_le _ _) h.2.1.2.2.2.2
/-- THING k stays without: nothing works -/
theorem PL.miss {X : Row} {n : Nat} {σ0 σ : am_S} {k : Nat} {pl : Nat → Option Sl} {L : Nat} (h : PL X n σ0 σ k pl L) (hk : k < n) (hno : ∀ s, gA X (-6) k s → ¬ Fof pl k s → ¬ Works (gA X (-6)) n k (Fof pl k) s) (hw : σ.1 82 k = -6 ∧ σ.1 83 k = -6) : PL X n σ0 σ (k + 1) pl L := by
  obtain ⟨h1, h2, h3, h4, h5, h6, h7, h8, h9⟩ := h
  have hpk := h8 k (Nat.le_refl _)
  have hF := Fof_none hpk
  refine ⟨h1, h2, h3, by rw [hF]; exact h4, by rw [hF]; exact max_skip hk h5 hno, fun j hj => ?_, fun j hj => ?_, fun j hj => h8 j (by omega), h9⟩
  · by_cases e : j = k
    · subst e; rw [hpk]; exact hw
    · exact h6 j (by omega)
  · by_cases e : j = k
    · subst e
      exact ⟨fun s hs => by (rw [hpk] at hs; cases hs), fun _ => hno⟩
    · exact h7 j (by omega)
/-- THING k is taken at s -/
theorem PL.take {X : Row} {n : Nat} {σ0 σ σ' : am_S} {k : Nat} {pl : Nat → Option Sl} {L m : Nat} {s : Sl} (h : PL X n σ0 σ k pl L) (hE : Eqx [70, 74, 75, 76, 77, 78, 79, 80, 81, 82, 83] σ0 σ') (hGo : Gok X (-6) n σ') (h78 : ∀ j, j < 20 → σ'.1 78 j = 0) (h77 : ∀ c, c < 1204 → σ'.1 77 c = if c = enc s then 1 else σ.1 77 c) (hok : okS s) (hA : gA X (-6) k s) (hF : ¬ Fof pl k s) (hm : IsMax (gA X (-6)) (Pge n (k + 1)) (Fx (Fof pl k) s) n m) (hL : L = m + 1) (hbest : ∀ s', gA X (-6) k s' → ¬ Fof pl k s' → s'.1 < s.1 → ¬ Works (gA X (-6)) n k (Fof pl k) s') (hw : ∀ j, j < k → σ'.1 82 j = σ.1 82 j ∧ σ'.1 83 j = σ.1 83 j) (hwk : σ'.1 82 k = s.1 ∧ σ'.1 83 k = s.2) (h70 : σ'.1 70 13 = σ0.1 70 13) : PL X n σ0 σ' (k + 1) (put pl k s) m := by
  obtain ⟨h1, h2, h3, h4, h5, h6, h7, h8, h9⟩ := h
  have hFe := Fof_put (pl := pl) (k := k) (s := s)
  refine ⟨hE, hGo, h78, fun c hc => ?_, by rw [hFe]; exact hm, fun j hj => ?_, fun j hj => ?_, fun j hj => by rw [put_ne (by omega)]; exact h8 j (by omega), h70⟩
  · rw [h77 c hc, hFe]
    by_cases e : c = enc s
    · rw [if_pos e]
      exact Or.inr ⟨rfl, Or.inr (by rw [e, dec_enc hok])⟩
    · rw [if_neg e]
      have hne : dec c ≠ s := fun z => e (by rw [← z, enc_dec])
      rcases h4 c hc with ⟨a, b⟩ | ⟨a, b⟩
      · exact Or.inl ⟨a, fun z => z.elim b hne⟩
      · exact Or.inr ⟨a, Or.inl b⟩
  · by_cases e : j = k
    · subst e; rw [put_self]; exact hwk
    · rw [put_ne e]
      have := h6 j (by omega)
      unfold wbR at this ⊢
      rw [(hw j (by omega)).1, (hw j (by omega)).2]
      exact this
  · by_cases e : j = k
    · subst e
      have hFj : Fof (put pl j s) j = Fof pl j := Fof_congr (fun i hi => put_ne (by omega))
      unfold PSat
      rw [hFj]
      refine ⟨fun x hx => ?_, fun hx => by (rw [put_self] at hx; cases hx)⟩
      rw [put_self] at hx
      cases hx
      exact ⟨hA, hF, ⟨m, hm, hL ▸ h5⟩, hbest⟩
    · exact (h7 j (by omega)).congr (fun i hi => (put_ne (by omega)).symm)
end
section
theorem PL.move {X : Row} {n : Nat} {σ0 σ σ' : am_S} {k : Nat} {pl : Nat → Option Sl} {L : Nat} (h : PL X n σ0 σ k pl L) (hE : Eqx [70, 74, 75, 76, 77, 78, 79, 80, 81, 82, 83] σ0 σ') (hGo : Gok X (-6) n σ') (h78 : ∀ j, j < 20 → σ'.1 78 j = 0) (h77 : ∀ c, c < 1204 → σ'.1 77 c = σ.1 77 c) (hw : ∀ j, j < k → σ'.1 82 j = σ.1 82 j ∧ σ'.1 83 j = σ.1 83 j) (h70 : σ'.1 70 13 = σ0.1 70 13) : PL X n σ0 σ' k pl L := by
  obtain ⟨h1, h2, h3, h4, h5, h6, h7, h8, h9⟩ := h
  refine ⟨hE, hGo, h78, fun c hc => by rw [h77 c hc]; exact h4 c hc, h5, fun j hj => ?_, h7, h8, h70⟩
  have := h6 j hj
  unfold wbR at this ⊢
  rw [(hw j hj).1, (hw j hj).2]
  exact this
theorem gA_uni {X : Row} {w : Int} {k t a : Nat} (ha : avX X w k t 4 = (a : Int)) {s : Sl} (hs : gA X w k s) (ht : s.1 = t) : s = (t, a) := by
  obtain ⟨t2, a2⟩ := s
  have h2 : t2 = t := ht
  subst h2
  have h3 : avX X w k t2 4 = (a2 : Int) := hs.2
  have : a2 = a := by omega
  subst this
  rfl
set_option maxHeartbeats 4000000 in
theorem l_layPlan7t {X : Row} {n k L : Nat} {σ0 : am_S} {pl : Nat → Option Sl} (hk : k < n) {Q : Option am_V → am_S → Prop} (hNext : ∀ (σ : am_S) (pl2 : Nat → Option Sl) (L2 : Nat), PL X n σ0 σ (k + 1) pl2 L2 → ∀ x y : Option am_V, AW am_tab mX7_layPlan 169 [some (vR 70), some (vI (L2 : Nat)), some (vI (k : Nat)), x, y] [] σ Q) : ∀ t : Nat, t ≤ 301 → ∀ σ : am_S, PL X n σ0 σ k pl L → (σ.1 82 k = -6 ∧ σ.1 83 k = -6) → (∀ s, gA X (-6) k s → ¬ Fof pl k s → s.1 < t → ¬ Works (gA X (-6)) n k (Fof pl k) s) → ∀ x : Option am_V, AW am_tab mX7_layPlan 56 [some (vR 70), some (vI (L : Nat)), some (vI (k : Nat)), some (vI (t : Nat)), x] [] σ Q :=
  up_loop (fun t ht ih σ hPL hw6 hno x => by
    have hGo := hPL.2.1
    have hLb := hPL.L_le
    have hn := hGo.2.2.2.2
    refine AW_iload_n dX7_layPlan_56 rfl ?_
    refine AW_sipush dX7_layPlan_57 (by decide) ?_
    refine AW_icmp_ge 169 dX7_layPlan_60 (by decide) (by omega) (by omega) (fun h60 => ?_) (fun h60 => ?_)
    · refine hNext σ pl L (hPL.miss hk (fun s hs hFs => hno s hs hFs (by have := hs.1.1; omega)) hw6) _ _
    · refine AW_aload_n dX7_layPlan_63 rfl ?_
      refine AW_get dX7_layPlan_64 fX7_44 rfl rfl ?_
      refine AW_iload_n dX7_layPlan_67 rfl ?_
      refine AW_ialdN (j := k) dX7_layPlan_68 rfl (Nat.le_of_ble_eq_true rfl) (by omega) (by omega) ?_
      rw [hw6.1]
      refine AW_if_ge 169 dX7_layPlan_69 (by decide) (by decide) (fun h => absurd h (by decide)) (fun _ => ?_)
      refine AW_aload_n dX7_layPlan_72 rfl ?_
      refine AW_get dX7_layPlan_73 fX7_23 rfl rfl ?_
      refine AW_sipush dX7_layPlan_76 (by decide) ?_
      refine AW_iload_n dX7_layPlan_79 rfl ?_
      refine AW_imul dX7_layPlan_80 ?_
      refine AW_iload_n dX7_layPlan_81 rfl ?_
      refine AW_iadd dX7_layPlan_82 ?_
      refine AW_ialdN (j := 301 * k + t) dX7_layPlan_83 rfl (Nat.le_of_ble_eq_true rfl) (by omega) (by omega) ?_
      rw [hGo.1 k t hk (by omega)]
      have hgb := hGo.hG k t hk (by omega)
      rw [hGo.1 k t hk (by omega)] at hgb
      refine AW_istore (lv' := [_, _, _, _, _]) dX7_layPlan_84 (by decide) (Nat.le_of_ble_eq_true rfl) rfl ?_
      refine AW_iload dX7_layPlan_86 rfl ?_
      refine AW_if_lt 163 dX7_layPlan_88 (by decide) (by omega) (fun h88 => ?_) (fun h88 => ?_)
      · refine AW_iinc (lv' := [_, _, _, _, _]) dX7_layPlan_163 rfl (by decide) rfl ?_
        refine AW_goto (tgt := 56) dX7_layPlan_166 (by decide) ?_
        refine ih (by omega) σ hPL hw6 (fun s hs hFs hst => ?_) _
        by_cases e : s.1 < t
        · exact hno s hs hFs e
        · exfalso
          have h3 := hs.2
          rw [show s.1 = t by omega] at h3
          omega
      · obtain ⟨a, hae⟩ : ∃ a : Nat, avX X (-6) k t 4 = a := ⟨_, (Int.toNat_of_nonneg (by omega)).symm⟩
        have ha4 : a < 4 := by
          have := hGo.hG k t hk (by omega)
          rw [hGo.1 k t hk (by omega)] at this
          omega
        rw [hae]
        have hok : okS (t, a) := ⟨by dsimp only; omega, ha4⟩
        have hgA : gA X (-6) k (t, a) := ⟨hok, hae⟩
        have henc : enc (t, a) = 301 * a + t := rfl
        have hz := hPL.2.2.2.1 (301 * a + t) (by omega)
        rw [← henc, dec_enc hok, henc] at hz
        refine AW_aload_n dX7_layPlan_91 rfl ?_
        refine AW_get dX7_layPlan_92 fX7_29 rfl rfl ?_
        refine AW_iload dX7_layPlan_95 rfl ?_
        refine AW_iload_n dX7_layPlan_97 rfl ?_
        refine AW_cSI2 dX7_layPlan_98 kX7_95 (am_fit_b rfl) (Nat.le_of_ble_eq_true rfl) (c_slot7) (fun z σ' hq => ?_)
        obtain ⟨hz, hs⟩ := hq
        replace hz := hz.symm
        subst hz
        replace hs := hs.symm
        subst hs
        refine AW_zaldN (j := 301 * a + t) dX7_layPlan_101 rfl (Nat.le_of_ble_eq_true rfl) (by omega) (by omega) ?_
        have hzb := hGo.2.2.1 (301 * a + t) (by omega)
        refine AW_if_ne 163 dX7_layPlan_102 (by decide) (by omega) (fun h102 => ?_) (fun h102 => ?_)
        · refine AW_iinc (lv' := [_, _, _, _, _]) dX7_layPlan_163 rfl (by decide) rfl ?_
          refine AW_goto (tgt := 56) dX7_layPlan_166 (by decide) ?_
          refine ih (by omega) σ hPL hw6 (fun s hs hFs hst => ?_) _
          by_cases e : s.1 < t
          · exact hno s hs hFs e
          · have e2 := gA_uni hae hs (show s.1 = t by omega)
            subst e2
            rcases hz with ⟨z1, z2⟩ | ⟨z1, z2⟩
            · omega
            · exact absurd z2 hFs
        · refine AW_aload_n dX7_layPlan_105 rfl ?_
          refine AW_get dX7_layPlan_106 fX7_29 rfl rfl ?_
          refine AW_iload dX7_layPlan_109 rfl ?_
          refine AW_iload_n dX7_layPlan_111 rfl ?_
          refine AW_cSI2 dX7_layPlan_112 kX7_95 (am_fit_b rfl) (Nat.le_of_ble_eq_true rfl) (c_slot7) (fun z σ' hq => ?_)
          obtain ⟨hz, hs⟩ := hq
          replace hz := hz.symm
          subst hz
          replace hs := hs.symm
          subst hs
          refine AW_iconst dX7_layPlan_115 ?_
          refine AW_zastN (j := 301 * a + t) dX7_layPlan_116 rfl (Nat.le_of_ble_eq_true rfl) (by omega) (by omega) (by first | exact Or.inl rfl | exact Or.inr rfl) ?_
          have hz0 : σ.1 77 (301 * a + t) = 0 ∧ ¬ Fof pl k (t, a) := by
            rcases hz with z | ⟨z1, z2⟩
            · exact z
            · omega
          have r77 : (am_up σ 77 (301 * a + t) 1).1 77 = rup (σ.1 77) (301 * a + t) 1 := am_up_same
          have hGo1 : Gok X (-6) n (am_up σ 77 (301 * a + t) 1) := by
            refine ⟨by rw [am_up_other (by decide)]; exact hGo.1, by rw [am_up_other (by decide)]; exact hGo.2.1, fun c hc => ?_, by rw [am_up_other (by decide)]; exact hGo.2.2.2.1, hn⟩
            rw [r77]
            simp only [rup]
            split
            · decide
            · exact hGo.2.2.1 c hc
          have h78 : ∀ j, j < 20 → (am_up σ 77 (301 * a + t) 1).1 78 j = 0 := by rw [am_up_other (by decide)]; exact hPL.2.2.1
          have hFx : ∀ s, okS s → (bx_Fd ((am_up σ 77 (301 * a + t) 1).1 77) s ↔ Fx (Fof pl k) (t, a) s) := fun s hs => by
            unfold bx_Fd
            rw [r77]
            simp only [rup]
            by_cases e : enc s = 301 * a + t
            · have e2 : s = (t, a) := enc_inj hs hok (e.trans henc.symm)
              rw [if_pos e]
              exact ⟨fun _ => Or.inr e2, fun _ => by decide⟩
            · rw [if_neg e]
              have hne : s ≠ (t, a) := fun z => e (by rw [z]; exact henc)
              have hzs := hPL.2.2.2.1 (enc s) (enc_lt hs)
              rw [dec_enc hs] at hzs
              rcases hzs with ⟨z1, z2⟩ | ⟨z1, z2⟩
              · exact ⟨fun z => absurd z1 z, fun z => z.elim (fun y => absurd y z2) (fun y => absurd y hne)⟩
              · exact ⟨fun _ => Or.inl z2, fun _ => by omega⟩
          refine AW_iconst dX7_layPlan_117 ?_
          refine AW_aload_n dX7_layPlan_118 rfl ?_
          refine AW_iload_n dX7_layPlan_119 rfl ?_
          refine AW_iconst dX7_layPlan_120 ?_
          refine AW_iadd dX7_layPlan_121 ?_
          refine AW_cVI1 dX7_layPlan_122 kX7_112 (am_fit_b rfl) rfl rfl (Nat.le_of_ble_eq_true rfl) (c_most7 (σ0 := am_up σ 77 (301 * a + t) 1) (n := n) (fr := k + 1) hn hGo1.hG hGo1.2.2.1 hGo1.2.1 hGo1.2.2.2.1 (by omega)) (fun z σ' hq => ?_)
          obtain ⟨m, rfl, h1, h2⟩ := hq
          have hmax := hGo1.most h2 (bx_P_0 h78 hn) hFx
          have hmb : m ≤ 20 := by
            obtain ⟨⟨g, _, hg⟩, _⟩ := hmax
            rw [← hg, sz_cnt]
            exact Nat.le_trans (cnt_le _ _) hn
          have hGo2 := hGo1.kept h1
          refine AW_iadd dX7_layPlan_125 ?_
          refine AW_iload_n dX7_layPlan_126 rfl ?_
          refine AW_icmp_ne 151 dX7_layPlan_127 (by decide) (by omega) (by omega) (fun h127 => ?_) (fun h127 => ?_)
          · refine AW_aload_n dX7_layPlan_151 rfl ?_
            refine AW_get dX7_layPlan_152 fX7_29 rfl rfl ?_
            refine AW_iload dX7_layPlan_155 rfl ?_
            refine AW_iload_n dX7_layPlan_157 rfl ?_
            refine AW_cSI2 dX7_layPlan_158 kX7_95 (am_fit_b rfl) (Nat.le_of_ble_eq_true rfl) (c_slot7) (fun z σ' hq => ?_)
            obtain ⟨hz, hs⟩ := hq
            replace hz := hz.symm
            subst hz
            replace hs := hs.symm
            subst hs
            refine AW_iconst dX7_layPlan_161 ?_
            refine AW_zastN (j := 301 * a + t) dX7_layPlan_162 rfl (Nat.le_of_ble_eq_true rfl) (by omega) (by omega) (by first | exact Or.inl rfl | exact Or.inr rfl) ?_
            have r77b : (am_up σ' 77 (301 * a + t) 0).1 77 = rup (rup (σ.1 77) (301 * a + t) 1) (301 * a + t) 0 := by rw [am_up_same, h1.1 77 (by decide), r77]
            have e77 : ∀ c, (am_up σ' 77 (301 * a + t) 0).1 77 c = σ.1 77 c := fun c => by
              rw [r77b]
              simp only [rup]
              by_cases e : c = 301 * a + t
              · rw [if_pos e, e, hz0.1]
              · rw [if_neg e, if_neg e]
            have hPL2 : PL X n σ0 (am_up σ' 77 (301 * a + t) 0) k pl L := by
              refine hPL.move (((hPL.1.up (by decide)).tr (h1.mono (by decide))).up (by decide)) ?_ ?_ (fun c _ => e77 c) (fun j hj => ?_) ?_
              · refine ⟨by rw [am_up_other (by decide)]; exact hGo2.1, by rw [am_up_other (by decide)]; exact hGo2.2.1, fun c hc => by rw [e77 c]; exact hGo.2.2.1 c hc, by rw [am_up_other (by decide)]; exact hGo2.2.2.2.1, hn⟩
              · rw [am_up_other (by decide), h1.1 78 (by decide)]; exact h78
              · rw [am_up_other (by decide), am_up_other (by decide), h1.1 82 (by decide), h1.1 83 (by decide), am_up_other (by decide), am_up_other (by decide)]; exact ⟨rfl, rfl⟩
              · rw [am_up_other (by decide), h1.1 70 (by decide), am_up_other (by decide)]; exact hPL.2.2.2.2.2.2.2.2
            have hw62 : (am_up σ' 77 (301 * a + t) 0).1 82 k = -6 ∧ (am_up σ' 77 (301 * a + t) 0).1 83 k = -6 := by
              rw [am_up_other (by decide), am_up_other (by decide), h1.1 82 (by decide), h1.1 83 (by decide), am_up_other (by decide), am_up_other (by decide)]
              exact hw6
            refine AW_iinc (lv' := [_, _, _, _, _]) dX7_layPlan_163 rfl (by decide) rfl ?_
            refine AW_goto (tgt := 56) dX7_layPlan_166 (by decide) ?_
            refine ih (by omega) _ hPL2 hw62 (fun s hs hFs hst => ?_) _
            by_cases e : s.1 < t
            · exact hno s hs hFs e
            · have e2 := gA_uni hae hs (show s.1 = t by omega)
              subst e2
              rintro ⟨m2, g1, g2⟩
              have u1 := hmax.uniq g1
              have u2 := hPL.2.2.2.2.1.uniq g2
              omega
          · refine AW_aload_n dX7_layPlan_130 rfl ?_
            refine AW_get dX7_layPlan_131 fX7_44 rfl rfl ?_
            refine AW_iload_n dX7_layPlan_134 rfl ?_
            refine AW_iload_n dX7_layPlan_135 rfl ?_
            refine AW_iastN (j := k) dX7_layPlan_136 rfl (Nat.le_of_ble_eq_true rfl) (by omega) (by omega) ?_
            refine AW_aload_n dX7_layPlan_137 rfl ?_
            refine AW_get dX7_layPlan_138 fX7_47 rfl rfl ?_
            refine AW_iload_n dX7_layPlan_141 rfl ?_
            refine AW_iload dX7_layPlan_142 rfl ?_
            refine AW_iastN (j := k) dX7_layPlan_144 rfl (Nat.le_of_ble_eq_true rfl) (by omega) (by omega) ?_
            refine AW_iinc (lv' := [_, _, _, _, _]) dX7_layPlan_145 rfl (by decide) rfl ?_
            refine AW_goto (tgt := 163) dX7_layPlan_148 (by decide) ?_
            have hE3 : Eqx [70, 74, 75, 76, 77, 78, 79, 80, 81, 82, 83] σ0 (am_up (am_up σ' 82 k t) 83 k a) := ((((hPL.1.up (by decide)).tr (h1.mono (by decide))).up (by decide)).up (by decide))
            have r82 : (am_up (am_up σ' 82 k t) 83 k a).1 82 = rup (σ.1 82) k t := by rw [am_up_other (by decide), am_up_same, h1.1 82 (by decide), am_up_other (by decide)]
            have r83 : (am_up (am_up σ' 82 k t) 83 k a).1 83 = rup (σ.1 83) k a := by rw [am_up_same, am_up_other (by decide), h1.1 83 (by decide), am_up_other (by decide)]
            have r77b : (am_up (am_up σ' 82 k t) 83 k a).1 77 = rup (σ.1 77) (301 * a + t) 1 := by rw [am_up_other (by decide), am_up_other (by decide), h1.1 77 (by decide), r77]
            have hPL2 : PL X n σ0 (am_up (am_up σ' 82 k t) 83 k a) (k + 1) (put pl k (t, a)) m := by
              refine hPL.take hE3 ?_ ?_ (fun c hc => by rw [r77b]; rfl) hok hgA hz0.2 hmax (by omega) hno (fun j hj => ?_) ?_ ?_
              · unfold Gok
                rw [am_up_other (by decide), am_up_other (by decide), am_up_other (by decide), am_up_other (by decide), am_up_other (by decide), am_up_other (by decide), am_up_other (by decide), am_up_other (by decide)]
                exact hGo2
              · rw [am_up_other (by decide), am_up_other (by decide), h1.1 78 (by decide)]
                exact h78
              · rw [r82, r83]
                simp only [rup]
                rw [if_neg (by omega), if_neg (by omega)]
                exact ⟨rfl, rfl⟩
              · rw [r82, r83]
                simp only [rup, if_true]
                exact ⟨trivial, trivial⟩
              · rw [am_up_other (by decide), am_up_other (by decide), h1.1 70 (by decide), am_up_other (by decide)]
                exact hPL.2.2.2.2.2.2.2.2
            rw [show ((L : Nat) : Int) + (-1) = ((m : Nat) : Int) by omega]
            refine AW_iinc (lv' := [_, _, _, _, _]) dX7_layPlan_163 rfl (by decide) rfl ?_
            refine AW_goto (tgt := 56) dX7_layPlan_166 (by decide) ?_
            refine AW_iload_n dX7_layPlan_56 rfl ?_
            refine AW_sipush dX7_layPlan_57 (by decide) ?_
            refine AW_icmp_ge 169 dX7_layPlan_60 (by decide) (by omega) (by omega) (fun h60 => ?_) (fun h60 => ?_)
            · exact hNext _ _ _ hPL2 _ _
            · refine AW_aload_n dX7_layPlan_63 rfl ?_
              refine AW_get dX7_layPlan_64 fX7_44 rfl rfl ?_
              refine AW_iload_n dX7_layPlan_67 rfl ?_
              refine AW_ialdN (j := k) dX7_layPlan_68 rfl (Nat.le_of_ble_eq_true rfl) (by omega) (by omega) ?_
              rw [r82, show rup (σ.1 82) k (t : Int) k = (t : Int) from if_pos rfl]
              refine AW_if_ge 169 dX7_layPlan_69 (by decide) (by omega) (fun _ => ?_) (fun h => absurd (by omega) h)
              exact hNext _ _ _ hPL2 _ _)
theorem l_layPlan7k {X : Row} {n : Nat} {σ0 : am_S} {Q : Option am_V → am_S → Prop} (hQ : ∀ (σ : am_S) (pl : Nat → Option Sl) (L : Nat), PL X n σ0 σ n pl L → Q none σ) : ∀ k : Nat, k ≤ n → ∀ (σ : am_S) (pl : Nat → Option Sl) (L : Nat), PL X n σ0 σ k pl L → ∀ x y : Option am_V, AW am_tab mX7_layPlan 26 [some (vR 70), some (vI (L : Nat)), some (vI (k : Nat)), x, y] [] σ Q :=
  up_loop (fun k hk0 ih σ pl L hPL x y => by
    have hn := hPL.2.1.2.2.2.2
    refine AW_iload_n dX7_layPlan_26 rfl ?_
    refine AW_aload_n dX7_layPlan_27 rfl ?_
    refine AW_get dX7_layPlan_28 fX7_7 rfl rfl ?_
    refine AW_sipush dX7_layPlan_31 (by decide) ?_
    refine AW_ialdN (j := 6423) dX7_layPlan_34 rfl (Nat.le_of_ble_eq_true rfl) (by omega) (by omega) ?_
    rw [hPL.2.1.2.2.2.1]
    refine AW_icmp_ge 175 dX7_layPlan_35 (by decide) (by omega) (by omega) (fun h35 => ?_) (fun h35 => ?_)
    · have e : k = n := by omega
      subst e
      refine AW_vret dX7_layPlan_175 rfl ?_
      exact hQ σ pl L hPL
    · refine AW_aload_n dX7_layPlan_38 rfl ?_
      refine AW_get dX7_layPlan_39 fX7_44 rfl rfl ?_
      refine AW_iload_n dX7_layPlan_42 rfl ?_
      refine AW_bipush dX7_layPlan_43 (by decide) ?_
      refine AW_iastN (j := k) dX7_layPlan_45 rfl (Nat.le_of_ble_eq_true rfl) (by omega) (by omega) ?_
      refine AW_aload_n dX7_layPlan_46 rfl ?_
      refine AW_get dX7_layPlan_47 fX7_47 rfl rfl ?_
      refine AW_iload_n dX7_layPlan_50 rfl ?_
      refine AW_bipush dX7_layPlan_51 (by decide) ?_
      refine AW_iastN (j := k) dX7_layPlan_53 rfl (Nat.le_of_ble_eq_true rfl) (by omega) (by omega) ?_
      refine AW_iconst dX7_layPlan_54 ?_
      refine AW_istore_n (i := 3) (lv' := [_, _, _, _, _]) dX7_layPlan_55 rfl (by decide) (Nat.le_of_ble_eq_true rfl) rfl ?_
      have hPL2 : PL X n σ0 (am_up (am_up σ 82 k (-6)) 83 k (-6)) k pl L := by
        refine hPL.move ((hPL.1.up (by decide)).up (by decide)) ?_ ?_ (fun c _ => by rw [am_up_other (by decide), am_up_other (by decide)]) (fun j hj => ?_) ?_
        · unfold Gok
          rw [am_up_other (by decide), am_up_other (by decide), am_up_other (by decide), am_up_other (by decide), am_up_other (by decide), am_up_other (by decide), am_up_other (by decide), am_up_other (by decide)]
          exact hPL.2.1
        · rw [am_up_other (by decide), am_up_other (by decide)]; exact hPL.2.2.1
        · rw [am_up_other (a := 83) (a' := 82) (by decide), am_up_same, am_up_same, am_up_other (by decide)]
          simp only [rup]
          rw [if_neg (by omega), if_neg (by omega)]
          exact ⟨rfl, rfl⟩
        · rw [am_up_other (by decide), am_up_other (by decide)]; exact hPL.2.2.2.2.2.2.2.2
      refine l_layPlan7t (by omega) (fun σ2 pl2 L2 hP2 x2 y2 => ?_) 0 (by omega) _ hPL2 ⟨by rw [am_up_other (by decide), am_up_same]; exact if_pos rfl, by rw [am_up_same]; exact if_pos rfl⟩ (fun s _ _ h => absurd h (by omega)) _
      refine AW_iinc (lv' := [_, _, _, _, _]) dX7_layPlan_169 rfl (by decide) rfl ?_
      refine AW_goto (tgt := 26) dX7_layPlan_172 (by decide) ?_
      exact ih (by omega) σ2 pl2 L2 hP2 _ _)
/-- what layPlan leaves: THE PLAN in rows 82, 83, how many in field 13 -/
def PlanIs (X : Row) (n : Nat) (σ : am_S) (pl : Nat → Option Sl) : Prop := PlanSpec (gA X (-6)) n pl ∧ (∀ k, k < n → wbR (σ.1 82) (σ.1 83) k (pl k)) ∧ ∃ m : Nat, σ.1 70 13 = m ∧ numX X (-6) n m
theorem c_layPlan7 {σ : am_S} (hS : WS (σ.1 71)) (hT : WT (σ.1 71)) (hA : WA (σ.1 71)) {n : Nat} (hmany : σ.1 71 6423 = (n : Nat)) : Runs am_tab mX7_layPlan [vR 70] σ (QV (fun σ' => Eqx [70, 74, 75, 76, 77, 78, 79, 80, 81, 82, 83] σ σ' ∧ ∃ pl, PlanIs (σ.1 71) n σ' pl)) := by
  refine Runs.of (by decide) rfl (by simp) (Nat.le_of_ble_eq_true rfl) ?_
  show AW am_tab mX7_layPlan 0 [some (vR 70), none, none, none, none] [] σ _
  have hn : n ≤ 20 := by have := hT.1; omega
  refine AW_aload_n dX7_layPlan_0 rfl ?_
  refine AW_bipush dX7_layPlan_1 (by decide) ?_
  refine AW_cVV1 dX7_layPlan_3 kX7_105 (am_fit_b rfl) rfl rfl (Nat.le_of_ble_eq_true rfl) (c_layArms7 hS hT hA (by omega)) (fun σ' hq => ?_)
  replace hq := hq.symm
  subst hq
  refine AW_aload_n dX7_layPlan_6 rfl ?_
  refine AW_cVV0 dX7_layPlan_7 kX7_109 (am_fit_b rfl) rfl rfl (Nat.le_of_ble_eq_true rfl) (c_clear7) (fun σ' hq => ?_)
  replace hq := hq.symm
  subst hq
  have hcl := clS_ok (w := -6) hmany hn
  refine AW_aload_n dX7_layPlan_10 rfl ?_
  refine AW_aload_n dX7_layPlan_11 rfl ?_
  refine AW_iconst dX7_layPlan_12 ?_
  refine AW_cVI1 dX7_layPlan_13 kX7_112 (am_fit_b rfl) rfl rfl (Nat.le_of_ble_eq_true rfl) (c_most7 (σ0 := clS σ (-6)) (n := n) (fr := 0) hn hcl.1.hG hcl.1.2.2.1 hcl.1.2.1 hcl.1.2.2.2.1 (by omega)) (fun z σ' hq => ?_)
  obtain ⟨m, rfl, h1, h2⟩ := hq
  have hmax := hcl.1.most (F := f0) h2 (bx_P_0 hcl.2.1 hn) (fun s hs => ⟨fun h => h (hcl.2.2.1 _ (enc_lt hs)), fun h => h.elim⟩)
  refine AW_put dX7_layPlan_16 pX7_115 rfl rfl rfl rfl ?_
  refine AW_aload_n dX7_layPlan_19 rfl ?_
  refine AW_get dX7_layPlan_20 fX7_115 rfl rfl ?_
  refine AW_istore_n (i := 1) (lv' := [_, _, _, _, _]) dX7_layPlan_23 rfl (by decide) (Nat.le_of_ble_eq_true rfl) rfl ?_
  refine AW_iconst dX7_layPlan_24 ?_
  refine AW_istore_n (i := 2) (lv' := [_, _, _, _, _]) dX7_layPlan_25 rfl (by decide) (Nat.le_of_ble_eq_true rfl) rfl ?_
  have e13 : (am_up σ' 70 13 m).1 70 13 = m := by rw [am_up_same]; exact if_pos rfl
  rw [e13]
  have hE2 : Eqx [70, 74, 75, 76, 77, 78, 79, 80, 81, 82, 83] (am_up σ' 70 13 m) (am_up σ' 70 13 m) := Eqx.rf
  have hF0 : Fof (fun _ => (none : Option Sl)) 0 = f0 := by
    funext x
    apply propext
    exact ⟨fun ⟨j, hj, _⟩ => absurd hj (by omega), fun h => h.elim⟩
  have hPL : PL (σ.1 71) n (am_up σ' 70 13 m) (am_up σ' 70 13 m) 0 (fun _ => none) m := by
    refine ⟨hE2, ?_, ?_, fun c hc => Or.inl ⟨?_, fun ⟨j, hj, _⟩ => by omega⟩, by rw [hF0]; exact hmax, fun j hj => by omega, fun j hj => by omega, fun _ _ => rfl, rfl⟩
    · unfold Gok
      rw [am_up_other (by decide), am_up_other (by decide), am_up_other (by decide), am_up_other (by decide)]
      exact hcl.1.kept h1
    · rw [am_up_other (by decide), h1.1 78 (by decide)]; exact hcl.2.1
    · rw [am_up_other (by decide), h1.1 77 (by decide)]; exact hcl.2.2.1 c hc
  refine l_layPlan7k (fun σ2 pl L hP => ⟨rfl, ?_, pl, ?_⟩) 0 (by omega) _ _ _ hPL _ _
  · exact (((hcl.2.2.2.mono (by decide)).tr (h1.mono (by decide))).up (by decide)).tr hP.1
  · exact ⟨fun k hk => hP.2.2.2.2.2.2.1 k hk, hP.2.2.2.2.2.1, m, by rw [hP.2.2.2.2.2.2.2.2, e13], hmax⟩
end
section
theorem i32_shl1 : ∀ k : Fin 20, Int32.ofInt 1 <<< (Int32.ofInt (k.val : Int) &&& 31) = Int32.ofInt ((2 ^ k.val : Nat) : Int) := by decide
theorem i32_ofNat {n : Nat} : Int32.ofInt (n : Int) = Int32.ofNat n := Int32.ofInt_eq_ofNat
theorem nat_or_pow {x k : Nat} (hx : x < 2 ^ k) : x ||| 2 ^ k = x + 2 ^ k := by
  have h := Nat.two_pow_add_eq_or_of_lt hx 1
  rw [Nat.mul_one] at h
  rw [Nat.or_comm, ← h, Nat.add_comm]
theorem i32_or_pow {x k : Nat} (hx : x < 2 ^ k) (hk : k < 20) : Int32.ofInt (x : Int) ||| Int32.ofInt ((2 ^ k : Nat) : Int) = Int32.ofInt ((x + 2 ^ k : Nat) : Int) := by
  rw [i32_ofNat, i32_ofNat, i32_ofNat, ← nat_or_pow hx]
  apply Int32.toBitVec.inj
  apply BitVec.eq_of_toNat_eq
  have h2 : 2 ^ k < 2 ^ 20 := Nat.pow_lt_pow_right (by decide) hk
  have h3 : x ||| 2 ^ k < 2 ^ 32 := by rw [nat_or_pow hx]; omega
  show (BitVec.ofNat 32 x ||| BitVec.ofNat 32 (2 ^ k)).toNat = (BitVec.ofNat 32 (x ||| 2 ^ k)).toNat
  rw [BitVec.toNat_or, BitVec.toNat_ofNat, BitVec.toNat_ofNat, BitVec.toNat_ofNat, Nat.mod_eq_of_lt (by omega), Nat.mod_eq_of_lt (by omega), Nat.mod_eq_of_lt h3]
theorem i32_or_0 {x : Nat} : Int32.ofInt (x : Int) ||| Int32.ofInt 0 = Int32.ofInt (x : Int) := by
  rw [← i32_zero]
  exact Int32.or_zero
/-- a set as a number -/
def bset (p : Nat → Bool) : Nat → Nat
  | 0 => 0
  | k + 1 => bset p k + (if p k = true then 2 ^ k else 0)
theorem bset_lt (p : Nat → Bool) : ∀ k, bset p k < 2 ^ k := by
  intro k
  induction k with
  | zero => exact Nat.zero_lt_one
  | succ k ih => simp only [bset, Nat.pow_succ]; split <;> omega
theorem bset_small (p : Nat → Bool) {k : Nat} (hk : k ≤ 20) : bset p k < 1048576 := Nat.lt_of_lt_of_le (bset_lt p k) (Nat.pow_le_pow_right (by decide) hk)
def pTick (pl : Nat → Option Sl) (k : Nat) : Int := match pl k with
  | none => -6
  | some s => s.1
def pArm (pl : Nat → Option Sl) (k : Nat) : Int := match pl k with
  | none => -6
  | some s => s.2
theorem wbR_at {W B : Row} {k : Nat} {pl : Nat → Option Sl} (h : wbR W B k (pl k)) : W k = pTick pl k ∧ B k = pArm pl k := by
  unfold pTick pArm
  cases hp : pl k with
  | none => rw [hp] at h; exact h
  | some s => rw [hp] at h; exact h
theorem PlanSpec.b {X : Row} {w : Int} {n : Nat} {pl : Nat → Option Sl} (h : PlanSpec (gA X w) n pl) {k : Nat} (hk : k < n) : (pTick pl k = -6 ∧ pArm pl k = -6) ∨ ((0 ≤ pTick pl k ∧ pTick pl k ≤ 300) ∧ 0 ≤ pArm pl k ∧ pArm pl k ≤ 3) := by
  unfold pTick pArm
  cases hp : pl k with
  | none => exact Or.inl ⟨rfl, rfl⟩
  | some s =>
    have := ((h k hk).1 s hp).1.1
    exact Or.inr ⟨⟨by dsimp only; omega, by have := this.1; dsimp only; omega⟩, by dsimp only; omega, by have := this.2; dsimp only; omega⟩
theorem PlanSpec.inj {A : Nat → Sl → Prop} {n : Nat} {pl : Nat → Option Sl} (h : PlanSpec A n pl) {i j : Nat} {s : Sl} (hi : i < n) (hj : j < n) (h1 : pl i = some s) (h2 : pl j = some s) : i = j := by
  rcases Nat.lt_trichotomy i j with c | c | c
  · exact absurd ⟨i, c, h1⟩ ((h j hj).1 s h2).2.1
  · exact c
  · exact absurd ⟨j, c, h2⟩ ((h i hi).1 s h1).2.1
def byN (pl : Nat → Option Sl) (arm : Int) : Nat → Int
  | 0 => 0
  | k + 1 => byN pl arm k + (if pArm pl k = arm then 1 else 0)
theorem byN_b {pl : Nat → Option Sl} {arm : Int} : ∀ k, 0 ≤ byN pl arm k ∧ byN pl arm k ≤ k := by
  intro k
  induction k with
  | zero => simp [byN]
  | succ k ih => simp only [byN]; split <;> omega
def takesN (pl : Nat → Option Sl) (arm tick : Int) : Nat → Int
  | 0 => -6
  | k + 1 => if pTick pl k = tick ∧ pArm pl k = arm then (k : Int) else takesN pl arm tick k
theorem takesN_b {pl : Nat → Option Sl} {arm tick : Int} : ∀ k, -6 ≤ takesN pl arm tick k ∧ (takesN pl arm tick k < k ∨ takesN pl arm tick k = -6) := by
  intro k
  induction k with
  | zero => simp [takesN]
  | succ k ih => simp only [takesN]; split <;> omega
def lastN (pl : Nat → Option Sl) : Nat → Int
  | 0 => -6
  | k + 1 => if lastN pl k < pTick pl k then pTick pl k else lastN pl k
def missB (pl : Nat → Option Sl) (k : Nat) : Bool := (pl k).isNone
theorem missB_t {pl : Nat → Option Sl} {k : Nat} : missB pl k = true ↔ pTick pl k < 0 := by
  unfold missB pTick
  cases pl k with
  | none => simp
  | some s => simp only [Option.isNone_some, Bool.false_eq_true, false_iff]; omega
theorem l_takenBy7 {X : Row} {n : Nat} {pl : Nat → Option Sl} {σ : am_S} (hP : PlanSpec (gA X (-6)) n pl) (hR : ∀ k, k < n → wbR (σ.1 82) (σ.1 83) k (pl k)) (hmany : σ.1 71 6423 = (n : Nat)) (hn : n ≤ 20) {arm : Int} (harm : -2147483648 ≤ arm ∧ arm < 2147483648) {Q : Option am_V → am_S → Prop} (hQ : Q (some (vI (byN pl arm n))) σ) : ∀ i : Nat, i ≤ n → AW am_tab mX7_takenBy 8 [some (vR 70), some (vI arm), some (vI (byN pl arm i)), some (vI i)] [] σ Q :=
  up_loop (fun i hi ih => by
    have hbn := byN_b (pl := pl) (arm := arm) i
    refine AW_iload_n dX7_takenBy_8 rfl ?_
    refine AW_aload_n dX7_takenBy_9 rfl ?_
    refine AW_get dX7_takenBy_10 fX7_7 rfl rfl ?_
    refine AW_sipush dX7_takenBy_13 (by decide) ?_
    refine AW_ialdN (j := 6423) dX7_takenBy_16 rfl (Nat.le_of_ble_eq_true rfl) (by omega) (by omega) ?_
    rw [hmany]
    refine AW_icmp_ge 44 dX7_takenBy_17 (by decide) (by omega) (by omega) (fun h17 => ?_) (fun h17 => ?_)
    · refine AW_iload_n dX7_takenBy_44 rfl ?_
      refine AW_iret dX7_takenBy_45 rfl ?_
      have e : i = n := by omega
      subst e
      exact hQ
    · refine AW_iload_n dX7_takenBy_20 rfl ?_
      refine AW_aload_n dX7_takenBy_21 rfl ?_
      refine AW_get dX7_takenBy_22 fX7_47 rfl rfl ?_
      refine AW_iload_n dX7_takenBy_25 rfl ?_
      refine AW_ialdN (j := i) dX7_takenBy_26 rfl (Nat.le_of_ble_eq_true rfl) (by omega) (by omega) ?_
      have hb := hP.b (k := i) (by omega)
      have hri := wbR_at (hR i (by omega))
      rw [hri.2]
      refine AW_iload_n dX7_takenBy_27 rfl ?_
      refine AW_icmp_ne 35 dX7_takenBy_28 (by decide) (by omega) (by omega) (fun h28 => ?_) (fun h28 => ?_)
      · refine AW_iconst dX7_takenBy_35 ?_
        refine AW_iadd dX7_takenBy_36 ?_
        refine AW_istore_n (i := 2) (lv' := [_, _, _, _]) dX7_takenBy_37 rfl (by decide) (Nat.le_of_ble_eq_true rfl) rfl ?_
        refine AW_iinc (lv' := [_, _, _, _]) dX7_takenBy_38 rfl (by decide) rfl ?_
        refine AW_goto (tgt := 8) dX7_takenBy_41 (by decide) ?_
        have e : byN pl arm (i + 1) = byN pl arm i + (if pArm pl i = arm then 1 else 0) := rfl
        first
        | rw [if_pos (by omega)] at e
        | rw [if_neg (by omega)] at e
        rw [← e]
        exact ih (by omega)
      · refine AW_iconst dX7_takenBy_31 ?_
        refine AW_goto (tgt := 36) dX7_takenBy_32 (by decide) ?_
        refine AW_iadd dX7_takenBy_36 ?_
        refine AW_istore_n (i := 2) (lv' := [_, _, _, _]) dX7_takenBy_37 rfl (by decide) (Nat.le_of_ble_eq_true rfl) rfl ?_
        refine AW_iinc (lv' := [_, _, _, _]) dX7_takenBy_38 rfl (by decide) rfl ?_
        refine AW_goto (tgt := 8) dX7_takenBy_41 (by decide) ?_
        have e : byN pl arm (i + 1) = byN pl arm i + (if pArm pl i = arm then 1 else 0) := rfl
        first
        | rw [if_pos (by omega)] at e
        | rw [if_neg (by omega)] at e
        rw [← e]
        exact ih (by omega))
theorem c_takenBy7 {σ : am_S} (hS : WS (σ.1 71)) (hT : WT (σ.1 71)) (hA : WA (σ.1 71)) {n : Nat} (hmany : σ.1 71 6423 = (n : Nat)) {arm : Int} (harm : -2147483648 ≤ arm ∧ arm < 2147483648) : Runs am_tab mX7_takenBy [vR 70, vI arm] σ (QI (fun z σ' => Eqx [70, 74, 75, 76, 77, 78, 79, 80, 81, 82, 83] σ σ' ∧ ∃ pl, PlanIs (σ.1 71) n σ' pl ∧ z = byN pl arm n)) := by
  refine Runs.of (by decide) rfl (by simp) (Nat.le_of_ble_eq_true rfl) ?_
  show AW am_tab mX7_takenBy 0 [some (vR 70), some (vI arm), none, none] [] σ _
  refine AW_aload_n dX7_takenBy_0 rfl ?_
  refine AW_cVV0 dX7_takenBy_1 kX7_119 (am_fit_b rfl) rfl rfl (Nat.le_of_ble_eq_true rfl) (c_layPlan7 hS hT hA hmany) (fun σ' hq => ?_)
  obtain ⟨hE, pl, hPl⟩ := hq
  have hm2 : σ'.1 71 6423 = (n : Nat) := by rw [hE.1 71 (by decide)]; exact hmany
  have hn : n ≤ 20 := by have := hT.1; omega
  refine AW_iconst dX7_takenBy_4 ?_
  refine AW_istore_n (i := 2) (lv' := [_, _, _, _]) dX7_takenBy_5 rfl (by decide) (Nat.le_of_ble_eq_true rfl) rfl ?_
  refine AW_iconst dX7_takenBy_6 ?_
  refine AW_istore_n (i := 3) (lv' := [_, _, _, _]) dX7_takenBy_7 rfl (by decide) (Nat.le_of_ble_eq_true rfl) rfl ?_
  exact l_takenBy7 hPl.1 hPl.2.1 hm2 hn harm ⟨_, rfl, hE, pl, hPl, rfl⟩ 0 (by omega)
theorem l_takes7 {X : Row} {n : Nat} {pl : Nat → Option Sl} {σ : am_S} (hP : PlanSpec (gA X (-6)) n pl) (hR : ∀ k, k < n → wbR (σ.1 82) (σ.1 83) k (pl k)) (hmany : σ.1 71 6423 = (n : Nat)) (hn : n ≤ 20) {arm tick : Int} (harm : -2147483648 ≤ arm ∧ arm < 2147483648) (htick : -2147483648 ≤ tick ∧ tick < 2147483648) {Q : Option am_V → am_S → Prop} (hQ : Q (some (vI (takesN pl arm tick n))) σ) : ∀ i : Nat, i ≤ n → AW am_tab mX7_takes 29 [some (vR 70), some (vI arm), some (vI tick), some (vI (takesN pl arm tick i)), some (vI i)] [] σ Q :=
  up_loop (fun i hi ih => by
    have hbn := takesN_b (pl := pl) (arm := arm) (tick := tick) i
    refine AW_iload dX7_takes_29 rfl ?_
    refine AW_aload_n dX7_takes_31 rfl ?_
    refine AW_get dX7_takes_32 fX7_7 rfl rfl ?_
    refine AW_sipush dX7_takes_35 (by decide) ?_
    refine AW_ialdN (j := 6423) dX7_takes_38 rfl (Nat.le_of_ble_eq_true rfl) (by omega) (by omega) ?_
    rw [hmany]
    refine AW_icmp_ge 77 dX7_takes_39 (by decide) (by omega) (by omega) (fun h39 => ?_) (fun h39 => ?_)
    · refine AW_iload_n dX7_takes_77 rfl ?_
      refine AW_iret dX7_takes_78 rfl ?_
      have e : i = n := by omega
      subst e
      exact hQ
    · refine AW_aload_n dX7_takes_42 rfl ?_
      refine AW_get dX7_takes_43 fX7_44 rfl rfl ?_
      refine AW_iload dX7_takes_46 rfl ?_
      refine AW_ialdN (j := i) dX7_takes_48 rfl (Nat.le_of_ble_eq_true rfl) (by omega) (by omega) ?_
      have hb := hP.b (k := i) (by omega)
      have hri := wbR_at (hR i (by omega))
      rw [hri.1]
      refine AW_iload_n dX7_takes_49 rfl ?_
      refine AW_icmp_ne 69 dX7_takes_50 (by decide) (by omega) (by omega) (fun h50 => ?_) (fun h50 => ?_)
      · refine AW_iload_n dX7_takes_69 rfl ?_
        refine AW_istore_n (i := 3) (lv' := [_, _, _, _, _]) dX7_takes_70 rfl (by decide) (Nat.le_of_ble_eq_true rfl) rfl ?_
        refine AW_iinc (lv' := [_, _, _, _, _]) dX7_takes_71 rfl (by decide) rfl ?_
        refine AW_goto (tgt := 29) dX7_takes_74 (by decide) ?_
        have e : takesN pl arm tick (i + 1) = if pTick pl i = tick ∧ pArm pl i = arm then (i : Int) else takesN pl arm tick i := rfl
        have h9 := ih (by omega)
        first
        | (rw [if_pos (by omega)] at e; rw [e] at h9; exact h9)
        | (rw [if_neg (by omega)] at e; rw [e] at h9; exact h9)
      · refine AW_aload_n dX7_takes_53 rfl ?_
        refine AW_get dX7_takes_54 fX7_47 rfl rfl ?_
        refine AW_iload dX7_takes_57 rfl ?_
        refine AW_ialdN (j := i) dX7_takes_59 rfl (Nat.le_of_ble_eq_true rfl) (by omega) (by omega) ?_
        rw [hri.2]
        refine AW_iload_n dX7_takes_60 rfl ?_
        refine AW_icmp_ne 69 dX7_takes_61 (by decide) (by omega) (by omega) (fun h61 => ?_) (fun h61 => ?_)
        · refine AW_iload_n dX7_takes_69 rfl ?_
          refine AW_istore_n (i := 3) (lv' := [_, _, _, _, _]) dX7_takes_70 rfl (by decide) (Nat.le_of_ble_eq_true rfl) rfl ?_
          refine AW_iinc (lv' := [_, _, _, _, _]) dX7_takes_71 rfl (by decide) rfl ?_
          refine AW_goto (tgt := 29) dX7_takes_74 (by decide) ?_
          have e : takesN pl arm tick (i + 1) = if pTick pl i = tick ∧ pArm pl i = arm then (i : Int) else takesN pl arm tick i := rfl
          have h9 := ih (by omega)
          first
          | (rw [if_pos (by omega)] at e; rw [e] at h9; exact h9)
          | (rw [if_neg (by omega)] at e; rw [e] at h9; exact h9)
        · refine AW_iload dX7_takes_64 rfl ?_
          refine AW_goto (tgt := 70) dX7_takes_66 (by decide) ?_
          refine AW_istore_n (i := 3) (lv' := [_, _, _, _, _]) dX7_takes_70 rfl (by decide) (Nat.le_of_ble_eq_true rfl) rfl ?_
          refine AW_iinc (lv' := [_, _, _, _, _]) dX7_takes_71 rfl (by decide) rfl ?_
          refine AW_goto (tgt := 29) dX7_takes_74 (by decide) ?_
          have e : takesN pl arm tick (i + 1) = if pTick pl i = tick ∧ pArm pl i = arm then (i : Int) else takesN pl arm tick i := rfl
          have h9 := ih (by omega)
          first
          | (rw [if_pos (by omega)] at e; rw [e] at h9; exact h9)
          | (rw [if_neg (by omega)] at e; rw [e] at h9; exact h9))
theorem c_takes7 {σ : am_S} (hS : WS (σ.1 71)) (hT : WT (σ.1 71)) (hA : WA (σ.1 71)) {n : Nat} (hmany : σ.1 71 6423 = (n : Nat)) {arm tick : Int} (harm : -2147483648 ≤ arm ∧ arm < 2147483648) (htick : -2147483648 ≤ tick ∧ tick < 2147483648) : Runs am_tab mX7_takes [vR 70, vI arm, vI tick] σ (QI (fun z σ' => if 0 ≤ arm ∧ arm ≤ 3 then (if 0 ≤ tick ∧ tick ≤ 300 then Eqx [70, 74, 75, 76, 77, 78, 79, 80, 81, 82, 83] σ σ' ∧ ∃ pl, PlanIs (σ.1 71) n σ' pl ∧ z = takesN pl arm tick n else z = -2 ∧ σ' = σ) else z = -1 ∧ σ' = σ)) := by
  refine Runs.of (by decide) rfl (by simp) (Nat.le_of_ble_eq_true rfl) ?_
  show AW am_tab mX7_takes 0 [some (vR 70), some (vI arm), some (vI tick), none, none] [] σ _
  refine AW_iload_n dX7_takes_0 rfl ?_
  refine AW_cSI1 dX7_takes_1 kX7_89 (am_fit_b rfl) (Nat.le_of_ble_eq_true rfl) (c_isArm7 harm) (fun z σ' hq => ?_)
  obtain ⟨rfl, ⟨rfl, h1⟩ | ⟨rfl, h1⟩⟩ := hq
  · refine AW_if_ne 9 dX7_takes_4 (by decide) (by decide) (fun _ => ?_) (fun h => absurd (by decide) h)
    refine AW_iload_n dX7_takes_9 rfl ?_
    refine AW_cSI1 dX7_takes_10 kX7_60 (am_fit_b rfl) (Nat.le_of_ble_eq_true rfl) (c_isTick7 htick) (fun z σ' hq => ?_)
    obtain ⟨rfl, ⟨rfl, h10⟩ | ⟨rfl, h10⟩⟩ := hq
    · refine AW_if_ne 19 dX7_takes_13 (by decide) (by decide) (fun _ => ?_) (fun h => absurd (by decide) h)
      refine AW_aload_n dX7_takes_19 rfl ?_
      refine AW_cVV0 dX7_takes_20 kX7_119 (am_fit_b rfl) rfl rfl (Nat.le_of_ble_eq_true rfl) (c_layPlan7 hS hT hA hmany) (fun σ' hq => ?_)
      obtain ⟨hE, pl, hPl⟩ := hq
      have hm2 : σ'.1 71 6423 = (n : Nat) := by rw [hE.1 71 (by decide)]; exact hmany
      have hn : n ≤ 20 := by have := hT.1; omega
      refine AW_bipush dX7_takes_23 (by decide) ?_
      refine AW_istore_n (i := 3) (lv' := [_, _, _, _, _]) dX7_takes_25 rfl (by decide) (Nat.le_of_ble_eq_true rfl) rfl ?_
      refine AW_iconst dX7_takes_26 ?_
      refine AW_istore (lv' := [_, _, _, _, _]) dX7_takes_27 (by decide) (Nat.le_of_ble_eq_true rfl) rfl ?_
      refine l_takes7 hPl.1 hPl.2.1 hm2 hn harm htick ⟨_, rfl, ?_⟩ 0 (by omega)
      dsimp only
      rw [if_pos (by omega), if_pos (by omega)]
      exact ⟨hE, pl, hPl, rfl⟩
    · refine AW_if_ne 19 dX7_takes_13 (by decide) (by decide) (fun h => absurd h (by decide)) (fun _ => ?_)
      refine AW_bipush dX7_takes_16 (by decide) ?_
      refine AW_iret dX7_takes_18 rfl ?_
      refine ⟨_, rfl, ?_⟩
      dsimp only
      rw [if_pos (by omega), if_neg (by omega)]
      exact ⟨rfl, rfl⟩
  · refine AW_if_ne 9 dX7_takes_4 (by decide) (by decide) (fun h => absurd h (by decide)) (fun _ => ?_)
    refine AW_iconst dX7_takes_7 ?_
    refine AW_iret dX7_takes_8 rfl ?_
    refine ⟨_, rfl, ?_⟩
    dsimp only
    rw [if_neg (by omega)]
    exact ⟨rfl, rfl⟩
theorem l_plan7 {X : Row} {n : Nat} {pl : Nat → Option Sl} {σ : am_S} (hP : PlanSpec (gA X (-6)) n pl) (hR : ∀ k, k < n → wbR (σ.1 82) (σ.1 83) k (pl k)) (hmany : σ.1 71 6423 = (n : Nat)) (hn : n ≤ 20) {what : Int} {Q : Option am_V → am_S → Prop} (hk2 : AW am_tab mX7_plan 97 [some (vR 70), some (vI what), some (vI (lastN pl n)), some (vI (bset (missB pl) n : Nat)), some (vI (n : Nat))] [] σ Q) : ∀ i : Nat, i ≤ n → (-6 ≤ lastN pl i ∧ lastN pl i ≤ 300) → AW am_tab mX7_plan 34 [some (vR 70), some (vI what), some (vI (lastN pl i)), some (vI (bset (missB pl) i : Nat)), some (vI i)] [] σ Q :=
  up_loop (fun i hi ih hl => by
    have hbs := bset_small (missB pl) (k := i) (by omega)
    have hlb : -6 ≤ lastN pl i ∧ lastN pl i ≤ 300 := hl
    refine AW_iload dX7_plan_34 rfl ?_
    refine AW_aload_n dX7_plan_36 rfl ?_
    refine AW_get dX7_plan_37 fX7_7 rfl rfl ?_
    refine AW_sipush dX7_plan_40 (by decide) ?_
    refine AW_ialdN (j := 6423) dX7_plan_43 rfl (Nat.le_of_ble_eq_true rfl) (by omega) (by omega) ?_
    rw [hmany]
    refine AW_icmp_ge 97 dX7_plan_44 (by decide) (by omega) (by omega) (fun h44 => ?_) (fun h44 => ?_)
    · have e : i = n := by omega
      subst e
      exact hk2
    · refine AW_aload_n dX7_plan_47 rfl ?_
      refine AW_get dX7_plan_48 fX7_44 rfl rfl ?_
      refine AW_iload dX7_plan_51 rfl ?_
      refine AW_ialdN (j := i) dX7_plan_53 rfl (Nat.le_of_ble_eq_true rfl) (by omega) (by omega) ?_
      have hb := hP.b (k := i) (by omega)
      have hri := wbR_at (hR i (by omega))
      rw [hri.1]
      refine AW_iload_n dX7_plan_54 rfl ?_
      refine AW_icmp_le 68 dX7_plan_55 (by decide) (by omega) (by omega) (fun h55 => ?_) (fun h55 => ?_)
      · refine AW_iload_n dX7_plan_68 rfl ?_
        refine AW_istore_n (i := 2) (lv' := [_, _, _, _, _]) dX7_plan_69 rfl (by decide) (Nat.le_of_ble_eq_true rfl) rfl ?_
        refine AW_iload_n dX7_plan_70 rfl ?_
        refine AW_aload_n dX7_plan_71 rfl ?_
        refine AW_get dX7_plan_72 fX7_44 rfl rfl ?_
        refine AW_iload dX7_plan_75 rfl ?_
        refine AW_ialdN (j := i) dX7_plan_77 rfl (Nat.le_of_ble_eq_true rfl) (by omega) (by omega) ?_
        rw [hri.1]
        refine AW_if_ge 88 dX7_plan_78 (by decide) (by omega) (fun h78 => ?_) (fun h78 => ?_)
        · refine AW_iconst dX7_plan_88 ?_
          first
          | refine AW_ior (z := ((bset (missB pl) i + 2 ^ i : Nat) : Int)) dX7_plan_89 (i32_or_pow (bset_lt _ _) (by omega)) ?_
          | refine AW_ior (z := ((bset (missB pl) i : Nat) : Int)) dX7_plan_89 i32_or_0 ?_
          refine AW_istore_n (i := 3) (lv' := [_, _, _, _, _]) dX7_plan_90 rfl (by decide) (Nat.le_of_ble_eq_true rfl) rfl ?_
          refine AW_iinc (lv' := [_, _, _, _, _]) dX7_plan_91 rfl (by decide) rfl ?_
          refine AW_goto (tgt := 34) dX7_plan_94 (by decide) ?_
          have hlt : -6 ≤ lastN pl i ∧ lastN pl i ≤ 300 := hlb
          have h9 := ih (by omega) (by simp only [lastN]; split <;> omega)
          have e2 : bset (missB pl) (i + 1) = bset (missB pl) i + (if missB pl i = true then 2 ^ i else 0) := rfl
          first
          | rw [if_pos (missB_t.mpr (by omega))] at e2
          | (rw [if_neg (fun h => by have := missB_t.mp h; omega)] at e2; rw [Nat.add_zero] at e2)
          have e1 : lastN pl (i + 1) = if lastN pl i < pTick pl i then pTick pl i else lastN pl i := rfl
          first
          | rw [if_pos (by omega)] at e1
          | rw [if_neg (by omega)] at e1
          rw [e1, e2] at h9
          exact h9
        · refine AW_iconst dX7_plan_81 ?_
          refine AW_iload dX7_plan_82 rfl ?_
          refine AW_ishl (z := ((2 ^ i : Nat) : Int)) dX7_plan_84 (i32_shl1 ⟨i, by omega⟩) ?_
          refine AW_goto (tgt := 89) dX7_plan_85 (by decide) ?_
          first
          | refine AW_ior (z := ((bset (missB pl) i + 2 ^ i : Nat) : Int)) dX7_plan_89 (i32_or_pow (bset_lt _ _) (by omega)) ?_
          | refine AW_ior (z := ((bset (missB pl) i : Nat) : Int)) dX7_plan_89 i32_or_0 ?_
          refine AW_istore_n (i := 3) (lv' := [_, _, _, _, _]) dX7_plan_90 rfl (by decide) (Nat.le_of_ble_eq_true rfl) rfl ?_
          refine AW_iinc (lv' := [_, _, _, _, _]) dX7_plan_91 rfl (by decide) rfl ?_
          refine AW_goto (tgt := 34) dX7_plan_94 (by decide) ?_
          have hlt : -6 ≤ lastN pl i ∧ lastN pl i ≤ 300 := hlb
          have h9 := ih (by omega) (by simp only [lastN]; split <;> omega)
          have e2 : bset (missB pl) (i + 1) = bset (missB pl) i + (if missB pl i = true then 2 ^ i else 0) := rfl
          first
          | rw [if_pos (missB_t.mpr (by omega))] at e2
          | (rw [if_neg (fun h => by have := missB_t.mp h; omega)] at e2; rw [Nat.add_zero] at e2)
          have e1 : lastN pl (i + 1) = if lastN pl i < pTick pl i then pTick pl i else lastN pl i := rfl
          first
          | rw [if_pos (by omega)] at e1
          | rw [if_neg (by omega)] at e1
          rw [e1, e2] at h9
          exact h9
      · refine AW_aload_n dX7_plan_58 rfl ?_
        refine AW_get dX7_plan_59 fX7_44 rfl rfl ?_
        refine AW_iload dX7_plan_62 rfl ?_
        refine AW_ialdN (j := i) dX7_plan_64 rfl (Nat.le_of_ble_eq_true rfl) (by omega) (by omega) ?_
        rw [hri.1]
        refine AW_goto (tgt := 69) dX7_plan_65 (by decide) ?_
        refine AW_istore_n (i := 2) (lv' := [_, _, _, _, _]) dX7_plan_69 rfl (by decide) (Nat.le_of_ble_eq_true rfl) rfl ?_
        refine AW_iload_n dX7_plan_70 rfl ?_
        refine AW_aload_n dX7_plan_71 rfl ?_
        refine AW_get dX7_plan_72 fX7_44 rfl rfl ?_
        refine AW_iload dX7_plan_75 rfl ?_
        refine AW_ialdN (j := i) dX7_plan_77 rfl (Nat.le_of_ble_eq_true rfl) (by omega) (by omega) ?_
        rw [hri.1]
        refine AW_if_ge 88 dX7_plan_78 (by decide) (by omega) (fun h78 => ?_) (fun h78 => ?_)
        · refine AW_iconst dX7_plan_88 ?_
          first
          | refine AW_ior (z := ((bset (missB pl) i + 2 ^ i : Nat) : Int)) dX7_plan_89 (i32_or_pow (bset_lt _ _) (by omega)) ?_
          | refine AW_ior (z := ((bset (missB pl) i : Nat) : Int)) dX7_plan_89 i32_or_0 ?_
          refine AW_istore_n (i := 3) (lv' := [_, _, _, _, _]) dX7_plan_90 rfl (by decide) (Nat.le_of_ble_eq_true rfl) rfl ?_
          refine AW_iinc (lv' := [_, _, _, _, _]) dX7_plan_91 rfl (by decide) rfl ?_
          refine AW_goto (tgt := 34) dX7_plan_94 (by decide) ?_
          have hlt : -6 ≤ lastN pl i ∧ lastN pl i ≤ 300 := hlb
          have h9 := ih (by omega) (by simp only [lastN]; split <;> omega)
          have e2 : bset (missB pl) (i + 1) = bset (missB pl) i + (if missB pl i = true then 2 ^ i else 0) := rfl
          first
          | rw [if_pos (missB_t.mpr (by omega))] at e2
          | (rw [if_neg (fun h => by have := missB_t.mp h; omega)] at e2; rw [Nat.add_zero] at e2)
          have e1 : lastN pl (i + 1) = if lastN pl i < pTick pl i then pTick pl i else lastN pl i := rfl
          first
          | rw [if_pos (by omega)] at e1
          | rw [if_neg (by omega)] at e1
          rw [e1, e2] at h9
          exact h9
        · refine AW_iconst dX7_plan_81 ?_
          refine AW_iload dX7_plan_82 rfl ?_
          refine AW_ishl (z := ((2 ^ i : Nat) : Int)) dX7_plan_84 (i32_shl1 ⟨i, by omega⟩) ?_
          refine AW_goto (tgt := 89) dX7_plan_85 (by decide) ?_
          first
          | refine AW_ior (z := ((bset (missB pl) i + 2 ^ i : Nat) : Int)) dX7_plan_89 (i32_or_pow (bset_lt _ _) (by omega)) ?_
          | refine AW_ior (z := ((bset (missB pl) i : Nat) : Int)) dX7_plan_89 i32_or_0 ?_
          refine AW_istore_n (i := 3) (lv' := [_, _, _, _, _]) dX7_plan_90 rfl (by decide) (Nat.le_of_ble_eq_true rfl) rfl ?_
          refine AW_iinc (lv' := [_, _, _, _, _]) dX7_plan_91 rfl (by decide) rfl ?_
          refine AW_goto (tgt := 34) dX7_plan_94 (by decide) ?_
          have hlt : -6 ≤ lastN pl i ∧ lastN pl i ≤ 300 := hlb
          have h9 := ih (by omega) (by simp only [lastN]; split <;> omega)
          have e2 : bset (missB pl) (i + 1) = bset (missB pl) i + (if missB pl i = true then 2 ^ i else 0) := rfl
          first
          | rw [if_pos (missB_t.mpr (by omega))] at e2
          | (rw [if_neg (fun h => by have := missB_t.mp h; omega)] at e2; rw [Nat.add_zero] at e2)
          have e1 : lastN pl (i + 1) = if lastN pl i < pTick pl i then pTick pl i else lastN pl i := rfl
          first
          | rw [if_pos (by omega)] at e1
          | rw [if_neg (by omega)] at e1
          rw [e1, e2] at h9
          exact h9)
end
section
/-- THING k is in each PLAN that takes as many -/
def needX (X : Row) (n k : Nat) : Prop := ∃ m m', numX X (-6) n m ∧ IsMax (gA X (-6)) (fun j => j < n ∧ j ≠ k) f0 n m' ∧ m' < m
noncomputable def needB (X : Row) (n k : Nat) : Bool := @decide (needX X n k) (Classical.propDecidable _)
theorem needB_t {X : Row} {n k : Nat} : needB X n k = true ↔ needX X n k := by
  unfold needB
  exact @decide_eq_true_iff (needX X n k) (Classical.propDecidable _)
theorem l_inEach7 {X : Row} {n m : Nat} {σ0 : am_S} (hm : numX X (-6) n m) {Q : Option am_V → am_S → Prop} (hQ : ∀ σ, Eqx [74, 75, 76, 77, 78, 79, 80, 81] σ0 σ → Q (some (vI (bset (needB X n) n : Nat))) σ) : ∀ k : Nat, k ≤ n → ∀ σ : am_S, Eqx [74, 75, 76, 77, 78, 79, 80, 81] σ0 σ → Gok X (-6) n σ → (∀ j, j < 20 → σ.1 78 j = 0) → (∀ c, c < 1204 → σ.1 77 c = 0) → AW am_tab mX7_inEach 11 [some (vR 70), some (vI (m : Nat)), some (vI (bset (needB X n) k : Nat)), some (vI (k : Nat))] [] σ Q :=
  up_loop (fun k hk0 ih σ hE hGo h78 h77 => by
    have hn := hGo.2.2.2.2
    have hbs := bset_small (needB X n) (k := k) (by omega)
    have hmb : m ≤ 20 := by
      obtain ⟨⟨g, _, hg⟩, _⟩ := hm
      rw [← hg, sz_cnt]
      exact Nat.le_trans (cnt_le _ _) hn
    refine AW_iload_n dX7_inEach_11 rfl ?_
    refine AW_aload_n dX7_inEach_12 rfl ?_
    refine AW_get dX7_inEach_13 fX7_7 rfl rfl ?_
    refine AW_sipush dX7_inEach_16 (by decide) ?_
    refine AW_ialdN (j := 6423) dX7_inEach_19 rfl (Nat.le_of_ble_eq_true rfl) (by omega) (by omega) ?_
    rw [hGo.2.2.2.1]
    refine AW_icmp_ge 62 dX7_inEach_20 (by decide) (by omega) (by omega) (fun h20 => ?_) (fun h20 => ?_)
    · have e : k = n := by omega
      subst e
      refine AW_iload_n dX7_inEach_62 rfl ?_
      refine AW_iret dX7_inEach_63 rfl ?_
      exact hQ σ hE
    · refine AW_aload_n dX7_inEach_23 rfl ?_
      refine AW_get dX7_inEach_24 fX7_32 rfl rfl ?_
      refine AW_iload_n dX7_inEach_27 rfl ?_
      refine AW_iconst dX7_inEach_28 ?_
      refine AW_zastN (j := k) dX7_inEach_29 rfl (Nat.le_of_ble_eq_true rfl) (by omega) (by omega) (by first | exact Or.inl rfl | exact Or.inr rfl) ?_
      have hO1 : (am_up σ 78 k 1).1 78 = rup (σ.1 78) k 1 := am_up_same
      have hGo1 : Gok X (-6) n (am_up σ 78 k 1) := by
        refine ⟨by rw [am_up_other (by decide)]; exact hGo.1, fun j hj => ?_, by rw [am_up_other (by decide)]; exact hGo.2.2.1, by rw [am_up_other (by decide)]; exact hGo.2.2.2.1, hn⟩
        rw [hO1]
        simp only [rup]
        split
        · decide
        · exact hGo.2.1 j hj
      have hPk : ∀ j, bx_P ((am_up σ 78 k 1).1 78) 0 n j ↔ (j < n ∧ j ≠ k) := fun j => by
        unfold bx_P
        rw [hO1]
        simp only [rup]
        by_cases e : j = k
        · rw [if_pos e]
          exact ⟨fun h => absurd h.2.2 (by decide), fun h => absurd e h.2⟩
        · rw [if_neg e]
          exact ⟨fun h => ⟨h.2.1, e⟩, fun h => ⟨by omega, h.1, h78 j (by omega)⟩⟩
      have hF1 : ∀ s, okS s → (bx_Fd ((am_up σ 78 k 1).1 77) s ↔ f0 s) := fun s hs => by
        unfold bx_Fd
        rw [am_up_other (by decide)]
        exact ⟨fun h => h (h77 _ (enc_lt hs)), fun h => h.elim⟩
      refine AW_iload_n dX7_inEach_30 rfl ?_
      refine AW_aload_n dX7_inEach_31 rfl ?_
      refine AW_iconst dX7_inEach_32 ?_
      refine AW_cVI1 dX7_inEach_33 kX7_112 (am_fit_b rfl) rfl rfl (Nat.le_of_ble_eq_true rfl) (c_most7 (σ0 := am_up σ 78 k 1) (n := n) (fr := 0) hn hGo1.hG hGo1.2.2.1 hGo1.2.1 hGo1.2.2.2.1 (by omega)) (fun z σ' hq => ?_)
      obtain ⟨mk, rfl, h1, h2⟩ := hq
      have hmk := hGo1.most h2 hPk hF1
      have hmkb : mk ≤ 20 := by
        obtain ⟨⟨g, _, hg⟩, _⟩ := hmk
        rw [← hg, sz_cnt]
        exact Nat.le_trans (cnt_le _ _) hn
      have hneed : needX X n k ↔ mk < m := ⟨fun ⟨a, b, x1, x2, x3⟩ => by
        have u1 := x1.uniq hm
        have u2 := x2.uniq hmk
        omega, fun h => ⟨m, mk, hm, hmk, h⟩⟩
      refine AW_iload_n dX7_inEach_36 rfl ?_
      refine AW_icmp_ge 46 dX7_inEach_37 (by decide) (by omega) (by omega) (fun h37 => ?_) (fun h37 => ?_)
      · refine AW_iconst dX7_inEach_46 ?_
        first
        | refine AW_ior (z := ((bset (needB X n) k + 2 ^ k : Nat) : Int)) dX7_inEach_47 (i32_or_pow (bset_lt _ _) (by omega)) ?_
        | refine AW_ior (z := ((bset (needB X n) k : Nat) : Int)) dX7_inEach_47 i32_or_0 ?_
        refine AW_istore_n (i := 2) (lv' := [_, _, _, _]) dX7_inEach_48 rfl (by decide) (Nat.le_of_ble_eq_true rfl) rfl ?_
        refine AW_aload_n dX7_inEach_49 rfl ?_
        refine AW_get dX7_inEach_50 fX7_32 rfl rfl ?_
        refine AW_iload_n dX7_inEach_53 rfl ?_
        refine AW_iconst dX7_inEach_54 ?_
        refine AW_zastN (j := k) dX7_inEach_55 rfl (Nat.le_of_ble_eq_true rfl) (by omega) (by omega) (by first | exact Or.inl rfl | exact Or.inr rfl) ?_
        refine AW_iinc (lv' := [_, _, _, _]) dX7_inEach_56 rfl (by decide) rfl ?_
        refine AW_goto (tgt := 11) dX7_inEach_59 (by decide) ?_
        have hGo3 : Gok X (-6) n (am_up σ' 78 k 0) := by
          have g := hGo1.kept h1
          refine ⟨by rw [am_up_other (by decide)]; exact g.1, fun j hj => ?_, by rw [am_up_other (by decide)]; exact g.2.2.1, by rw [am_up_other (by decide)]; exact g.2.2.2.1, hn⟩
          rw [am_up_same]
          simp only [rup]
          split
          · decide
          · exact g.2.1 j hj
        have h783 : ∀ j, j < 20 → (am_up σ' 78 k 0).1 78 j = 0 := fun j hj => by
          rw [am_up_same, h1.1 78 (by decide), hO1]
          simp only [rup]
          by_cases e : j = k
          · rw [if_pos e]
          · rw [if_neg e, if_neg e]; exact h78 j hj
        have h773 : ∀ c, c < 1204 → (am_up σ' 78 k 0).1 77 c = 0 := by
          rw [am_up_other (by decide), h1.1 77 (by decide), am_up_other (by decide)]
          exact h77
        have hE3 : Eqx [74, 75, 76, 77, 78, 79, 80, 81] σ0 (am_up σ' 78 k 0) := ((hE.up (by decide)).tr (h1.mono (by decide))).up (by decide)
        have e2 : bset (needB X n) (k + 1) = bset (needB X n) k + (if needB X n k = true then 2 ^ k else 0) := rfl
        first
        | rw [if_pos (needB_t.mpr (hneed.mpr (by omega)))] at e2
        | (rw [if_neg (fun h => by have := hneed.mp (needB_t.mp h); omega)] at e2; rw [Nat.add_zero] at e2)
        have h9 := ih (by omega) _ hE3 hGo3 h783 h773
        rw [e2] at h9
        exact h9
      · refine AW_iconst dX7_inEach_40 ?_
        refine AW_iload_n dX7_inEach_41 rfl ?_
        refine AW_ishl (z := ((2 ^ k : Nat) : Int)) dX7_inEach_42 (i32_shl1 ⟨k, by omega⟩) ?_
        refine AW_goto (tgt := 47) dX7_inEach_43 (by decide) ?_
        first
        | refine AW_ior (z := ((bset (needB X n) k + 2 ^ k : Nat) : Int)) dX7_inEach_47 (i32_or_pow (bset_lt _ _) (by omega)) ?_
        | refine AW_ior (z := ((bset (needB X n) k : Nat) : Int)) dX7_inEach_47 i32_or_0 ?_
        refine AW_istore_n (i := 2) (lv' := [_, _, _, _]) dX7_inEach_48 rfl (by decide) (Nat.le_of_ble_eq_true rfl) rfl ?_
        refine AW_aload_n dX7_inEach_49 rfl ?_
        refine AW_get dX7_inEach_50 fX7_32 rfl rfl ?_
        refine AW_iload_n dX7_inEach_53 rfl ?_
        refine AW_iconst dX7_inEach_54 ?_
        refine AW_zastN (j := k) dX7_inEach_55 rfl (Nat.le_of_ble_eq_true rfl) (by omega) (by omega) (by first | exact Or.inl rfl | exact Or.inr rfl) ?_
        refine AW_iinc (lv' := [_, _, _, _]) dX7_inEach_56 rfl (by decide) rfl ?_
        refine AW_goto (tgt := 11) dX7_inEach_59 (by decide) ?_
        have hGo3 : Gok X (-6) n (am_up σ' 78 k 0) := by
          have g := hGo1.kept h1
          refine ⟨by rw [am_up_other (by decide)]; exact g.1, fun j hj => ?_, by rw [am_up_other (by decide)]; exact g.2.2.1, by rw [am_up_other (by decide)]; exact g.2.2.2.1, hn⟩
          rw [am_up_same]
          simp only [rup]
          split
          · decide
          · exact g.2.1 j hj
        have h783 : ∀ j, j < 20 → (am_up σ' 78 k 0).1 78 j = 0 := fun j hj => by
          rw [am_up_same, h1.1 78 (by decide), hO1]
          simp only [rup]
          by_cases e : j = k
          · rw [if_pos e]
          · rw [if_neg e, if_neg e]; exact h78 j hj
        have h773 : ∀ c, c < 1204 → (am_up σ' 78 k 0).1 77 c = 0 := by
          rw [am_up_other (by decide), h1.1 77 (by decide), am_up_other (by decide)]
          exact h77
        have hE3 : Eqx [74, 75, 76, 77, 78, 79, 80, 81] σ0 (am_up σ' 78 k 0) := ((hE.up (by decide)).tr (h1.mono (by decide))).up (by decide)
        have e2 : bset (needB X n) (k + 1) = bset (needB X n) k + (if needB X n k = true then 2 ^ k else 0) := rfl
        first
        | rw [if_pos (needB_t.mpr (hneed.mpr (by omega)))] at e2
        | (rw [if_neg (fun h => by have := hneed.mp (needB_t.mp h); omega)] at e2; rw [Nat.add_zero] at e2)
        have h9 := ih (by omega) _ hE3 hGo3 h783 h773
        rw [e2] at h9
        exact h9)
theorem c_inEach7 {σ : am_S} (hS : WS (σ.1 71)) (hT : WT (σ.1 71)) (hA : WA (σ.1 71)) {n : Nat} (hmany : σ.1 71 6423 = (n : Nat)) : Runs am_tab mX7_inEach [vR 70] σ (QI (fun z σ' => z = (bset (needB (σ.1 71) n) n : Nat) ∧ Eqx [74, 75, 76, 77, 78, 79, 80, 81] σ σ')) := by
  refine Runs.of (by decide) rfl (by simp) (Nat.le_of_ble_eq_true rfl) ?_
  show AW am_tab mX7_inEach 0 [some (vR 70), none, none, none] [] σ _
  refine AW_aload_n dX7_inEach_0 rfl ?_
  refine AW_bipush dX7_inEach_1 (by decide) ?_
  refine AW_cVI1 dX7_inEach_3 kX7_137 (am_fit_b rfl) rfl rfl (Nat.le_of_ble_eq_true rfl) (c_mostWithout7 hS hT hA hmany (by omega)) (fun z σ' hq => ?_)
  obtain ⟨m, rfl, h1, h2, h3, h4, h5⟩ := hq
  refine AW_istore_n (i := 1) (lv' := [_, _, _, _]) dX7_inEach_6 rfl (by decide) (Nat.le_of_ble_eq_true rfl) rfl ?_
  refine AW_iconst dX7_inEach_7 ?_
  refine AW_istore_n (i := 2) (lv' := [_, _, _, _]) dX7_inEach_8 rfl (by decide) (Nat.le_of_ble_eq_true rfl) rfl ?_
  refine AW_iconst dX7_inEach_9 ?_
  refine AW_istore_n (i := 3) (lv' := [_, _, _, _]) dX7_inEach_10 rfl (by decide) (Nat.le_of_ble_eq_true rfl) rfl ?_
  exact l_inEach7 h1 (fun σ2 h => ⟨_, rfl, rfl, h2.tr h⟩) 0 (by omega) _ Eqx.rf h3 h4 h5
theorem c_plan7 {σ : am_S} (hS : WS (σ.1 71)) (hT : WT (σ.1 71)) (hA : WA (σ.1 71)) {n : Nat} (hmany : σ.1 71 6423 = (n : Nat)) {what : Int} (hwhat : -2147483648 ≤ what ∧ what < 2147483648) : Runs am_tab mX7_plan [vR 70, vI what] σ (QI (fun z σ' => if 0 ≤ what ∧ what ≤ 4 then Eqx [70, 74, 75, 76, 77, 78, 79, 80, 81, 82, 83] σ σ' ∧ (if what = 4 then z = (bset (needB (σ.1 71) n) n : Nat) else ∃ pl, PlanSpec (gA (σ.1 71) (-6)) n pl ∧ ∃ m : Nat, numX (σ.1 71) (-6) n m ∧ z = (if what = 0 then (m : Int) else if what = 1 then (n : Int) - m else if what = 2 then lastN pl n else (bset (missB pl) n : Nat))) else z = -2 ∧ σ' = σ)) := by
  refine Runs.of (by decide) rfl (by simp) (Nat.le_of_ble_eq_true rfl) ?_
  show AW am_tab mX7_plan 0 [some (vR 70), some (vI what), none, none, none] [] σ _
  refine AW_iload_n dX7_plan_0 rfl ?_
  refine AW_iconst dX7_plan_1 ?_
  refine AW_iconst dX7_plan_2 ?_
  refine AW_cSI3 dX7_plan_3 kX7_56 (am_fit_b rfl) (Nat.le_of_ble_eq_true rfl) (c_in hwhat (by omega) (by omega)) (fun z σ' hq => ?_)
  obtain ⟨rfl, ⟨rfl, h3⟩ | ⟨rfl, h3⟩⟩ := hq
  · refine AW_if_ne 12 dX7_plan_6 (by decide) (by decide) (fun _ => ?_) (fun h => absurd (by decide) h)
    refine AW_iload_n dX7_plan_12 rfl ?_
    refine AW_iconst dX7_plan_13 ?_
    refine AW_icmp_ne 22 dX7_plan_14 (by decide) (by omega) (by omega) (fun h14 => ?_) (fun h14 => ?_)
    · refine AW_aload_n dX7_plan_22 rfl ?_
      refine AW_cVV0 dX7_plan_23 kX7_119 (am_fit_b rfl) rfl rfl (Nat.le_of_ble_eq_true rfl) (c_layPlan7 hS hT hA hmany) (fun σ' hq => ?_)
      obtain ⟨hE, pl, hPl⟩ := hq
      have hm2 : σ'.1 71 6423 = (n : Nat) := by rw [hE.1 71 (by decide)]; exact hmany
      have hn : n ≤ 20 := by have := hT.1; omega
      refine AW_bipush dX7_plan_26 (by decide) ?_
      refine AW_istore_n (i := 2) (lv' := [_, _, _, _, _]) dX7_plan_28 rfl (by decide) (Nat.le_of_ble_eq_true rfl) rfl ?_
      refine AW_iconst dX7_plan_29 ?_
      refine AW_istore_n (i := 3) (lv' := [_, _, _, _, _]) dX7_plan_30 rfl (by decide) (Nat.le_of_ble_eq_true rfl) rfl ?_
      refine AW_iconst dX7_plan_31 ?_
      refine AW_istore (lv' := [_, _, _, _, _]) dX7_plan_32 (by decide) (Nat.le_of_ble_eq_true rfl) rfl ?_
      refine l_plan7 hPl.1 hPl.2.1 hm2 hn ?_ 0 (by omega) ⟨by simp [lastN], by simp [lastN]⟩
      obtain ⟨m, hm13, hmx⟩ := hPl.2.2
      refine AW_iload_n dX7_plan_97 rfl ?_
      refine AW_if_ne 108 dX7_plan_98 (by decide) (by omega) (fun h98 => ?_) (fun h98 => ?_)
      · refine AW_iload_n dX7_plan_108 rfl ?_
        refine AW_iconst dX7_plan_109 ?_
        refine AW_icmp_ne 129 dX7_plan_110 (by decide) (by omega) (by omega) (fun h110 => ?_) (fun h110 => ?_)
        · refine AW_iload_n dX7_plan_129 rfl ?_
          refine AW_iconst dX7_plan_130 ?_
          refine AW_icmp_ne 138 dX7_plan_131 (by decide) (by omega) (by omega) (fun h131 => ?_) (fun h131 => ?_)
          · refine AW_iload_n dX7_plan_138 rfl ?_
            refine AW_iret dX7_plan_139 rfl ?_
            refine ⟨_, rfl, ?_⟩
            dsimp only
            rw [if_pos (by omega)]
            refine ⟨hE, ?_⟩
            rw [if_neg (by omega)]
            refine ⟨pl, hPl.1, m, hmx, ?_⟩
            first
            | (rw [if_pos (by omega)]; exact hm13)
            | (rw [if_neg (by omega), if_pos (by omega), hm13, hm2])
            | (rw [if_neg (by omega), if_neg (by omega), if_pos (by omega)])
            | (rw [if_neg (by omega), if_neg (by omega), if_neg (by omega)])
          · refine AW_iload_n dX7_plan_134 rfl ?_
            refine AW_goto (tgt := 139) dX7_plan_135 (by decide) ?_
            refine AW_iret dX7_plan_139 rfl ?_
            refine ⟨_, rfl, ?_⟩
            dsimp only
            rw [if_pos (by omega)]
            refine ⟨hE, ?_⟩
            rw [if_neg (by omega)]
            refine ⟨pl, hPl.1, m, hmx, ?_⟩
            first
            | (rw [if_pos (by omega)]; exact hm13)
            | (rw [if_neg (by omega), if_pos (by omega), hm13, hm2])
            | (rw [if_neg (by omega), if_neg (by omega), if_pos (by omega)])
            | (rw [if_neg (by omega), if_neg (by omega), if_neg (by omega)])
        · refine AW_aload_n dX7_plan_113 rfl ?_
          refine AW_get dX7_plan_114 fX7_7 rfl rfl ?_
          refine AW_sipush dX7_plan_117 (by decide) ?_
          refine AW_ialdN (j := 6423) dX7_plan_120 rfl (Nat.le_of_ble_eq_true rfl) (by omega) (by omega) ?_
          refine AW_aload_n dX7_plan_121 rfl ?_
          refine AW_get dX7_plan_122 fX7_115 rfl rfl ?_
          refine AW_isub dX7_plan_125 ?_
          refine AW_goto (tgt := 139) dX7_plan_126 (by decide) ?_
          refine AW_iret dX7_plan_139 rfl ?_
          refine ⟨_, rfl, ?_⟩
          dsimp only
          rw [if_pos (by omega)]
          refine ⟨hE, ?_⟩
          rw [if_neg (by omega)]
          refine ⟨pl, hPl.1, m, hmx, ?_⟩
          first
          | (rw [if_pos (by omega)]; exact hm13)
          | (rw [if_neg (by omega), if_pos (by omega), hm13, hm2])
          | (rw [if_neg (by omega), if_neg (by omega), if_pos (by omega)])
          | (rw [if_neg (by omega), if_neg (by omega), if_neg (by omega)])
      · refine AW_aload_n dX7_plan_101 rfl ?_
        refine AW_get dX7_plan_102 fX7_115 rfl rfl ?_
        refine AW_goto (tgt := 139) dX7_plan_105 (by decide) ?_
        refine AW_iret dX7_plan_139 rfl ?_
        refine ⟨_, rfl, ?_⟩
        dsimp only
        rw [if_pos (by omega)]
        refine ⟨hE, ?_⟩
        rw [if_neg (by omega)]
        refine ⟨pl, hPl.1, m, hmx, ?_⟩
        first
        | (rw [if_pos (by omega)]; exact hm13)
        | (rw [if_neg (by omega), if_pos (by omega), hm13, hm2])
        | (rw [if_neg (by omega), if_neg (by omega), if_pos (by omega)])
        | (rw [if_neg (by omega), if_neg (by omega), if_neg (by omega)])
    · refine AW_aload_n dX7_plan_17 rfl ?_
      refine AW_cVI0 dX7_plan_18 kX7_140 (am_fit_b rfl) rfl rfl (Nat.le_of_ble_eq_true rfl) (c_inEach7 hS hT hA hmany) (fun z σ' hq => ?_)
      obtain ⟨hz, hs⟩ := hq
      replace hz := hz.symm
      subst hz
      refine AW_iret dX7_plan_21 rfl ?_
      refine ⟨_, rfl, ?_⟩
      dsimp only
      rw [if_pos (by omega)]
      exact ⟨hs.mono (by decide), by rw [if_pos (by omega)]⟩
  · refine AW_if_ne 12 dX7_plan_6 (by decide) (by decide) (fun h => absurd h (by decide)) (fun _ => ?_)
    refine AW_bipush dX7_plan_9 (by decide) ?_
    refine AW_iret dX7_plan_11 rfl ?_
    refine ⟨_, rfl, ?_⟩
    dsimp only
    rw [if_neg (by omega)]
    exact ⟨rfl, rfl⟩
theorem c_arm7 {σ : am_S} (hS : WS (σ.1 71)) (hT : WT (σ.1 71)) (hA : WA (σ.1 71)) {n : Nat} (hmany : σ.1 71 6423 = (n : Nat)) {arm what : Int} (harm : -2147483648 ≤ arm ∧ arm < 2147483648) (hwhat : -2147483648 ≤ what ∧ what < 2147483648) : Runs am_tab mX7_arm [vR 70, vI arm, vI what] σ (QI (fun z σ' => if 0 ≤ arm ∧ arm ≤ 3 then (if 0 ≤ what ∧ what ≤ 6 then Eqx [70, 74, 75, 76, 77, 78, 79, 80, 81, 82, 83] σ σ' ∧ (if what < 5 then z = σ.1 71 (6401 + 4 * what.toNat + arm.toNat) else if what = 5 then ∃ pl, PlanSpec (gA (σ.1 71) (-6)) n pl ∧ z = byN pl arm n else ∃ m m' : Nat, numX (σ.1 71) (-6) n m ∧ numX (σ.1 71) arm n m' ∧ z = (m : Int) - m') else z = -2 ∧ σ' = σ) else z = -1 ∧ σ' = σ)) := by
  refine Runs.of (by decide) rfl (by simp) (Nat.le_of_ble_eq_true rfl) ?_
  show AW am_tab mX7_arm 0 [some (vR 70), some (vI arm), some (vI what)] [] σ _
  refine AW_iload_n dX7_arm_0 rfl ?_
  refine AW_cSI1 dX7_arm_1 kX7_89 (am_fit_b rfl) (Nat.le_of_ble_eq_true rfl) (c_isArm7 harm) (fun z σ' hq => ?_)
  obtain ⟨rfl, ⟨rfl, h1⟩ | ⟨rfl, h1⟩⟩ := hq
  · refine AW_if_ne 9 dX7_arm_4 (by decide) (by decide) (fun _ => ?_) (fun h => absurd (by decide) h)
    refine AW_iload_n dX7_arm_9 rfl ?_
    refine AW_iconst dX7_arm_10 ?_
    refine AW_bipush dX7_arm_11 (by decide) ?_
    refine AW_cSI3 dX7_arm_13 kX7_56 (am_fit_b rfl) (Nat.le_of_ble_eq_true rfl) (c_in hwhat (by omega) (by omega)) (fun z σ' hq => ?_)
    obtain ⟨rfl, ⟨rfl, h13⟩ | ⟨rfl, h13⟩⟩ := hq
    · refine AW_if_ne 22 dX7_arm_16 (by decide) (by decide) (fun _ => ?_) (fun h => absurd (by decide) h)
      refine AW_iload_n dX7_arm_22 rfl ?_
      refine AW_iconst dX7_arm_23 ?_
      refine AW_icmp_ge 44 dX7_arm_24 (by decide) (by omega) (by omega) (fun h24 => ?_) (fun h24 => ?_)
      · refine AW_iload_n dX7_arm_44 rfl ?_
        refine AW_iconst dX7_arm_45 ?_
        refine AW_icmp_ne 57 dX7_arm_46 (by decide) (by omega) (by omega) (fun h46 => ?_) (fun h46 => ?_)
        · refine AW_aload_n dX7_arm_57 rfl ?_
          refine AW_bipush dX7_arm_58 (by decide) ?_
          refine AW_cVI1 dX7_arm_60 kX7_137 (am_fit_b rfl) rfl rfl (Nat.le_of_ble_eq_true rfl) (c_mostWithout7 hS hT hA hmany (by omega)) (fun z σ' hq => ?_)
          obtain ⟨m, rfl, h1, h2, _⟩ := hq
          have r71 : σ'.1 71 = σ.1 71 := h2.1 71 (by decide)
          refine AW_aload_n dX7_arm_63 rfl ?_
          refine AW_iload_n dX7_arm_64 rfl ?_
          refine AW_cVI1 dX7_arm_65 kX7_137 (am_fit_b rfl) rfl rfl (Nat.le_of_ble_eq_true rfl) (c_mostWithout7 (σ := σ') (n := n) (by rw [r71]; exact hS) (by rw [r71]; exact hT) (by rw [r71]; exact hA) (by rw [r71]; exact hmany) harm) (fun z σ' hq2 => ?_)
          obtain ⟨m', rfl, h3, h4, _⟩ := hq2
          rw [r71] at h3
          refine AW_isub dX7_arm_68 ?_
          refine AW_iret dX7_arm_69 rfl ?_
          refine ⟨_, rfl, ?_⟩
          dsimp only
          rw [if_pos (by omega), if_pos (by omega)]
          refine ⟨(h2.mono (by decide)).tr (h4.mono (by decide)), ?_⟩
          rw [if_neg (by omega), if_neg (by omega)]
          exact ⟨m, m', h1, h3, rfl⟩
        · refine AW_aload_n dX7_arm_49 rfl ?_
          refine AW_iload_n dX7_arm_50 rfl ?_
          refine AW_cVI1 dX7_arm_51 kX7_134 (am_fit_b rfl) rfl rfl (Nat.le_of_ble_eq_true rfl) (c_takenBy7 hS hT hA hmany harm) (fun z σ' hq => ?_)
          obtain ⟨hE, pl, hPl, rfl⟩ := hq
          refine AW_goto (tgt := 69) dX7_arm_54 (by decide) ?_
          refine AW_iret dX7_arm_69 rfl ?_
          refine ⟨_, rfl, ?_⟩
          dsimp only
          rw [if_pos (by omega), if_pos (by omega)]
          refine ⟨hE, ?_⟩
          rw [if_neg (by omega), if_pos (by omega)]
          exact ⟨pl, hPl.1, rfl⟩
      · refine AW_aload_n dX7_arm_27 rfl ?_
        refine AW_get dX7_arm_28 fX7_7 rfl rfl ?_
        refine AW_sipush dX7_arm_31 (by decide) ?_
        refine AW_iconst dX7_arm_34 ?_
        refine AW_iload_n dX7_arm_35 rfl ?_
        refine AW_imul dX7_arm_36 ?_
        refine AW_iadd dX7_arm_37 ?_
        refine AW_iload_n dX7_arm_38 rfl ?_
        refine AW_iadd dX7_arm_39 ?_
        refine AW_ialdN (j := 6401 + 4 * what.toNat + arm.toNat) dX7_arm_40 rfl (Nat.le_of_ble_eq_true rfl) (by omega) (by omega) ?_
        refine AW_goto (tgt := 69) dX7_arm_41 (by decide) ?_
        refine AW_iret dX7_arm_69 rfl ?_
        refine ⟨_, rfl, ?_⟩
        dsimp only
        rw [if_pos (by omega), if_pos (by omega)]
        refine ⟨Eqx.rf, ?_⟩
        rw [if_pos (by omega)]
    · refine AW_if_ne 22 dX7_arm_16 (by decide) (by decide) (fun h => absurd h (by decide)) (fun _ => ?_)
      refine AW_bipush dX7_arm_19 (by decide) ?_
      refine AW_iret dX7_arm_21 rfl ?_
      refine ⟨_, rfl, ?_⟩
      dsimp only
      rw [if_pos (by omega), if_neg (by omega)]
      exact ⟨rfl, rfl⟩
  · refine AW_if_ne 9 dX7_arm_4 (by decide) (by decide) (fun h => absurd h (by decide)) (fun _ => ?_)
    refine AW_iconst dX7_arm_7 ?_
    refine AW_iret dX7_arm_8 rfl ?_
    refine ⟨_, rfl, ?_⟩
    dsimp only
    rw [if_neg (by omega)]
    exact ⟨rfl, rfl⟩
end
section
/-! ===== TRAYS ===== -/
theorem td4 (s : Nat) : (s : Int).tdiv 4 = ((s / 4 : Nat) : Int) := by
  rw [Int.tdiv_eq_ediv_of_nonneg (by omega)]
  omega
theorem tm4 (s : Nat) : (s : Int).tmod 4 = ((s % 4 : Nat) : Int) := by
  rw [Int.tmod_eq_emod_of_nonneg (by omega)]
  omega
def bestP (P : Row) (base : Nat) : Nat → Nat
  | 0 => 0
  | p + 1 => if P (base + p) < P (base + bestP P base p) then p else bestP P base p
theorem bestP_1 {P : Row} {base : Nat} : bestP P base 1 = 0 := by
  simp [bestP]
theorem bestP_lt {P : Row} {base : Nat} : ∀ p, 0 < p → bestP P base p < p := by
  intro p
  induction p with
  | zero => intro h; omega
  | succ p ih =>
    intro _
    simp only [bestP]
    split
    · omega
    · rcases Nat.eq_zero_or_pos p with z | z
      · subst z; exact Nat.zero_lt_one
      · have := ih z; omega
def kdX (X : Row) (k : Nat) : Nat := (X (361 + k)).toNat
def shX (X : Row) : Nat := (X 6422).toNat
def layK (X : Row) (k : Nat) (T : Row × Row) : Row × Row := (rup T.1 (6 * kdX X k + bestP T.1 (6 * kdX X k) (shX X)) (T.1 (6 * kdX X k + bestP T.1 (6 * kdX X k) (shX X)) + 1), rup T.2 k (bestP T.1 (6 * kdX X k) (shX X)))
def whoAt (pl : Nat → Option Sl) (s : Nat) : Nat → Option Nat
  | 0 => none
  | k + 1 => if pl k = some (s / 4, s % 4) then some k else whoAt pl s k
theorem whoAt_some {pl : Nat → Option Sl} {s j : Nat} : ∀ n, whoAt pl s n = some j → j < n ∧ pl j = some (s / 4, s % 4) := by
  intro n
  induction n with
  | zero => intro h; cases h
  | succ n ih =>
    intro h
    simp only [whoAt] at h
    split at h
    · rename_i hp
      cases h
      exact ⟨by omega, hp⟩
    · obtain ⟨a, b⟩ := ih h
      exact ⟨by omega, b⟩
def trI (X : Row) (pl : Nat → Option Sl) (s : Nat) (T : Row × Row) (n : Nat) : Row × Row := match whoAt pl s n with
  | some j => layK X j T
  | none => T
def trS (X : Row) (pl : Nat → Option Sl) (n : Nat) : Nat → Row × Row
  | 0 => (fun _ => 0, fun _ => -6)
  | s + 1 => trI X pl s (trS X pl n s) n
theorem layK_b {X : Row} {k : Nat} {T : Row × Row} {b : Int} (hb : 0 ≤ b) (h : ∀ p, 0 ≤ T.1 p ∧ T.1 p ≤ b) : ∀ p, 0 ≤ (layK X k T).1 p ∧ (layK X k T).1 p ≤ b + 1 := by
  intro p
  simp only [layK, rup]
  split
  · have := h (6 * kdX X k + bestP T.1 (6 * kdX X k) (shX X)); omega
  · have := h p; omega
theorem trI_b {X : Row} {pl : Nat → Option Sl} {s n : Nat} {T : Row × Row} {b : Int} (hb : 0 ≤ b) (h : ∀ p, 0 ≤ T.1 p ∧ T.1 p ≤ b) : ∀ p, 0 ≤ (trI X pl s T n).1 p ∧ (trI X pl s T n).1 p ≤ b + 1 := by
  unfold trI
  split
  · exact layK_b hb h
  · intro p; have := h p; omega
theorem trS_b {X : Row} {pl : Nat → Option Sl} {n : Nat} : ∀ s p, 0 ≤ (trS X pl n s).1 p ∧ (trS X pl n s).1 p ≤ (s : Int) := by
  intro s
  induction s with
  | zero => intro p; exact ⟨Int.le_refl 0, Int.le_refl 0⟩
  | succ s ih => intro p; have := trI_b (X := X) (pl := pl) (s := s) (n := n) (b := (s : Int)) (by omega) ih p; simp only [trS]; omega
/-- rows 84, 85 hold the trays T -/
def TRr (P O : Row) (T : Row × Row) : Prop := (∀ p, p < 18 → P p = T.1 p) ∧ ∀ k, k < 20 → O k = T.2 k
theorem TRr.lay {P O : Row} {T : Row × Row} {X : Row} {k : Nat} (h : TRr P O T) : TRr (rup P (6 * kdX X k + bestP T.1 (6 * kdX X k) (shX X)) (T.1 (6 * kdX X k + bestP T.1 (6 * kdX X k) (shX X)) + 1)) (rup O k (bestP T.1 (6 * kdX X k) (shX X))) (layK X k T) := by
  refine ⟨fun p hp => ?_, fun j hj => ?_⟩
  · simp only [layK, rup]
    split
    · rfl
    · exact h.1 p hp
  · simp only [layK, rup]
    split
    · rfl
    · exact h.2 j hj
theorem l_layTrays7p {X : Row} {s k : Nat} {σ : am_S} {T : Row × Row} (hN : WN X) (hkd : kdX X k ≤ 2) (hs : s < 1204) (hX2 : σ.1 71 = X) (hTR : TRr (σ.1 84) (σ.1 85) T) (hTb : ∀ p, 0 ≤ T.1 p ∧ T.1 p ≤ 1205) {x2 x3 : Option am_V} {Q : Option am_V → am_S → Prop} (hk2 : AW am_tab mX7_layTrays 171 [some (vR 70), some (vI (s : Nat)), x2, x3, some (vI (k : Nat)), some (vI (6 * kdX X k : Nat)), some (vI (bestP T.1 (6 * kdX X k) (shX X) : Nat)), some (vI (shX X : Nat))] [] σ Q) : ∀ p : Nat, p ≤ shX X → 0 < p → AW am_tab mX7_layTrays 120 [some (vR 70), some (vI (s : Nat)), x2, x3, some (vI (k : Nat)), some (vI (6 * kdX X k : Nat)), some (vI (bestP T.1 (6 * kdX X k) p : Nat)), some (vI (p : Nat))] [] σ Q :=
  up_loop (fun p hp0 ih hp1 => by
    have hsh := hN.2
    have hsX : (shX X : Int) = X 6422 := by unfold shX; omega
    have hbl := bestP_lt (P := T.1) (base := 6 * kdX X k) p hp1
    refine AW_iload dX7_layTrays_120 rfl ?_
    refine AW_aload_n dX7_layTrays_122 rfl ?_
    refine AW_get dX7_layTrays_123 fX7_7 rfl rfl ?_
    refine AW_sipush dX7_layTrays_126 (by decide) ?_
    refine AW_ialdN (j := 6422) dX7_layTrays_129 rfl (Nat.le_of_ble_eq_true rfl) (by omega) (by omega) ?_
    rw [hX2, ← hsX]
    refine AW_icmp_ge 171 dX7_layTrays_130 (by decide) (by omega) (by omega) (fun h130 => ?_) (fun h130 => ?_)
    · have e : p = shX X := by omega
      subst e
      exact hk2
    · refine AW_aload_n dX7_layTrays_133 rfl ?_
      refine AW_get dX7_layTrays_134 fX7_50 rfl rfl ?_
      refine AW_iload dX7_layTrays_137 rfl ?_
      refine AW_iload dX7_layTrays_139 rfl ?_
      refine AW_iadd dX7_layTrays_141 ?_
      refine AW_ialdN (j := 6 * kdX X k + p) dX7_layTrays_142 rfl (Nat.le_of_ble_eq_true rfl) (by omega) (by omega) ?_
      rw [hTR.1 _ (by omega)]
      have hb1 := hTb (6 * kdX X k + p)
      refine AW_aload_n dX7_layTrays_143 rfl ?_
      refine AW_get dX7_layTrays_144 fX7_50 rfl rfl ?_
      refine AW_iload dX7_layTrays_147 rfl ?_
      refine AW_iload dX7_layTrays_149 rfl ?_
      refine AW_iadd dX7_layTrays_151 ?_
      refine AW_ialdN (j := 6 * kdX X k + bestP T.1 (6 * kdX X k) p) dX7_layTrays_152 rfl (Nat.le_of_ble_eq_true rfl) (by omega) (by omega) ?_
      rw [hTR.1 _ (by omega)]
      have hb2 := hTb (6 * kdX X k + bestP T.1 (6 * kdX X k) p)
      refine AW_icmp_ge 161 dX7_layTrays_153 (by decide) (by omega) (by omega) (fun h153 => ?_) (fun h153 => ?_)
      · refine AW_iload dX7_layTrays_161 rfl ?_
        refine AW_istore (lv' := [_, _, _, _, _, _, _, _]) dX7_layTrays_163 (by decide) (Nat.le_of_ble_eq_true rfl) rfl ?_
        refine AW_iinc (lv' := [_, _, _, _, _, _, _, _]) dX7_layTrays_165 rfl (by decide) rfl ?_
        refine AW_goto (tgt := 120) dX7_layTrays_168 (by decide) ?_
        have e : bestP T.1 (6 * kdX X k) (p + 1) = if T.1 (6 * kdX X k + p) < T.1 (6 * kdX X k + bestP T.1 (6 * kdX X k) p) then p else bestP T.1 (6 * kdX X k) p := rfl
        have h9 := ih (by omega) (by omega)
        first
        | (rw [if_pos (by omega)] at e; rw [e] at h9; exact h9)
        | (rw [if_neg (by omega)] at e; rw [e] at h9; exact h9)
      · refine AW_iload dX7_layTrays_156 rfl ?_
        refine AW_goto (tgt := 163) dX7_layTrays_158 (by decide) ?_
        refine AW_istore (lv' := [_, _, _, _, _, _, _, _]) dX7_layTrays_163 (by decide) (Nat.le_of_ble_eq_true rfl) rfl ?_
        refine AW_iinc (lv' := [_, _, _, _, _, _, _, _]) dX7_layTrays_165 rfl (by decide) rfl ?_
        refine AW_goto (tgt := 120) dX7_layTrays_168 (by decide) ?_
        have e : bestP T.1 (6 * kdX X k) (p + 1) = if T.1 (6 * kdX X k + p) < T.1 (6 * kdX X k + bestP T.1 (6 * kdX X k) p) then p else bestP T.1 (6 * kdX X k) p := rfl
        have h9 := ih (by omega) (by omega)
        first
        | (rw [if_pos (by omega)] at e; rw [e] at h9; exact h9)
        | (rw [if_neg (by omega)] at e; rw [e] at h9; exact h9))
set_option maxHeartbeats 4000000 in
theorem l_layTrays7k {X : Row} {n : Nat} {pl : Nat → Option Sl} {σ0 : am_S} (hP : PlanSpec (gA X (-6)) n pl) (hR : ∀ k, k < n → wbR (σ0.1 82) (σ0.1 83) k (pl k)) (hX : σ0.1 71 = X) (hmany : X 6423 = (n : Nat)) (hn : n ≤ 20) (hT : WT X) (hN : WN X) {s : Nat} (hs : s < 1204) {T : Row × Row} (hTb : ∀ p, 0 ≤ T.1 p ∧ T.1 p ≤ 1205) {Q : Option am_V → am_S → Prop} (hk2 : ∀ σ, Eqx [84, 85] σ0 σ → TRr (σ.1 84) (σ.1 85) (trI X pl s T n) → ∀ x y z : Option am_V, AW am_tab mX7_layTrays 200 [some (vR 70), some (vI (s : Nat)), some (vI (s / 4 : Nat)), some (vI (s % 4 : Nat)), some (vI (n : Nat)), x, y, z] [] σ Q) : ∀ k : Nat, k ≤ n → ∀ σ : am_S, Eqx [84, 85] σ0 σ → TRr (σ.1 84) (σ.1 85) (trI X pl s T k) → ∀ x y z : Option am_V, AW am_tab mX7_layTrays 63 [some (vR 70), some (vI (s : Nat)), some (vI (s / 4 : Nat)), some (vI (s % 4 : Nat)), some (vI (k : Nat)), x, y, z] [] σ Q :=
  up_loop (fun k hk0 ih σ hE hTR x y z => by
    have rX : σ.1 71 = X := (hE.1 71 (by decide)).trans hX
    refine AW_iload dX7_layTrays_63 rfl ?_
    refine AW_aload_n dX7_layTrays_65 rfl ?_
    refine AW_get dX7_layTrays_66 fX7_7 rfl rfl ?_
    refine AW_sipush dX7_layTrays_69 (by decide) ?_
    refine AW_ialdN (j := 6423) dX7_layTrays_72 rfl (Nat.le_of_ble_eq_true rfl) (by omega) (by omega) ?_
    rw [rX, hmany]
    refine AW_icmp_ge 200 dX7_layTrays_73 (by decide) (by omega) (by omega) (fun h73 => ?_) (fun h73 => ?_)
    · have e : k = n := by omega
      subst e
      exact hk2 σ hE hTR _ _ _
    · refine AW_aload_n dX7_layTrays_76 rfl ?_
      refine AW_get dX7_layTrays_77 fX7_44 rfl rfl ?_
      refine AW_iload dX7_layTrays_80 rfl ?_
      refine AW_ialdN (j := k) dX7_layTrays_82 rfl (Nat.le_of_ble_eq_true rfl) (by omega) (by omega) ?_
      have hb := hP.b (k := k) (by omega)
      have hri := wbR_at (hR k (by omega))
      have r82 : σ.1 82 = σ0.1 82 := hE.1 82 (by decide)
      have r83 : σ.1 83 = σ0.1 83 := hE.1 83 (by decide)
      rw [r82, hri.1]
      refine AW_iload_n dX7_layTrays_83 rfl ?_
      refine AW_icmp_ne 194 dX7_layTrays_84 (by decide) (by omega) (by omega) (fun h84 => ?_) (fun h84 => ?_)
      · refine AW_iinc (lv' := [_, _, _, _, _, _, _, _]) dX7_layTrays_194 rfl (by decide) rfl ?_
        refine AW_goto (tgt := 63) dX7_layTrays_197 (by decide) ?_
        have e1 : trI X pl s T (k + 1) = trI X pl s T k := by
          unfold trI
          have : whoAt pl s (k + 1) = whoAt pl s k := if_neg (fun h => by
            have a : pTick pl k = ((s / 4 : Nat) : Int) := by unfold pTick; rw [h]
            have b : pArm pl k = ((s % 4 : Nat) : Int) := by unfold pArm; rw [h]
            omega)
          rw [this]
        exact ih (by omega) σ hE (by rw [e1]; exact hTR) _ _ _
      · refine AW_aload_n dX7_layTrays_87 rfl ?_
        refine AW_get dX7_layTrays_88 fX7_47 rfl rfl ?_
        refine AW_iload dX7_layTrays_91 rfl ?_
        refine AW_ialdN (j := k) dX7_layTrays_93 rfl (Nat.le_of_ble_eq_true rfl) (by omega) (by omega) ?_
        rw [r83, hri.2]
        refine AW_iload_n dX7_layTrays_94 rfl ?_
        refine AW_icmp_ne 194 dX7_layTrays_95 (by decide) (by omega) (by omega) (fun h95 => ?_) (fun h95 => ?_)
        · refine AW_iinc (lv' := [_, _, _, _, _, _, _, _]) dX7_layTrays_194 rfl (by decide) rfl ?_
          refine AW_goto (tgt := 63) dX7_layTrays_197 (by decide) ?_
          have e1 : trI X pl s T (k + 1) = trI X pl s T k := by
            unfold trI
            have : whoAt pl s (k + 1) = whoAt pl s k := if_neg (fun h => by
              have a : pTick pl k = ((s / 4 : Nat) : Int) := by unfold pTick; rw [h]
              have b : pArm pl k = ((s % 4 : Nat) : Int) := by unfold pArm; rw [h]
              omega)
            rw [this]
          exact ih (by omega) σ hE (by rw [e1]; exact hTR) _ _ _
        · have hpk : pl k = some (s / 4, s % 4) := by
            cases h : pl k with
            | none =>
              have a : pTick pl k = -6 := by unfold pTick; rw [h]
              omega
            | some x =>
              have a : pTick pl k = x.1 := by unfold pTick; rw [h]
              have b : pArm pl k = x.2 := by unfold pArm; rw [h]
              obtain ⟨x1, x2⟩ := x
              dsimp only at a b
              rw [show x1 = s / 4 by omega, show x2 = s % 4 by omega]
          have hwn : whoAt pl s k = none := by
            cases h : whoAt pl s k with
            | none => rfl
            | some j =>
              obtain ⟨a, b⟩ := whoAt_some _ h
              have := hP.inj (by omega) (by omega) b hpk
              omega
          have hTk : trI X pl s T k = T := by unfold trI; rw [hwn]
          have hTk1 : trI X pl s T (k + 1) = layK X k T := by
            unfold trI
            rw [show whoAt pl s (k + 1) = some k from if_pos hpk]
          rw [hTk] at hTR
          have hkk := (hT.2 k (by omega)).2.2.2.1
          have hkd : kdX X k ≤ 2 := by unfold kdX; omega
          have hkI : X (361 + k) = (kdX X k : Nat) := by unfold kdX; omega
          have hsh := hN.2
          have hsX : (shX X : Int) = X 6422 := by unfold shX; omega
          refine AW_bipush dX7_layTrays_98 (by decide) ?_
          refine AW_aload_n dX7_layTrays_100 rfl ?_
          refine AW_get dX7_layTrays_101 fX7_7 rfl rfl ?_
          refine AW_sipush dX7_layTrays_104 (by decide) ?_
          refine AW_iload dX7_layTrays_107 rfl ?_
          refine AW_iadd dX7_layTrays_109 ?_
          refine AW_ialdN (j := 361 + k) dX7_layTrays_110 rfl (Nat.le_of_ble_eq_true rfl) (by omega) (by omega) ?_
          rw [rX, hkI]
          refine AW_imul dX7_layTrays_111 ?_
          refine AW_istore (lv' := [_, _, _, _, _, _, _, _]) dX7_layTrays_112 (by decide) (Nat.le_of_ble_eq_true rfl) rfl ?_
          refine AW_iconst dX7_layTrays_114 ?_
          refine AW_istore (lv' := [_, _, _, _, _, _, _, _]) dX7_layTrays_115 (by decide) (Nat.le_of_ble_eq_true rfl) rfl ?_
          refine AW_iconst dX7_layTrays_117 ?_
          refine AW_istore (lv' := [_, _, _, _, _, _, _, _]) dX7_layTrays_118 (by decide) (Nat.le_of_ble_eq_true rfl) rfl ?_
          rw [show (6 : Int) * ((kdX X k : Nat) : Int) = ((6 * kdX X k : Nat) : Int) by omega]
          have hlp := l_layTrays7p (s := s) (x2 := some (vI (s / 4 : Nat))) (x3 := some (vI (s % 4 : Nat))) hN hkd (by omega) rX hTR hTb (Q := Q) (k := k) (X := X) ?_ 1 (by omega) (by omega)
          · rw [bestP_1] at hlp
            exact hlp
          · have hbl := bestP_lt (P := T.1) (base := 6 * kdX X k) (shX X) (by omega)
            refine AW_aload_n dX7_layTrays_171 rfl ?_
            refine AW_get dX7_layTrays_172 fX7_50 rfl rfl ?_
            refine AW_iload dX7_layTrays_175 rfl ?_
            refine AW_iload dX7_layTrays_177 rfl ?_
            refine AW_iadd dX7_layTrays_179 ?_
            refine AW_dup2 dX7_layTrays_180 ?_
            refine AW_ialdN (j := 6 * kdX X k + bestP T.1 (6 * kdX X k) (shX X)) dX7_layTrays_181 rfl (Nat.le_of_ble_eq_true rfl) (by omega) (by omega) ?_
            rw [hTR.1 _ (by omega)]
            refine AW_iconst dX7_layTrays_182 ?_
            refine AW_iadd dX7_layTrays_183 ?_
            refine AW_iastN (j := 6 * kdX X k + bestP T.1 (6 * kdX X k) (shX X)) dX7_layTrays_184 rfl (Nat.le_of_ble_eq_true rfl) (by omega) (by omega) ?_
            refine AW_aload_n dX7_layTrays_185 rfl ?_
            refine AW_get dX7_layTrays_186 fX7_53 rfl rfl ?_
            refine AW_iload dX7_layTrays_189 rfl ?_
            refine AW_iload dX7_layTrays_191 rfl ?_
            refine AW_iastN (j := k) dX7_layTrays_193 rfl (Nat.le_of_ble_eq_true rfl) (by omega) (by omega) ?_
            refine AW_iinc (lv' := [_, _, _, _, _, _, _, _]) dX7_layTrays_194 rfl (by decide) rfl ?_
            refine AW_goto (tgt := 63) dX7_layTrays_197 (by decide) ?_
            refine ih (by omega) _ ((hE.up (by decide)).up (by decide)) ?_ _ _ _
            rw [hTk1, am_up_other (a := 85) (a' := 84) (by decide), am_up_same, am_up_same, am_up_other (by decide)]
            exact hTR.lay)
theorem l_layTrays7s {X : Row} {n : Nat} {pl : Nat → Option Sl} {σ0 : am_S} (hP : PlanSpec (gA X (-6)) n pl) (hR : ∀ k, k < n → wbR (σ0.1 82) (σ0.1 83) k (pl k)) (hX : σ0.1 71 = X) (hmany : X 6423 = (n : Nat)) (hn : n ≤ 20) (hT : WT X) (hN : WN X) {Q : Option am_V → am_S → Prop} (hQ : ∀ σ, Eqx [84, 85] σ0 σ → TRr (σ.1 84) (σ.1 85) (trS X pl n 1204) → Q none σ) : ∀ s : Nat, s ≤ 1204 → ∀ σ : am_S, Eqx [84, 85] σ0 σ → TRr (σ.1 84) (σ.1 85) (trS X pl n s) → ∀ a b c x y z : Option am_V, AW am_tab mX7_layTrays 45 [some (vR 70), some (vI (s : Nat)), a, b, c, x, y, z] [] σ Q :=
  up_loop (fun s hs0 ih σ hE hTR a b c x y z => by
    refine AW_iload_n dX7_layTrays_45 rfl ?_
    refine AW_sipush dX7_layTrays_46 (by decide) ?_
    refine AW_icmp_ge 206 dX7_layTrays_49 (by decide) (by omega) (by omega) (fun h49 => ?_) (fun h49 => ?_)
    · have e : s = 1204 := by omega
      subst e
      refine AW_vret dX7_layTrays_206 rfl ?_
      exact hQ σ hE hTR
    · refine AW_iload_n dX7_layTrays_52 rfl ?_
      refine AW_iconst dX7_layTrays_53 ?_
      refine AW_idiv dX7_layTrays_54 (by omega) (by omega) (by decide) ?_
      refine AW_istore_n (i := 2) (lv' := [_, _, _, _, _, _, _, _]) dX7_layTrays_55 rfl (by decide) (Nat.le_of_ble_eq_true rfl) rfl ?_
      refine AW_iload_n dX7_layTrays_56 rfl ?_
      refine AW_iconst dX7_layTrays_57 ?_
      refine AW_irem dX7_layTrays_58 (by omega) (by omega) (by decide) ?_
      refine AW_istore_n (i := 3) (lv' := [_, _, _, _, _, _, _, _]) dX7_layTrays_59 rfl (by decide) (Nat.le_of_ble_eq_true rfl) rfl ?_
      refine AW_iconst dX7_layTrays_60 ?_
      refine AW_istore (lv' := [_, _, _, _, _, _, _, _]) dX7_layTrays_61 (by decide) (Nat.le_of_ble_eq_true rfl) rfl ?_
      rw [td4, tm4]
      refine l_layTrays7k hP hR hX hmany hn hT hN (s := s) (by omega) (T := trS X pl n s) (fun p => by have := trS_b (X := X) (pl := pl) (n := n) s p; omega) (fun σ2 hE2 hT2 x2 y2 z2 => ?_) 0 (by omega) σ hE hTR _ _ _
      refine AW_iinc (lv' := [_, _, _, _, _, _, _, _]) dX7_layTrays_200 rfl (by decide) rfl ?_
      refine AW_goto (tgt := 45) dX7_layTrays_203 (by decide) ?_
      exact ih (by omega) σ2 hE2 hT2 _ _ _ _ _ _)
theorem l_layTrays7a {σ : am_S} {Q : Option am_V → am_S → Prop} (hk2 : AW am_tab mX7_layTrays 21 [some (vR 70), some (vI (18 : Nat)), none, none, none, none, none, none] [] (am_row σ 84 18 (fun _ => 0)) Q) : ∀ i : Nat, i ≤ 18 → AW am_tab mX7_layTrays 2 [some (vR 70), some (vI i), none, none, none, none, none, none] [] (am_row σ 84 i (fun _ => 0)) Q :=
  up_loop (fun i hi ih => by
    refine AW_iload_n dX7_layTrays_2 rfl ?_
    refine AW_bipush dX7_layTrays_3 (by decide) ?_
    refine AW_icmp_ge 21 dX7_layTrays_5 (by decide) (by omega) (by omega) (fun h5 => ?_) (fun h5 => ?_)
    · have e : i = 18 := by omega
      subst e
      exact hk2
    · refine AW_aload_n dX7_layTrays_8 rfl ?_
      refine AW_get dX7_layTrays_9 fX7_50 rfl rfl ?_
      refine AW_iload_n dX7_layTrays_12 rfl ?_
      refine AW_iconst dX7_layTrays_13 ?_
      refine AW_iastN (j := i) dX7_layTrays_14 rfl (Nat.le_of_ble_eq_true rfl) (by omega) (by omega) ?_
      refine AW_iinc (lv' := [_, _, _, _, _, _, _, _]) dX7_layTrays_15 rfl (by decide) rfl ?_
      refine AW_goto (tgt := 2) dX7_layTrays_18 (by decide) ?_
      rw [am_row_s (g := fun _ => 0) rfl]
      exact ih (by omega))
theorem l_layTrays7b {σ : am_S} {Q : Option am_V → am_S → Prop} (hk2 : AW am_tab mX7_layTrays 43 [some (vR 70), some (vI (20 : Nat)), none, none, none, none, none, none] [] (am_row σ 85 20 (fun _ => -6)) Q) : ∀ i : Nat, i ≤ 20 → AW am_tab mX7_layTrays 23 [some (vR 70), some (vI i), none, none, none, none, none, none] [] (am_row σ 85 i (fun _ => -6)) Q :=
  up_loop (fun i hi ih => by
    refine AW_iload_n dX7_layTrays_23 rfl ?_
    refine AW_bipush dX7_layTrays_24 (by decide) ?_
    refine AW_icmp_ge 43 dX7_layTrays_26 (by decide) (by omega) (by omega) (fun h26 => ?_) (fun h26 => ?_)
    · have e : i = 20 := by omega
      subst e
      exact hk2
    · refine AW_aload_n dX7_layTrays_29 rfl ?_
      refine AW_get dX7_layTrays_30 fX7_53 rfl rfl ?_
      refine AW_iload_n dX7_layTrays_33 rfl ?_
      refine AW_bipush dX7_layTrays_34 (by decide) ?_
      refine AW_iastN (j := i) dX7_layTrays_36 rfl (Nat.le_of_ble_eq_true rfl) (by omega) (by omega) ?_
      refine AW_iinc (lv' := [_, _, _, _, _, _, _, _]) dX7_layTrays_37 rfl (by decide) rfl ?_
      refine AW_goto (tgt := 23) dX7_layTrays_40 (by decide) ?_
      rw [am_row_s (g := fun _ => -6) rfl]
      exact ih (by omega))
theorem c_layTrays7 {X : Row} {n : Nat} {pl : Nat → Option Sl} {σ0 : am_S} (hP : PlanSpec (gA X (-6)) n pl) (hR : ∀ k, k < n → wbR (σ0.1 82) (σ0.1 83) k (pl k)) (hX : σ0.1 71 = X) (hmany : X 6423 = (n : Nat)) (hn : n ≤ 20) (hT : WT X) (hN : WN X) : Runs am_tab mX7_layTrays [vR 70] σ0 (QV (fun σ' => Eqx [84, 85] σ0 σ' ∧ TRr (σ'.1 84) (σ'.1 85) (trS X pl n 1204))) := by
  refine Runs.of (by decide) rfl (by simp) (Nat.le_of_ble_eq_true rfl) ?_
  show AW am_tab mX7_layTrays 0 [some (vR 70), none, none, none, none, none, none, none] [] σ0 _
  refine AW_iconst dX7_layTrays_0 ?_
  refine AW_istore_n (i := 1) (lv' := [_, _, _, _, _, _, _, _]) dX7_layTrays_1 rfl (by decide) (Nat.le_of_ble_eq_true rfl) rfl ?_
  suffices hs : AW am_tab mX7_layTrays 21 [some (vR 70), some (vI (18 : Nat)), none, none, none, none, none, none] [] (am_row σ0 84 18 (fun _ => 0)) _ by
    have h9 := l_layTrays7a hs 0 (by omega)
    rw [am_row_0] at h9
    exact h9
  refine AW_iconst dX7_layTrays_21 ?_
  refine AW_istore_n (i := 1) (lv' := [_, _, _, _, _, _, _, _]) dX7_layTrays_22 rfl (by decide) (Nat.le_of_ble_eq_true rfl) rfl ?_
  suffices hs : AW am_tab mX7_layTrays 43 [some (vR 70), some (vI (20 : Nat)), none, none, none, none, none, none] [] (am_row (am_row σ0 84 18 (fun _ => 0)) 85 20 (fun _ => -6)) _ by
    have h9 := l_layTrays7b hs 0 (by omega)
    rw [am_row_0] at h9
    exact h9
  refine AW_iconst dX7_layTrays_43 ?_
  refine AW_istore_n (i := 1) (lv' := [_, _, _, _, _, _, _, _]) dX7_layTrays_44 rfl (by decide) (Nat.le_of_ble_eq_true rfl) rfl ?_
  refine l_layTrays7s hP hR hX hmany hn hT hN (fun σ2 h1 h2 => ⟨rfl, h1, h2⟩) 0 (by omega) _ ((Eqx.rf.row (by decide)).row (by decide)) ⟨fun p hp => ?_, fun k hk => ?_⟩ _ _ _ _ _ _
  · rw [am_row_other (by decide), am_row_at hp]; rfl
  · rw [am_row_at hk]; rfl
end
