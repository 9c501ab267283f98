-- ===== PART A: goes FIRST, ahead of the names: the tables' words, and 'selects' of the private methods out of them =====
/-- a private method of a class that the tables say can be made, by its rows of tables_1 -/
def lw_okq (q : MethodName × Nat) : Prop := (q.1.cls ≠ "java/lang/invoke/MethodHandle" ∧ q.1.cls ≠ "java/lang/invoke/VarHandle") ∧ Cond.instantiable q.1.cls q.2 ∈ tables_1 ∧ Cond.privateMethod q.1 ∈ tables_1 ∧ Cond.instanceMethod q.1 ∈ tables_1
theorem lw_p0 : lw_okq (⟨"BeltArms$Belt", "addUp", "()V"⟩, 5) := ⟨⟨by decide +kernel, by decide +kernel⟩, List.mem_of_getElem? (i := 28) (by decide +kernel), List.mem_of_getElem? (i := 34) (by decide +kernel), List.mem_of_getElem? (i := 35) (by decide +kernel)⟩
theorem lw_p1 : lw_okq (⟨"BeltArms$Belt", "begunBy", "(I)I"⟩, 5) := ⟨⟨by decide +kernel, by decide +kernel⟩, List.mem_of_getElem? (i := 28) (by decide +kernel), List.mem_of_getElem? (i := 246) (by decide +kernel), List.mem_of_getElem? (i := 247) (by decide +kernel)⟩
theorem lw_p2 : lw_okq (⟨"BeltArms$Belt", "insert", "(III)V"⟩, 5) := ⟨⟨by decide +kernel, by decide +kernel⟩, List.mem_of_getElem? (i := 28) (by decide +kernel), List.mem_of_getElem? (i := 259) (by decide +kernel), List.mem_of_getElem? (i := 260) (by decide +kernel)⟩
theorem lw_p3 : lw_okq (⟨"BeltArms", "isThing", "(I)Z"⟩, 7) := ⟨⟨by decide +kernel, by decide +kernel⟩, List.mem_of_getElem? (i := 14) (by decide +kernel), List.mem_of_getElem? (i := 307) (by decide +kernel), List.mem_of_getElem? (i := 308) (by decide +kernel)⟩
theorem lw_p4 : lw_okq (⟨"BeltArms", "freshPlan", "()LBeltArms$Plan;"⟩, 7) := ⟨⟨by decide +kernel, by decide +kernel⟩, List.mem_of_getElem? (i := 14) (by decide +kernel), List.mem_of_getElem? (i := 332) (by decide +kernel), List.mem_of_getElem? (i := 333) (by decide +kernel)⟩
theorem lw_p5 : lw_okq (⟨"BeltArms$Plan", "listSlots", "(LBeltArms$State;II)V"⟩, 11) := ⟨⟨by decide +kernel, by decide +kernel⟩, List.mem_of_getElem? (i := 153) (by decide +kernel), List.mem_of_getElem? (i := 343) (by decide +kernel), List.mem_of_getElem? (i := 344) (by decide +kernel)⟩
theorem lw_p6 : lw_okq (⟨"BeltArms$Plan", "listSlotsOf", "(LBeltArms$State;II)V"⟩, 11) := ⟨⟨by decide +kernel, by decide +kernel⟩, List.mem_of_getElem? (i := 153) (by decide +kernel), List.mem_of_getElem? (i := 351) (by decide +kernel), List.mem_of_getElem? (i := 352) (by decide +kernel)⟩
theorem lw_p7 : lw_okq (⟨"BeltArms$Plan", "takeOneMore", "(I)Z"⟩, 11) := ⟨⟨by decide +kernel, by decide +kernel⟩, List.mem_of_getElem? (i := 153) (by decide +kernel), List.mem_of_getElem? (i := 387) (by decide +kernel), List.mem_of_getElem? (i := 388) (by decide +kernel)⟩
theorem lw_p8 : lw_okq (⟨"BeltArms$Plan", "enqueue", "(II)V"⟩, 11) := ⟨⟨by decide +kernel, by decide +kernel⟩, List.mem_of_getElem? (i := 153) (by decide +kernel), List.mem_of_getElem? (i := 391) (by decide +kernel), List.mem_of_getElem? (i := 392) (by decide +kernel)⟩
theorem lw_p9 : lw_okq (⟨"BeltArms$Plan", "freeSlot", "(II)I"⟩, 11) := ⟨⟨by decide +kernel, by decide +kernel⟩, List.mem_of_getElem? (i := 153) (by decide +kernel), List.mem_of_getElem? (i := 395) (by decide +kernel), List.mem_of_getElem? (i := 396) (by decide +kernel)⟩
theorem lw_p10 : lw_okq (⟨"BeltArms$Plan", "moveUp", "(II)V"⟩, 11) := ⟨⟨by decide +kernel, by decide +kernel⟩, List.mem_of_getElem? (i := 153) (by decide +kernel), List.mem_of_getElem? (i := 399) (by decide +kernel), List.mem_of_getElem? (i := 400) (by decide +kernel)⟩
theorem lw_p11 : lw_okq (⟨"BeltArms$Plan", "hold", "(II)V"⟩, 11) := ⟨⟨by decide +kernel, by decide +kernel⟩, List.mem_of_getElem? (i := 153) (by decide +kernel), List.mem_of_getElem? (i := 403) (by decide +kernel), List.mem_of_getElem? (i := 404) (by decide +kernel)⟩
theorem lw_p12 : lw_okq (⟨"BeltArms$Plan", "settleAt", "(II)Z"⟩, 11) := ⟨⟨by decide +kernel, by decide +kernel⟩, List.mem_of_getElem? (i := 153) (by decide +kernel), List.mem_of_getElem? (i := 411) (by decide +kernel), List.mem_of_getElem? (i := 412) (by decide +kernel)⟩
theorem lw_p13 : lw_okq (⟨"BeltArms$Plan", "leave", "(I)V"⟩, 11) := ⟨⟨by decide +kernel, by decide +kernel⟩, List.mem_of_getElem? (i := 153) (by decide +kernel), List.mem_of_getElem? (i := 415) (by decide +kernel), List.mem_of_getElem? (i := 416) (by decide +kernel)⟩
theorem lw_p14 : lw_okq (⟨"BeltArms$Trays", "emptiest", "(II)I"⟩, 2) := ⟨⟨by decide +kernel, by decide +kernel⟩, List.mem_of_getElem? (i := 195) (by decide +kernel), List.mem_of_getElem? (i := 428) (by decide +kernel), List.mem_of_getElem? (i := 429) (by decide +kernel)⟩
theorem lw_p15 : lw_okq (⟨"BeltArmsModel", "changes", "()I"⟩, 16) := ⟨⟨by decide +kernel, by decide +kernel⟩, List.mem_of_getElem? (i := 581) (by decide +kernel), List.mem_of_getElem? (i := 647) (by decide +kernel), List.mem_of_getElem? (i := 648) (by decide +kernel)⟩
def lw_privs_1 : List (MethodName × Nat) := [(⟨"BeltArms$Belt", "addUp", "()V"⟩, 5), (⟨"BeltArms$Belt", "begunBy", "(I)I"⟩, 5), (⟨"BeltArms$Belt", "insert", "(III)V"⟩, 5), (⟨"BeltArms", "isThing", "(I)Z"⟩, 7), (⟨"BeltArms", "freshPlan", "()LBeltArms$Plan;"⟩, 7), (⟨"BeltArms$Plan", "listSlots", "(LBeltArms$State;II)V"⟩, 11), (⟨"BeltArms$Plan", "listSlotsOf", "(LBeltArms$State;II)V"⟩, 11), (⟨"BeltArms$Plan", "takeOneMore", "(I)Z"⟩, 11), (⟨"BeltArms$Plan", "enqueue", "(II)V"⟩, 11), (⟨"BeltArms$Plan", "freeSlot", "(II)I"⟩, 11), (⟨"BeltArms$Plan", "moveUp", "(II)V"⟩, 11), (⟨"BeltArms$Plan", "hold", "(II)V"⟩, 11), (⟨"BeltArms$Plan", "settleAt", "(II)Z"⟩, 11), (⟨"BeltArms$Plan", "leave", "(I)V"⟩, 11), (⟨"BeltArms$Trays", "emptiest", "(II)I"⟩, 2), (⟨"BeltArmsModel", "changes", "()I"⟩, 16)]
theorem lw_r1 : ∀ q ∈ lw_privs_1, lw_okq q := List.forall_mem_cons.mpr ⟨lw_p0, List.forall_mem_cons.mpr ⟨lw_p1, List.forall_mem_cons.mpr ⟨lw_p2, List.forall_mem_cons.mpr ⟨lw_p3, List.forall_mem_cons.mpr ⟨lw_p4, List.forall_mem_cons.mpr ⟨lw_p5, List.forall_mem_cons.mpr ⟨lw_p6, List.forall_mem_cons.mpr ⟨lw_p7, List.forall_mem_cons.mpr ⟨lw_p8, List.forall_mem_cons.mpr ⟨lw_p9, List.forall_mem_cons.mpr ⟨lw_p10, List.forall_mem_cons.mpr ⟨lw_p11, List.forall_mem_cons.mpr ⟨lw_p12, List.forall_mem_cons.mpr ⟨lw_p13, List.forall_mem_cons.mpr ⟨lw_p14, List.forall_mem_cons.mpr ⟨lw_p15, fun _ h => absurd h List.not_mem_nil⟩⟩⟩⟩⟩⟩⟩⟩⟩⟩⟩⟩⟩⟩⟩⟩
theorem lw_p16 : lw_okq (⟨"BeltArmsModel", "speedAt", "(I)I"⟩, 16) := ⟨⟨by decide +kernel, by decide +kernel⟩, List.mem_of_getElem? (i := 581) (by decide +kernel), List.mem_of_getElem? (i := 651) (by decide +kernel), List.mem_of_getElem? (i := 652) (by decide +kernel)⟩
theorem lw_p17 : lw_okq (⟨"BeltArmsModel", "layGone", "()V"⟩, 16) := ⟨⟨by decide +kernel, by decide +kernel⟩, List.mem_of_getElem? (i := 581) (by decide +kernel), List.mem_of_getElem? (i := 663) (by decide +kernel), List.mem_of_getElem? (i := 664) (by decide +kernel)⟩
theorem lw_p18 : lw_okq (⟨"BeltArmsModel", "placeOf", "(II)I"⟩, 16) := ⟨⟨by decide +kernel, by decide +kernel⟩, List.mem_of_getElem? (i := 581) (by decide +kernel), List.mem_of_getElem? (i := 671) (by decide +kernel), List.mem_of_getElem? (i := 672) (by decide +kernel)⟩
theorem lw_p19 : lw_okq (⟨"BeltArmsModel", "wasSeen", "(II)Z"⟩, 16) := ⟨⟨by decide +kernel, by decide +kernel⟩, List.mem_of_getElem? (i := 581) (by decide +kernel), List.mem_of_getElem? (i := 678) (by decide +kernel), List.mem_of_getElem? (i := 679) (by decide +kernel)⟩
theorem lw_p20 : lw_okq (⟨"BeltArmsModel", "isThing", "(I)Z"⟩, 16) := ⟨⟨by decide +kernel, by decide +kernel⟩, List.mem_of_getElem? (i := 581) (by decide +kernel), List.mem_of_getElem? (i := 686) (by decide +kernel), List.mem_of_getElem? (i := 687) (by decide +kernel)⟩
theorem lw_p21 : lw_okq (⟨"BeltArmsModel", "canTake", "(III)Z"⟩, 16) := ⟨⟨by decide +kernel, by decide +kernel⟩, List.mem_of_getElem? (i := 581) (by decide +kernel), List.mem_of_getElem? (i := 713) (by decide +kernel), List.mem_of_getElem? (i := 714) (by decide +kernel)⟩
theorem lw_p22 : lw_okq (⟨"BeltArmsModel", "layPlan", "()V"⟩, 16) := ⟨⟨by decide +kernel, by decide +kernel⟩, List.mem_of_getElem? (i := 581) (by decide +kernel), List.mem_of_getElem? (i := 721) (by decide +kernel), List.mem_of_getElem? (i := 722) (by decide +kernel)⟩
theorem lw_p23 : lw_okq (⟨"BeltArmsModel", "layArms", "(I)V"⟩, 16) := ⟨⟨by decide +kernel, by decide +kernel⟩, List.mem_of_getElem? (i := 581) (by decide +kernel), List.mem_of_getElem? (i := 725) (by decide +kernel), List.mem_of_getElem? (i := 726) (by decide +kernel)⟩
theorem lw_p24 : lw_okq (⟨"BeltArmsModel", "clear", "()V"⟩, 16) := ⟨⟨by decide +kernel, by decide +kernel⟩, List.mem_of_getElem? (i := 581) (by decide +kernel), List.mem_of_getElem? (i := 729) (by decide +kernel), List.mem_of_getElem? (i := 730) (by decide +kernel)⟩
theorem lw_p25 : lw_okq (⟨"BeltArmsModel", "most", "(I)I"⟩, 16) := ⟨⟨by decide +kernel, by decide +kernel⟩, List.mem_of_getElem? (i := 581) (by decide +kernel), List.mem_of_getElem? (i := 733) (by decide +kernel), List.mem_of_getElem? (i := 734) (by decide +kernel)⟩
theorem lw_p26 : lw_okq (⟨"BeltArmsModel", "find", "(I)Z"⟩, 16) := ⟨⟨by decide +kernel, by decide +kernel⟩, List.mem_of_getElem? (i := 581) (by decide +kernel), List.mem_of_getElem? (i := 737) (by decide +kernel), List.mem_of_getElem? (i := 738) (by decide +kernel)⟩
theorem lw_p27 : lw_okq (⟨"BeltArmsModel", "turn", "(II)V"⟩, 16) := ⟨⟨by decide +kernel, by decide +kernel⟩, List.mem_of_getElem? (i := 581) (by decide +kernel), List.mem_of_getElem? (i := 744) (by decide +kernel), List.mem_of_getElem? (i := 745) (by decide +kernel)⟩
theorem lw_p28 : lw_okq (⟨"BeltArmsModel", "layTrays", "()V"⟩, 16) := ⟨⟨by decide +kernel, by decide +kernel⟩, List.mem_of_getElem? (i := 581) (by decide +kernel), List.mem_of_getElem? (i := 748) (by decide +kernel), List.mem_of_getElem? (i := 749) (by decide +kernel)⟩
theorem lw_p29 : lw_okq (⟨"BeltArmsModel", "seenOf", "(I)I"⟩, 16) := ⟨⟨by decide +kernel, by decide +kernel⟩, List.mem_of_getElem? (i := 581) (by decide +kernel), List.mem_of_getElem? (i := 756) (by decide +kernel), List.mem_of_getElem? (i := 757) (by decide +kernel)⟩
theorem lw_p30 : lw_okq (⟨"BeltArmsModel", "planned", "(II)I"⟩, 16) := ⟨⟨by decide +kernel, by decide +kernel⟩, List.mem_of_getElem? (i := 581) (by decide +kernel), List.mem_of_getElem? (i := 760) (by decide +kernel), List.mem_of_getElem? (i := 761) (by decide +kernel)⟩
theorem lw_p31 : lw_okq (⟨"BeltArmsModel", "canAt", "(II)I"⟩, 16) := ⟨⟨by decide +kernel, by decide +kernel⟩, List.mem_of_getElem? (i := 581) (by decide +kernel), List.mem_of_getElem? (i := 764) (by decide +kernel), List.mem_of_getElem? (i := 765) (by decide +kernel)⟩
def lw_privs_2 : List (MethodName × Nat) := [(⟨"BeltArmsModel", "speedAt", "(I)I"⟩, 16), (⟨"BeltArmsModel", "layGone", "()V"⟩, 16), (⟨"BeltArmsModel", "placeOf", "(II)I"⟩, 16), (⟨"BeltArmsModel", "wasSeen", "(II)Z"⟩, 16), (⟨"BeltArmsModel", "isThing", "(I)Z"⟩, 16), (⟨"BeltArmsModel", "canTake", "(III)Z"⟩, 16), (⟨"BeltArmsModel", "layPlan", "()V"⟩, 16), (⟨"BeltArmsModel", "layArms", "(I)V"⟩, 16), (⟨"BeltArmsModel", "clear", "()V"⟩, 16), (⟨"BeltArmsModel", "most", "(I)I"⟩, 16), (⟨"BeltArmsModel", "find", "(I)Z"⟩, 16), (⟨"BeltArmsModel", "turn", "(II)V"⟩, 16), (⟨"BeltArmsModel", "layTrays", "()V"⟩, 16), (⟨"BeltArmsModel", "seenOf", "(I)I"⟩, 16), (⟨"BeltArmsModel", "planned", "(II)I"⟩, 16), (⟨"BeltArmsModel", "canAt", "(II)I"⟩, 16)]
theorem lw_r2 : ∀ q ∈ lw_privs_2, lw_okq q := List.forall_mem_cons.mpr ⟨lw_p16, List.forall_mem_cons.mpr ⟨lw_p17, List.forall_mem_cons.mpr ⟨lw_p18, List.forall_mem_cons.mpr ⟨lw_p19, List.forall_mem_cons.mpr ⟨lw_p20, List.forall_mem_cons.mpr ⟨lw_p21, List.forall_mem_cons.mpr ⟨lw_p22, List.forall_mem_cons.mpr ⟨lw_p23, List.forall_mem_cons.mpr ⟨lw_p24, List.forall_mem_cons.mpr ⟨lw_p25, List.forall_mem_cons.mpr ⟨lw_p26, List.forall_mem_cons.mpr ⟨lw_p27, List.forall_mem_cons.mpr ⟨lw_p28, List.forall_mem_cons.mpr ⟨lw_p29, List.forall_mem_cons.mpr ⟨lw_p30, List.forall_mem_cons.mpr ⟨lw_p31, fun _ h => absurd h List.not_mem_nil⟩⟩⟩⟩⟩⟩⟩⟩⟩⟩⟩⟩⟩⟩⟩⟩
theorem lw_p32 : lw_okq (⟨"BeltArmsModel", "takenBy", "(I)I"⟩, 16) := ⟨⟨by decide +kernel, by decide +kernel⟩, List.mem_of_getElem? (i := 581) (by decide +kernel), List.mem_of_getElem? (i := 772) (by decide +kernel), List.mem_of_getElem? (i := 773) (by decide +kernel)⟩
theorem lw_p33 : lw_okq (⟨"BeltArmsModel", "mostWithout", "(I)I"⟩, 16) := ⟨⟨by decide +kernel, by decide +kernel⟩, List.mem_of_getElem? (i := 581) (by decide +kernel), List.mem_of_getElem? (i := 776) (by decide +kernel), List.mem_of_getElem? (i := 777) (by decide +kernel)⟩
theorem lw_p34 : lw_okq (⟨"BeltArmsModel", "inEach", "()I"⟩, 16) := ⟨⟨by decide +kernel, by decide +kernel⟩, List.mem_of_getElem? (i := 581) (by decide +kernel), List.mem_of_getElem? (i := 788) (by decide +kernel), List.mem_of_getElem? (i := 789) (by decide +kernel)⟩
theorem lw_p35 : lw_okq (⟨"BeltArmsModel", "ofKind", "(I)I"⟩, 16) := ⟨⟨by decide +kernel, by decide +kernel⟩, List.mem_of_getElem? (i := 581) (by decide +kernel), List.mem_of_getElem? (i := 808) (by decide +kernel), List.mem_of_getElem? (i := 809) (by decide +kernel)⟩
theorem lw_p36 : lw_okq (⟨"BeltArmsModel", "seenTwice", "()I"⟩, 16) := ⟨⟨by decide +kernel, by decide +kernel⟩, List.mem_of_getElem? (i := 581) (by decide +kernel), List.mem_of_getElem? (i := 812) (by decide +kernel), List.mem_of_getElem? (i := 813) (by decide +kernel)⟩
def lw_privs_3 : List (MethodName × Nat) := [(⟨"BeltArmsModel", "takenBy", "(I)I"⟩, 16), (⟨"BeltArmsModel", "mostWithout", "(I)I"⟩, 16), (⟨"BeltArmsModel", "inEach", "()I"⟩, 16), (⟨"BeltArmsModel", "ofKind", "(I)I"⟩, 16), (⟨"BeltArmsModel", "seenTwice", "()I"⟩, 16)]
theorem lw_r3 : ∀ q ∈ lw_privs_3, lw_okq q := List.forall_mem_cons.mpr ⟨lw_p32, List.forall_mem_cons.mpr ⟨lw_p33, List.forall_mem_cons.mpr ⟨lw_p34, List.forall_mem_cons.mpr ⟨lw_p35, List.forall_mem_cons.mpr ⟨lw_p36, fun _ h => absurd h List.not_mem_nil⟩⟩⟩⟩⟩
def lw_privs : List (MethodName × Nat) := lw_privs_1 ++ (lw_privs_2 ++ (lw_privs_3))
def lw_tbl : List Cond := k2_sels lw_privs ++ tables_1
theorem lw_privs_ok : ∀ q ∈ lw_privs, lw_okq q := by
  show ∀ q ∈ lw_privs_1 ++ (lw_privs_2 ++ (lw_privs_3)), lw_okq q
  exact List.forall_mem_append.mpr ⟨lw_r1, List.forall_mem_append.mpr ⟨lw_r2, lw_r3⟩⟩
/-! ===== BEGIN words of one list among another's, by their places ===== -/
theorem goodIn_r {big : List Cond} (ws : List Cond) (ps : List Nat) (hp : ws = ps.filterMap (fun i => big[i]?)) (h : ws.all goodWord = true) : GoodIn big ws := by
  intro w hw
  have h1 := List.all_eq_true.mp h w hw
  rw [hp] at hw
  obtain ⟨i, -, hi⟩ := List.mem_filterMap.mp hw
  have hm : w ∈ big := by first | exact List.mem_of_getElem? hi | exact List.getElem?_mem hi
  exact ⟨hm, good_of_word h1⟩
theorem goodIn_app {big a b : List Cond} (ha : GoodIn big a) (hb : GoodIn big b) : GoodIn big (a ++ b) := fun w h => (List.mem_append.mp h).elim (ha w) (hb w)
theorem goodIn_ca {big a b : List Cond} {c : Cond} (ha : GoodIn big (c :: a)) (hb : GoodIn big b) : GoodIn big (c :: (a ++ b)) := fun w h => (List.mem_cons.mp h).elim (fun e => ha w (List.mem_cons.mpr (Or.inl e))) (fun h => (List.mem_append.mp h).elim (fun h => ha w (List.mem_cons.mpr (Or.inr h))) (hb w))
theorem goodIn_sub {big ws : List Cond} (hm : ∀ w ∈ ws, w ∈ big) (h : ws.all goodWord = true) : GoodIn big ws := fun w hw => ⟨hm w hw, good_of_word (List.all_eq_true.mp h w hw)⟩
/-! ===== END ===== -/
def RX0 : String := "BeltArms$Arms"
def TX0 : u_T := fun k => match k with
  | 0 => ("BeltArms$Arms", "froms", "[I", true)
  | 1 => ("BeltArms$Arms", "tills", "[I", true)
  | 2 => ("BeltArms$Arms", "beats", "[I", true)
  | 3 => ("BeltArms$Arms", "offs", "[I", true)
  | _ => ("BeltArms$Arms", "laneSets", "[I", true)
def tyX0 : Nat → FieldType := fun k => match k with
  | 0 => .array .int
  | 1 => .array .int
  | 2 => .array .int
  | 3 => .array .int
  | _ => .array .int
abbrev wsX00 : List Cond := u_ws RX0 TX0 5
theorem nmX0 : ∀ a, a < 5 → ∀ b, b < 5 → a ≠ b → (TX0 a).2.1 ≠ (TX0 b).2.1 := by decide +kernel
theorem tyX0_ok : ∀ k, k < 5 → parseFieldDescriptor (TX0 k).2.2.1 = some (tyX0 k) := by decide +kernel
abbrev cX0_init : ByteArray := prog_2_method_1_code
def yX0_init : MethodName := ⟨RX0, "<init>", "()V"⟩
abbrev cX0_copyFrom : ByteArray := prog_2_method_2_code
def yX0_copyFrom : MethodName := ⟨RX0, "copyFrom", "(LBeltArms$Arms;)V"⟩
abbrev cX0_othersReach : ByteArray := prog_2_method_3_code
def yX0_othersReach : MethodName := ⟨RX0, "othersReach", "(III)Z"⟩
abbrev cX0_hasLane : ByteArray := prog_2_method_4_code
def yX0_hasLane : MethodName := ⟨RX0, "hasLane", "(II)Z"⟩
abbrev cX0_reaches : ByteArray := prog_2_method_5_code
def yX0_reaches : MethodName := ⟨RX0, "reaches", "(II)Z"⟩
abbrev cX0_hasBeatAt : ByteArray := prog_2_method_6_code
def yX0_hasBeatAt : MethodName := ⟨RX0, "hasBeatAt", "(II)Z"⟩
abbrev cX0_beatFrom : ByteArray := prog_2_method_7_code
def yX0_beatFrom : MethodName := ⟨RX0, "beatFrom", "(II)I"⟩
abbrev cX0_beatTill : ByteArray := prog_2_method_8_code
def yX0_beatTill : MethodName := ⟨RX0, "beatTill", "(II)I"⟩
abbrev cX0_nextAlong : ByteArray := prog_2_method_9_code
def yX0_nextAlong : MethodName := ⟨RX0, "nextAlong", "(I)I"⟩
def RX1 : String := "BeltArms$Belt"
def TX1 : u_T := fun k => match k with
  | 0 => ("BeltArms$Belt", "firstSpeed", "I", false)
  | 1 => ("BeltArms$Belt", "changes", "I", false)
  | 2 => ("BeltArms$Belt", "ticks", "[I", true)
  | 3 => ("BeltArms$Belt", "speeds", "[I", true)
  | _ => ("BeltArms$Belt", "goneAt", "[I", true)
def tyX1 : Nat → FieldType := fun k => match k with
  | 0 => .int
  | 1 => .int
  | 2 => .array .int
  | 3 => .array .int
  | _ => .array .int
abbrev wsX10 : List Cond := u_ws RX1 TX1 5
theorem nmX1 : ∀ a, a < 5 → ∀ b, b < 5 → a ≠ b → (TX1 a).2.1 ≠ (TX1 b).2.1 := by decide +kernel
theorem tyX1_ok : ∀ k, k < 5 → parseFieldDescriptor (TX1 k).2.2.1 = some (tyX1 k) := by decide +kernel
abbrev cX1_init : ByteArray := prog_3_method_1_code
def yX1_init : MethodName := ⟨RX1, "<init>", "()V"⟩
abbrev cX1_copyFrom : ByteArray := prog_3_method_2_code
def yX1_copyFrom : MethodName := ⟨RX1, "copyFrom", "(LBeltArms$Belt;)V"⟩
abbrev cX1_begunBy : ByteArray := prog_3_method_3_code
def yX1_begunBy : MethodName := ⟨RX1, "begunBy", "(I)I"⟩
abbrev cX1_speedAt : ByteArray := prog_3_method_4_code
def yX1_speedAt : MethodName := ⟨RX1, "speedAt", "(I)I"⟩
abbrev cX1_changeAt : ByteArray := prog_3_method_5_code
def yX1_changeAt : MethodName := ⟨RX1, "changeAt", "(I)I"⟩
abbrev cX1_tell : ByteArray := prog_3_method_6_code
def yX1_tell : MethodName := ⟨RX1, "tell", "(II)V"⟩
abbrev cX1_insert : ByteArray := prog_3_method_7_code
def yX1_insert : MethodName := ⟨RX1, "insert", "(III)V"⟩
abbrev cX1_forget : ByteArray := prog_3_method_8_code
def yX1_forget : MethodName := ⟨RX1, "forget", "(I)V"⟩
abbrev cX1_addUp : ByteArray := prog_3_method_9_code
def yX1_addUp : MethodName := ⟨RX1, "addUp", "()V"⟩
abbrev cX1_firstTickGone : ByteArray := prog_3_method_10_code
def yX1_firstTickGone : MethodName := ⟨RX1, "firstTickGone", "(I)I"⟩
def RX2 : String := "BeltArms$Plan"
def TX2 : u_T := fun k => match k with
  | 0 => ("BeltArms$Plan", "count", "I", false)
  | 1 => ("BeltArms$Plan", "taken", "I", false)
  | 2 => ("BeltArms$Plan", "slots", "[I", true)
  | 3 => ("BeltArms$Plan", "slotCounts", "[I", true)
  | 4 => ("BeltArms$Plan", "slotOf", "[I", true)
  | 5 => ("BeltArms$Plan", "holderOf", "[I", true)
  | 6 => ("BeltArms$Plan", "queue", "[I", true)
  | 7 => ("BeltArms$Plan", "wantedBy", "[I", true)
  | 8 => ("BeltArms$Plan", "queued", "I", false)
  | 9 => ("BeltArms$Plan", "reachedSet", "I", false)
  | _ => ("BeltArms$Plan", "replaceableSet", "I", false)
def tyX2 : Nat → FieldType := fun k => match k with
  | 0 => .int
  | 1 => .int
  | 2 => .array .int
  | 3 => .array .int
  | 4 => .array .int
  | 5 => .array .int
  | 6 => .array .int
  | 7 => .array .int
  | 8 => .int
  | 9 => .int
  | _ => .int
abbrev wsX20 : List Cond := u_ws RX2 TX2 11
theorem nmX2 : ∀ a, a < 11 → ∀ b, b < 11 → a ≠ b → (TX2 a).2.1 ≠ (TX2 b).2.1 := by decide +kernel
theorem tyX2_ok : ∀ k, k < 11 → parseFieldDescriptor (TX2 k).2.2.1 = some (tyX2 k) := by decide +kernel
abbrev cX2_init : ByteArray := prog_4_method_1_code
def yX2_init : MethodName := ⟨RX2, "<init>", "()V"⟩
abbrev cX2_takeMost : ByteArray := prog_4_method_2_code
def yX2_takeMost : MethodName := ⟨RX2, "takeMost", "(LBeltArms$State;I)V"⟩
abbrev cX2_listSlots : ByteArray := prog_4_method_3_code
def yX2_listSlots : MethodName := ⟨RX2, "listSlots", "(LBeltArms$State;II)V"⟩
abbrev cX2_listSlotsOf : ByteArray := prog_4_method_4_code
def yX2_listSlotsOf : MethodName := ⟨RX2, "listSlotsOf", "(LBeltArms$State;II)V"⟩
abbrev cX2_settle : ByteArray := prog_4_method_5_code
def yX2_settle : MethodName := ⟨RX2, "settle", "()V"⟩
abbrev cX2_settleAt : ByteArray := prog_4_method_6_code
def yX2_settleAt : MethodName := ⟨RX2, "settleAt", "(II)Z"⟩
abbrev cX2_hold : ByteArray := prog_4_method_7_code
def yX2_hold : MethodName := ⟨RX2, "hold", "(II)V"⟩
abbrev cX2_leave : ByteArray := prog_4_method_8_code
def yX2_leave : MethodName := ⟨RX2, "leave", "(I)V"⟩
abbrev cX2_takeOneMore : ByteArray := prog_4_method_9_code
def yX2_takeOneMore : MethodName := ⟨RX2, "takeOneMore", "(I)Z"⟩
abbrev cX2_freeSlot : ByteArray := prog_4_method_10_code
def yX2_freeSlot : MethodName := ⟨RX2, "freeSlot", "(II)I"⟩
abbrev cX2_enqueue : ByteArray := prog_4_method_11_code
def yX2_enqueue : MethodName := ⟨RX2, "enqueue", "(II)V"⟩
abbrev cX2_moveUp : ByteArray := prog_4_method_12_code
def yX2_moveUp : MethodName := ⟨RX2, "moveUp", "(II)V"⟩
abbrev cX2_tickOf : ByteArray := prog_4_method_13_code
def yX2_tickOf : MethodName := ⟨RX2, "tickOf", "(I)I"⟩
abbrev cX2_armOf : ByteArray := prog_4_method_14_code
def yX2_armOf : MethodName := ⟨RX2, "armOf", "(I)I"⟩
abbrev cX2_takenAt : ByteArray := prog_4_method_15_code
def yX2_takenAt : MethodName := ⟨RX2, "takenAt", "(II)I"⟩
abbrev cX2_takenBy : ByteArray := prog_4_method_16_code
def yX2_takenBy : MethodName := ⟨RX2, "takenBy", "(I)I"⟩
abbrev cX2_lastTick : ByteArray := prog_4_method_17_code
def yX2_lastTick : MethodName := ⟨RX2, "lastTick", "()I"⟩
abbrev cX2_missedSet : ByteArray := prog_4_method_18_code
def yX2_missedSet : MethodName := ⟨RX2, "missedSet", "()I"⟩
abbrev cX2_neededSet : ByteArray := prog_4_method_19_code
def yX2_neededSet : MethodName := ⟨RX2, "neededSet", "()I"⟩
abbrev cX2_nextTaken : ByteArray := prog_4_method_20_code
def yX2_nextTaken : MethodName := ⟨RX2, "nextTaken", "(I)I"⟩
def RX3 : String := "BeltArms$State"
def TX3 : u_T := fun k => match k with
  | 0 => ("BeltArms$State", "belt", "LBeltArms$Belt;", true)
  | 1 => ("BeltArms$State", "things", "LBeltArms$Things;", true)
  | 2 => ("BeltArms$State", "arms", "LBeltArms$Arms;", true)
  | 3 => ("BeltArms$State", "near", "I", false)
  | _ => ("BeltArms$State", "share", "I", false)
def tyX3 : Nat → FieldType := fun k => match k with
  | 0 => .object "BeltArms$Belt"
  | 1 => .object "BeltArms$Things"
  | 2 => .object "BeltArms$Arms"
  | 3 => .int
  | _ => .int
abbrev wsX30 : List Cond := u_ws RX3 TX3 5
theorem nmX3 : ∀ a, a < 5 → ∀ b, b < 5 → a ≠ b → (TX3 a).2.1 ≠ (TX3 b).2.1 := by decide +kernel
theorem tyX3_ok : ∀ k, k < 5 → parseFieldDescriptor (TX3 k).2.2.1 = some (tyX3 k) := by decide +kernel
abbrev cX3_init : ByteArray := prog_5_method_1_code
def yX3_init : MethodName := ⟨RX3, "<init>", "()V"⟩
abbrev cX3_copyFrom : ByteArray := prog_5_method_2_code
def yX3_copyFrom : MethodName := ⟨RX3, "copyFrom", "(LBeltArms$State;)V"⟩
abbrev cX3_placeAt : ByteArray := prog_5_method_3_code
def yX3_placeAt : MethodName := ⟨RX3, "placeAt", "(II)I"⟩
abbrev cX3_nearest : ByteArray := prog_5_method_4_code
def yX3_nearest : MethodName := ⟨RX3, "nearest", "(IIII)I"⟩
abbrev cX3_canTake : ByteArray := prog_5_method_5_code
def yX3_canTake : MethodName := ⟨RX3, "canTake", "(III)Z"⟩
abbrev cX3_firstChanceOf : ByteArray := prog_5_method_6_code
def yX3_firstChanceOf : MethodName := ⟨RX3, "firstChanceOf", "(II)I"⟩
abbrev cX3_lastChanceOf : ByteArray := prog_5_method_7_code
def yX3_lastChanceOf : MethodName := ⟨RX3, "lastChanceOf", "(II)I"⟩
abbrev cX3_firstChance : ByteArray := prog_5_method_8_code
def yX3_firstChance : MethodName := ⟨RX3, "firstChance", "(I)I"⟩
abbrev cX3_lastChance : ByteArray := prog_5_method_9_code
def yX3_lastChance : MethodName := ⟨RX3, "lastChance", "(I)I"⟩
abbrev cX3_chances : ByteArray := prog_5_method_10_code
def yX3_chances : MethodName := ⟨RX3, "chances", "(I)I"⟩
def RX4 : String := "BeltArms$Things"
def TX4 : u_T := fun k => match k with
  | 0 => ("BeltArms$Things", "count", "I", false)
  | 1 => ("BeltArms$Things", "ticks", "[I", true)
  | 2 => ("BeltArms$Things", "lanes", "[I", true)
  | 3 => ("BeltArms$Things", "places", "[I", true)
  | 4 => ("BeltArms$Things", "kinds", "[I", true)
  | _ => ("BeltArms$Things", "seen", "[J", true)
def tyX4 : Nat → FieldType := fun k => match k with
  | 0 => .int
  | 1 => .array .int
  | 2 => .array .int
  | 3 => .array .int
  | 4 => .array .int
  | _ => .array .long
abbrev wsX40 : List Cond := u_ws RX4 TX4 6
theorem nmX4 : ∀ a, a < 6 → ∀ b, b < 6 → a ≠ b → (TX4 a).2.1 ≠ (TX4 b).2.1 := by decide +kernel
theorem tyX4_ok : ∀ k, k < 6 → parseFieldDescriptor (TX4 k).2.2.1 = some (tyX4 k) := by decide +kernel
abbrev cX4_init : ByteArray := prog_6_method_1_code
def yX4_init : MethodName := ⟨RX4, "<init>", "()V"⟩
abbrev cX4_copyFrom : ByteArray := prog_6_method_2_code
def yX4_copyFrom : MethodName := ⟨RX4, "copyFrom", "(LBeltArms$Things;)V"⟩
abbrev cX4_append : ByteArray := prog_6_method_3_code
def yX4_append : MethodName := ⟨RX4, "append", "(IIII)V"⟩
abbrev cX4_remove : ByteArray := prog_6_method_4_code
def yX4_remove : MethodName := ⟨RX4, "remove", "(I)V"⟩
abbrev cX4_markSeen : ByteArray := prog_6_method_5_code
def yX4_markSeen : MethodName := ⟨RX4, "markSeen", "(II)V"⟩
abbrev cX4_wasSeen : ByteArray := prog_6_method_6_code
def yX4_wasSeen : MethodName := ⟨RX4, "wasSeen", "(II)Z"⟩
abbrev cX4_timesSeen : ByteArray := prog_6_method_7_code
def yX4_timesSeen : MethodName := ⟨RX4, "timesSeen", "(I)I"⟩
abbrev cX4_seenOften : ByteArray := prog_6_method_8_code
def yX4_seenOften : MethodName := ⟨RX4, "seenOften", "()I"⟩
abbrev cX4_ofKind : ByteArray := prog_6_method_9_code
def yX4_ofKind : MethodName := ⟨RX4, "ofKind", "(I)I"⟩
def RX5 : String := "BeltArms$Trays"
def TX5 : u_T := fun k => match k with
  | 0 => ("BeltArms$Trays", "parts", "[I", true)
  | _ => ("BeltArms$Trays", "laid", "[I", true)
def tyX5 : Nat → FieldType := fun k => match k with
  | 0 => .array .int
  | _ => .array .int
abbrev wsX50 : List Cond := u_ws RX5 TX5 2
theorem nmX5 : ∀ a, a < 2 → ∀ b, b < 2 → a ≠ b → (TX5 a).2.1 ≠ (TX5 b).2.1 := by decide +kernel
theorem tyX5_ok : ∀ k, k < 2 → parseFieldDescriptor (TX5 k).2.2.1 = some (tyX5 k) := by decide +kernel
abbrev cX5_init : ByteArray := prog_7_method_1_code
def yX5_init : MethodName := ⟨RX5, "<init>", "()V"⟩
abbrev cX5_lay : ByteArray := prog_7_method_2_code
def yX5_lay : MethodName := ⟨RX5, "lay", "(LBeltArms$Plan;LBeltArms$State;)V"⟩
abbrev cX5_emptiest : ByteArray := prog_7_method_3_code
def yX5_emptiest : MethodName := ⟨RX5, "emptiest", "(II)I"⟩
def RX6 : String := "BeltArms"
def TX6 : u_T := fun k => match k with
  | 0 => ("BeltArms", "now", "LBeltArms$State;", true)
  | 1 => ("BeltArms", "images", "[LBeltArms$State;", true)
  | 2 => ("BeltArms", "kept", "I", false)
  | 3 => ("BeltArms", "thePlan", "LBeltArms$Plan;", true)
  | 4 => ("BeltArms", "lessOneArm", "LBeltArms$Plan;", true)
  | 5 => ("BeltArms", "trays", "LBeltArms$Trays;", true)
  | _ => ("BeltArms", "stale", "Z", false)
def tyX6 : Nat → FieldType := fun k => match k with
  | 0 => .object "BeltArms$State"
  | 1 => .array (.object "BeltArms$State")
  | 2 => .int
  | 3 => .object "BeltArms$Plan"
  | 4 => .object "BeltArms$Plan"
  | 5 => .object "BeltArms$Trays"
  | _ => .boolean
abbrev wsX60 : List Cond := u_ws RX6 TX6 7
theorem nmX6 : ∀ a, a < 7 → ∀ b, b < 7 → a ≠ b → (TX6 a).2.1 ≠ (TX6 b).2.1 := by decide +kernel
theorem tyX6_ok : ∀ k, k < 7 → parseFieldDescriptor (TX6 k).2.2.1 = some (tyX6 k) := by decide +kernel
abbrev cX6_init : ByteArray := prog_1_method_1_code
def yX6_init : MethodName := ⟨RX6, "<init>", "()V"⟩
abbrev cX6_speed : ByteArray := prog_1_method_2_code
def yX6_speed : MethodName := ⟨RX6, "speed", "(II)I"⟩
abbrev cX6_level : ByteArray := prog_1_method_3_code
def yX6_level : MethodName := ⟨RX6, "level", "(I)I"⟩
abbrev cX6_gone : ByteArray := prog_1_method_4_code
def yX6_gone : MethodName := ⟨RX6, "gone", "(I)I"⟩
abbrev cX6_see : ByteArray := prog_1_method_5_code
def yX6_see : MethodName := ⟨RX6, "see", "(IIII)I"⟩
abbrev cX6_drop : ByteArray := prog_1_method_6_code
def yX6_drop : MethodName := ⟨RX6, "drop", "(I)I"⟩
abbrev cX6_thing : ByteArray := prog_1_method_7_code
def yX6_thing : MethodName := ⟨RX6, "thing", "(II)I"⟩
abbrev cX6_place : ByteArray := prog_1_method_8_code
def yX6_place : MethodName := ⟨RX6, "place", "(II)I"⟩
abbrev cX6_reach : ByteArray := prog_1_method_9_code
def yX6_reach : MethodName := ⟨RX6, "reach", "(III)I"⟩
abbrev cX6_beat : ByteArray := prog_1_method_10_code
def yX6_beat : MethodName := ⟨RX6, "beat", "(III)I"⟩
abbrev cX6_lanes : ByteArray := prog_1_method_11_code
def yX6_lanes : MethodName := ⟨RX6, "lanes", "(II)I"⟩
abbrev cX6_arm : ByteArray := prog_1_method_12_code
def yX6_arm : MethodName := ⟨RX6, "arm", "(II)I"⟩
abbrev cX6_can : ByteArray := prog_1_method_13_code
def yX6_can : MethodName := ⟨RX6, "can", "(III)I"⟩
abbrev cX6_takes : ByteArray := prog_1_method_14_code
def yX6_takes : MethodName := ⟨RX6, "takes", "(II)I"⟩
abbrev cX6_plan : ByteArray := prog_1_method_15_code
def yX6_plan : MethodName := ⟨RX6, "plan", "(I)I"⟩
abbrev cX6_tray : ByteArray := prog_1_method_16_code
def yX6_tray : MethodName := ⟨RX6, "tray", "(II)I"⟩
abbrev cX6_set : ByteArray := prog_1_method_17_code
def yX6_set : MethodName := ⟨RX6, "set", "(II)I"⟩
abbrev cX6_image : ByteArray := prog_1_method_18_code
def yX6_image : MethodName := ⟨RX6, "image", "(I)I"⟩
abbrev cX6_restore : ByteArray := prog_1_method_19_code
def yX6_restore : MethodName := ⟨RX6, "restore", "(I)I"⟩
abbrev cX6_count : ByteArray := prog_1_method_20_code
def yX6_count : MethodName := ⟨RX6, "count", "(I)I"⟩
abbrev cX6_isWithin : ByteArray := prog_1_method_21_code
def yX6_isWithin : MethodName := ⟨RX6, "isWithin", "(III)Z"⟩
abbrev cX6_isTick : ByteArray := prog_1_method_22_code
def yX6_isTick : MethodName := ⟨RX6, "isTick", "(I)Z"⟩
abbrev cX6_isArm : ByteArray := prog_1_method_23_code
def yX6_isArm : MethodName := ⟨RX6, "isArm", "(I)Z"⟩
abbrev cX6_isThing : ByteArray := prog_1_method_24_code
def yX6_isThing : MethodName := ⟨RX6, "isThing", "(I)Z"⟩
abbrev cX6_freshPlan : ByteArray := prog_1_method_25_code
def yX6_freshPlan : MethodName := ⟨RX6, "freshPlan", "()LBeltArms$Plan;"⟩
def RX7 : String := "BeltArmsModel"
def TX7 : u_T := fun k => match k with
  | 0 => ("BeltArmsModel", "state", "[I", true)
  | 1 => ("BeltArmsModel", "images", "[I", true)
  | 2 => ("BeltArmsModel", "isKept", "[Z", true)
  | 3 => ("BeltArmsModel", "gone", "[I", true)
  | 4 => ("BeltArmsModel", "armAt", "[I", true)
  | 5 => ("BeltArmsModel", "taker", "[I", true)
  | 6 => ("BeltArmsModel", "isFixed", "[Z", true)
  | 7 => ("BeltArmsModel", "isOut", "[Z", true)
  | 8 => ("BeltArmsModel", "still", "[I", true)
  | 9 => ("BeltArmsModel", "wayFrom", "[I", true)
  | 10 => ("BeltArmsModel", "slotOf", "[I", true)
  | 11 => ("BeltArmsModel", "when", "[I", true)
  | 12 => ("BeltArmsModel", "by", "[I", true)
  | 13 => ("BeltArmsModel", "taken", "I", false)
  | 14 => ("BeltArmsModel", "parts", "[I", true)
  | _ => ("BeltArmsModel", "partOf", "[I", true)
def tyX7 : Nat → FieldType := fun k => match k with
  | 0 => .array .int
  | 1 => .array .int
  | 2 => .array .boolean
  | 3 => .array .int
  | 4 => .array .int
  | 5 => .array .int
  | 6 => .array .boolean
  | 7 => .array .boolean
  | 8 => .array .int
  | 9 => .array .int
  | 10 => .array .int
  | 11 => .array .int
  | 12 => .array .int
  | 13 => .int
  | 14 => .array .int
  | _ => .array .int
abbrev wsX70 : List Cond := u_ws RX7 TX7 16
theorem nmX7 : ∀ a, a < 16 → ∀ b, b < 16 → a ≠ b → (TX7 a).2.1 ≠ (TX7 b).2.1 := by decide +kernel
theorem tyX7_ok : ∀ k, k < 16 → parseFieldDescriptor (TX7 k).2.2.1 = some (tyX7 k) := by decide +kernel
abbrev cX7_init : ByteArray := prog_9_method_1_code
def yX7_init : MethodName := ⟨RX7, "<init>", "()V"⟩
abbrev cX7_in : ByteArray := prog_9_method_2_code
def yX7_in : MethodName := ⟨RX7, "in", "(III)Z"⟩
abbrev cX7_isTick : ByteArray := prog_9_method_3_code
def yX7_isTick : MethodName := ⟨RX7, "isTick", "(I)Z"⟩
abbrev cX7_isThing : ByteArray := prog_9_method_4_code
def yX7_isThing : MethodName := ⟨RX7, "isThing", "(I)Z"⟩
abbrev cX7_isArm : ByteArray := prog_9_method_5_code
def yX7_isArm : MethodName := ⟨RX7, "isArm", "(I)Z"⟩
abbrev cX7_size : ByteArray := prog_9_method_6_code
def yX7_size : MethodName := ⟨RX7, "size", "(I)I"⟩
abbrev cX7_changes : ByteArray := prog_9_method_7_code
def yX7_changes : MethodName := ⟨RX7, "changes", "()I"⟩
abbrev cX7_speedAt : ByteArray := prog_9_method_8_code
def yX7_speedAt : MethodName := ⟨RX7, "speedAt", "(I)I"⟩
abbrev cX7_speed : ByteArray := prog_9_method_9_code
def yX7_speed : MethodName := ⟨RX7, "speed", "(II)I"⟩
abbrev cX7_level : ByteArray := prog_9_method_10_code
def yX7_level : MethodName := ⟨RX7, "level", "(I)I"⟩
abbrev cX7_layGone : ByteArray := prog_9_method_11_code
def yX7_layGone : MethodName := ⟨RX7, "layGone", "()V"⟩
abbrev cX7_gone : ByteArray := prog_9_method_12_code
def yX7_gone : MethodName := ⟨RX7, "gone", "(I)I"⟩
abbrev cX7_placeOf : ByteArray := prog_9_method_13_code
def yX7_placeOf : MethodName := ⟨RX7, "placeOf", "(II)I"⟩
abbrev cX7_wasSeen : ByteArray := prog_9_method_14_code
def yX7_wasSeen : MethodName := ⟨RX7, "wasSeen", "(II)Z"⟩
abbrev cX7_see : ByteArray := prog_9_method_15_code
def yX7_see : MethodName := ⟨RX7, "see", "(IIII)I"⟩
abbrev cX7_drop : ByteArray := prog_9_method_16_code
def yX7_drop : MethodName := ⟨RX7, "drop", "(I)I"⟩
abbrev cX7_place : ByteArray := prog_9_method_17_code
def yX7_place : MethodName := ⟨RX7, "place", "(II)I"⟩
abbrev cX7_seenOf : ByteArray := prog_9_method_18_code
def yX7_seenOf : MethodName := ⟨RX7, "seenOf", "(I)I"⟩
abbrev cX7_reach : ByteArray := prog_9_method_19_code
def yX7_reach : MethodName := ⟨RX7, "reach", "(III)I"⟩
abbrev cX7_beat : ByteArray := prog_9_method_20_code
def yX7_beat : MethodName := ⟨RX7, "beat", "(III)I"⟩
abbrev cX7_lanes : ByteArray := prog_9_method_21_code
def yX7_lanes : MethodName := ⟨RX7, "lanes", "(II)I"⟩
abbrev cX7_canTake : ByteArray := prog_9_method_22_code
def yX7_canTake : MethodName := ⟨RX7, "canTake", "(III)Z"⟩
abbrev cX7_can : ByteArray := prog_9_method_23_code
def yX7_can : MethodName := ⟨RX7, "can", "(III)I"⟩
abbrev cX7_layArms : ByteArray := prog_9_method_24_code
def yX7_layArms : MethodName := ⟨RX7, "layArms", "(I)V"⟩
abbrev cX7_slot : ByteArray := prog_9_method_25_code
def yX7_slot : MethodName := ⟨RX7, "slot", "(II)I"⟩
abbrev cX7_find : ByteArray := prog_9_method_26_code
def yX7_find : MethodName := ⟨RX7, "find", "(I)Z"⟩
abbrev cX7_turn : ByteArray := prog_9_method_27_code
def yX7_turn : MethodName := ⟨RX7, "turn", "(II)V"⟩
abbrev cX7_most : ByteArray := prog_9_method_28_code
def yX7_most : MethodName := ⟨RX7, "most", "(I)I"⟩
abbrev cX7_clear : ByteArray := prog_9_method_29_code
def yX7_clear : MethodName := ⟨RX7, "clear", "()V"⟩
abbrev cX7_layPlan : ByteArray := prog_9_method_30_code
def yX7_layPlan : MethodName := ⟨RX7, "layPlan", "()V"⟩
abbrev cX7_mostWithout : ByteArray := prog_9_method_31_code
def yX7_mostWithout : MethodName := ⟨RX7, "mostWithout", "(I)I"⟩
abbrev cX7_layTrays : ByteArray := prog_9_method_32_code
def yX7_layTrays : MethodName := ⟨RX7, "layTrays", "()V"⟩
abbrev cX7_tray : ByteArray := prog_9_method_33_code
def yX7_tray : MethodName := ⟨RX7, "tray", "(II)I"⟩
abbrev cX7_canAt : ByteArray := prog_9_method_34_code
def yX7_canAt : MethodName := ⟨RX7, "canAt", "(II)I"⟩
abbrev cX7_planned : ByteArray := prog_9_method_35_code
def yX7_planned : MethodName := ⟨RX7, "planned", "(II)I"⟩
abbrev cX7_thing : ByteArray := prog_9_method_36_code
def yX7_thing : MethodName := ⟨RX7, "thing", "(II)I"⟩
abbrev cX7_takenBy : ByteArray := prog_9_method_37_code
def yX7_takenBy : MethodName := ⟨RX7, "takenBy", "(I)I"⟩
abbrev cX7_arm : ByteArray := prog_9_method_38_code
def yX7_arm : MethodName := ⟨RX7, "arm", "(II)I"⟩
abbrev cX7_takes : ByteArray := prog_9_method_39_code
def yX7_takes : MethodName := ⟨RX7, "takes", "(II)I"⟩
abbrev cX7_inEach : ByteArray := prog_9_method_40_code
def yX7_inEach : MethodName := ⟨RX7, "inEach", "()I"⟩
abbrev cX7_plan : ByteArray := prog_9_method_41_code
def yX7_plan : MethodName := ⟨RX7, "plan", "(I)I"⟩
abbrev cX7_set : ByteArray := prog_9_method_42_code
def yX7_set : MethodName := ⟨RX7, "set", "(II)I"⟩
abbrev cX7_image : ByteArray := prog_9_method_43_code
def yX7_image : MethodName := ⟨RX7, "image", "(I)I"⟩
abbrev cX7_restore : ByteArray := prog_9_method_44_code
def yX7_restore : MethodName := ⟨RX7, "restore", "(I)I"⟩
abbrev cX7_seenTwice : ByteArray := prog_9_method_45_code
def yX7_seenTwice : MethodName := ⟨RX7, "seenTwice", "()I"⟩
abbrev cX7_ofKind : ByteArray := prog_9_method_46_code
def yX7_ofKind : MethodName := ⟨RX7, "ofKind", "(I)I"⟩
abbrev cX7_count : ByteArray := prog_9_method_47_code
def yX7_count : MethodName := ⟨RX7, "count", "(I)I"⟩
def RJ13 : String := "java/lang/Long"
def TJ13 : u_T := fun k => match k with
  | _ => ("", "", "", false)
def tyJ13 : Nat → FieldType := fun k => match k with
  | _ => .int
abbrev wsJ130 : List Cond := u_ws RJ13 TJ13 0
theorem nmJ13 : ∀ a, a < 0 → ∀ b, b < 0 → a ≠ b → (TJ13 a).2.1 ≠ (TJ13 b).2.1 := by decide +kernel
theorem tyJ13_ok : ∀ k, k < 0 → parseFieldDescriptor (TJ13 k).2.2.1 = some (tyJ13 k) := by decide +kernel
abbrev cJ13_bitCount_95d88 : ByteArray := prog_10_method_50_code
def yJ13_bitCount_95d88 : MethodName := ⟨RJ13, "bitCount", "(J)I"⟩
def RJ9 : String := "java/lang/Math"
def TJ9 : u_T := fun k => match k with
  | _ => ("", "", "", false)
def tyJ9 : Nat → FieldType := fun k => match k with
  | _ => .int
abbrev wsJ90 : List Cond := u_ws RJ9 TJ9 0
theorem nmJ9 : ∀ a, a < 0 → ∀ b, b < 0 → a ≠ b → (TJ9 a).2.1 ≠ (TJ9 b).2.1 := by decide +kernel
theorem tyJ9_ok : ∀ k, k < 0 → parseFieldDescriptor (TJ9 k).2.2.1 = some (tyJ9 k) := by decide +kernel
abbrev cJ9_floorMod_7cf53 : ByteArray := prog_11_method_50_code
def yJ9_floorMod_7cf53 : MethodName := ⟨RJ9, "floorMod", "(II)I"⟩
abbrev cJ9_abs_0f7a4 : ByteArray := prog_11_method_59_code
def yJ9_abs_0f7a4 : MethodName := ⟨RJ9, "abs", "(I)I"⟩
abbrev cJ9_max_7cf53 : ByteArray := prog_11_method_65_code
def yJ9_max_7cf53 : MethodName := ⟨RJ9, "max", "(II)I"⟩
abbrev cJ9_min_7cf53 : ByteArray := prog_11_method_69_code
def yJ9_min_7cf53 : MethodName := ⟨RJ9, "min", "(II)I"⟩
def RJ10 : String := "java/lang/System"
def TJ10 : u_T := fun k => match k with
  | _ => ("", "", "", false)
def tyJ10 : Nat → FieldType := fun k => match k with
  | _ => .int
abbrev wsJ100 : List Cond := u_ws RJ10 TJ10 0
theorem nmJ10 : ∀ a, a < 0 → ∀ b, b < 0 → a ≠ b → (TJ10 a).2.1 ≠ (TJ10 b).2.1 := by decide +kernel
theorem tyJ10_ok : ∀ k, k < 0 → parseFieldDescriptor (TJ10 k).2.2.1 = some (tyJ10 k) := by decide +kernel
def RJ7 : String := "java/util/Arrays"
def TJ7 : u_T := fun k => match k with
  | _ => ("", "", "", false)
def tyJ7 : Nat → FieldType := fun k => match k with
  | _ => .int
abbrev wsJ70 : List Cond := u_ws RJ7 TJ7 0
theorem nmJ7 : ∀ a, a < 0 → ∀ b, b < 0 → a ≠ b → (TJ7 a).2.1 ≠ (TJ7 b).2.1 := by decide +kernel
theorem tyJ7_ok : ∀ k, k < 0 → parseFieldDescriptor (TJ7 k).2.2.1 = some (tyJ7 k) := by decide +kernel
abbrev cJ7_fill_53178 : ByteArray := prog_13_method_103_code
def yJ7_fill_53178 : MethodName := ⟨RJ7, "fill", "([II)V"⟩
def RL : String := "BeltArmsLaw"
abbrev cL_law : ByteArray := code
def yL_law : MethodName := ⟨RL, "law", "([I)Z"⟩
