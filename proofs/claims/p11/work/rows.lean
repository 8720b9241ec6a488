section
-- ===== PART A: goes FIRST, ahead of the names: the tables' words, and 'selects' of the private methods out of them =====
/-- a private method of a class that the tables say can be made, by its rows of tables_1 -/
def lw_okq (q : MethodName × Nat) : Prop := (q.1.cls ≠ "java/lang/invoke/MethodHandle" ∧ q.1.cls ≠ "java/lang/invoke/VarHandle") ∧ Cond.instantiable q.1.cls q.2 ∈ tables_1 ∧ Cond.privateMethod q.1 ∈ tables_1 ∧ Cond.instanceMethod q.1 ∈ tables_1
theorem lw_p0 : lw_okq (⟨"BlockGraph", "startAnew", "()V"⟩, 9) := ⟨⟨by decide +kernel, by decide +kernel⟩, List.mem_of_getElem? (i := 21) (by decide +kernel), List.mem_of_getElem? (i := 203) (by decide +kernel), List.mem_of_getElem? (i := 204) (by decide +kernel)⟩
theorem lw_p1 : lw_okq (⟨"BlockGraph", "closeTransaction", "()V"⟩, 9) := ⟨⟨by decide +kernel, by decide +kernel⟩, List.mem_of_getElem? (i := 21) (by decide +kernel), List.mem_of_getElem? (i := 207) (by decide +kernel), List.mem_of_getElem? (i := 208) (by decide +kernel)⟩
theorem lw_p2 : lw_okq (⟨"BlockGraph$Store", "writeHead", "(Z)Z"⟩, 6) := ⟨⟨by decide +kernel, by decide +kernel⟩, List.mem_of_getElem? (i := 67) (by decide +kernel), List.mem_of_getElem? (i := 226) (by decide +kernel), List.mem_of_getElem? (i := 227) (by decide +kernel)⟩
theorem lw_p3 : lw_okq (⟨"BlockGraph$Store", "writeHome", "(ILBlockGraph$EdgeTable;)Z"⟩, 6) := ⟨⟨by decide +kernel, by decide +kernel⟩, List.mem_of_getElem? (i := 67) (by decide +kernel), List.mem_of_getElem? (i := 234) (by decide +kernel), List.mem_of_getElem? (i := 235) (by decide +kernel)⟩
theorem lw_p4 : lw_okq (⟨"BlockGraph$Hand", "place", "(I)I"⟩, 4) := ⟨⟨by decide +kernel, by decide +kernel⟩, List.mem_of_getElem? (i := 44) (by decide +kernel), List.mem_of_getElem? (i := 250) (by decide +kernel), List.mem_of_getElem? (i := 251) (by decide +kernel)⟩
theorem lw_p5 : lw_okq (⟨"BlockGraph$Store", "writeMark", "(I)Z"⟩, 6) := ⟨⟨by decide +kernel, by decide +kernel⟩, List.mem_of_getElem? (i := 67) (by decide +kernel), List.mem_of_getElem? (i := 260) (by decide +kernel), List.mem_of_getElem? (i := 261) (by decide +kernel)⟩
theorem lw_p6 : lw_okq (⟨"BlockGraph", "settleState", "(Z)V"⟩, 9) := ⟨⟨by decide +kernel, by decide +kernel⟩, List.mem_of_getElem? (i := 21) (by decide +kernel), List.mem_of_getElem? (i := 264) (by decide +kernel), List.mem_of_getElem? (i := 265) (by decide +kernel)⟩
theorem lw_p7 : lw_okq (⟨"BlockGraph$Store", "bringHome", "(LBlockGraph$EdgeTable;)Z"⟩, 6) := ⟨⟨by decide +kernel, by decide +kernel⟩, List.mem_of_getElem? (i := 67) (by decide +kernel), List.mem_of_getElem? (i := 286) (by decide +kernel), List.mem_of_getElem? (i := 287) (by decide +kernel)⟩
theorem lw_p8 : lw_okq (⟨"BlockGraph", "mustBeUp", "()V"⟩, 9) := ⟨⟨by decide +kernel, by decide +kernel⟩, List.mem_of_getElem? (i := 21) (by decide +kernel), List.mem_of_getElem? (i := 302) (by decide +kernel), List.mem_of_getElem? (i := 303) (by decide +kernel)⟩
theorem lw_p9 : lw_okq (⟨"java/lang/Throwable", "fillInStackTrace", "(I)Ljava/lang/Throwable;"⟩, 6) := ⟨⟨by decide +kernel, by decide +kernel⟩, List.mem_of_getElem? (i := 346) (by decide +kernel), List.mem_of_getElem? (i := 344) (by decide +kernel), List.mem_of_getElem? (i := 345) (by decide +kernel)⟩
theorem lw_p10 : lw_okq (⟨"BlockGraph", "mustBeOpen", "()V"⟩, 9) := ⟨⟨by decide +kernel, by decide +kernel⟩, List.mem_of_getElem? (i := 21) (by decide +kernel), List.mem_of_getElem? (i := 386) (by decide +kernel), List.mem_of_getElem? (i := 387) (by decide +kernel)⟩
theorem lw_p11 : lw_okq (⟨"BlockGraph", "mustBeVertex", "(I)V"⟩, 9) := ⟨⟨by decide +kernel, by decide +kernel⟩, List.mem_of_getElem? (i := 21) (by decide +kernel), List.mem_of_getElem? (i := 391) (by decide +kernel), List.mem_of_getElem? (i := 392) (by decide +kernel)⟩
theorem lw_p12 : lw_okq (⟨"BlockGraph", "mustHaveRoomForOperation", "()V"⟩, 9) := ⟨⟨by decide +kernel, by decide +kernel⟩, List.mem_of_getElem? (i := 21) (by decide +kernel), List.mem_of_getElem? (i := 428) (by decide +kernel), List.mem_of_getElem? (i := 429) (by decide +kernel)⟩
theorem lw_p13 : lw_okq (⟨"BlockGraph", "operate", "(IIII)V"⟩, 9) := ⟨⟨by decide +kernel, by decide +kernel⟩, List.mem_of_getElem? (i := 21) (by decide +kernel), List.mem_of_getElem? (i := 437) (by decide +kernel), List.mem_of_getElem? (i := 438) (by decide +kernel)⟩
theorem lw_p14 : lw_okq (⟨"BlockGraph", "mustBeVisible", "(I)V"⟩, 9) := ⟨⟨by decide +kernel, by decide +kernel⟩, List.mem_of_getElem? (i := 21) (by decide +kernel), List.mem_of_getElem? (i := 454) (by decide +kernel), List.mem_of_getElem? (i := 455) (by decide +kernel)⟩
theorem lw_p15 : lw_okq (⟨"BlockGraph$Store", "writeLog", "(LBlockGraph$Operations;I)Z"⟩, 6) := ⟨⟨by decide +kernel, by decide +kernel⟩, List.mem_of_getElem? (i := 67) (by decide +kernel), List.mem_of_getElem? (i := 489) (by decide +kernel), List.mem_of_getElem? (i := 490) (by decide +kernel)⟩
def lw_privs_1 : List (MethodName × Nat) := [(⟨"BlockGraph", "startAnew", "()V"⟩, 9), (⟨"BlockGraph", "closeTransaction", "()V"⟩, 9), (⟨"BlockGraph$Store", "writeHead", "(Z)Z"⟩, 6), (⟨"BlockGraph$Store", "writeHome", "(ILBlockGraph$EdgeTable;)Z"⟩, 6), (⟨"BlockGraph$Hand", "place", "(I)I"⟩, 4), (⟨"BlockGraph$Store", "writeMark", "(I)Z"⟩, 6), (⟨"BlockGraph", "settleState", "(Z)V"⟩, 9), (⟨"BlockGraph$Store", "bringHome", "(LBlockGraph$EdgeTable;)Z"⟩, 6), (⟨"BlockGraph", "mustBeUp", "()V"⟩, 9), (⟨"java/lang/Throwable", "fillInStackTrace", "(I)Ljava/lang/Throwable;"⟩, 6), (⟨"BlockGraph", "mustBeOpen", "()V"⟩, 9), (⟨"BlockGraph", "mustBeVertex", "(I)V"⟩, 9), (⟨"BlockGraph", "mustHaveRoomForOperation", "()V"⟩, 9), (⟨"BlockGraph", "operate", "(IIII)V"⟩, 9), (⟨"BlockGraph", "mustBeVisible", "(I)V"⟩, 9), (⟨"BlockGraph$Store", "writeLog", "(LBlockGraph$Operations;I)Z"⟩, 6)]
theorem lw_r1 : ∀ q ∈ lw_privs_1, lw_okq q := List.forall_mem_cons.mpr ⟨lw_p0, List.forall_mem_cons.mpr ⟨lw_p1, List.forall_mem_cons.mpr ⟨lw_p2, List.forall_mem_cons.mpr ⟨lw_p3, List.forall_mem_cons.mpr ⟨lw_p4, List.forall_mem_cons.mpr ⟨lw_p5, List.forall_mem_cons.mpr ⟨lw_p6, List.forall_mem_cons.mpr ⟨lw_p7, List.forall_mem_cons.mpr ⟨lw_p8, List.forall_mem_cons.mpr ⟨lw_p9, List.forall_mem_cons.mpr ⟨lw_p10, List.forall_mem_cons.mpr ⟨lw_p11, List.forall_mem_cons.mpr ⟨lw_p12, List.forall_mem_cons.mpr ⟨lw_p13, List.forall_mem_cons.mpr ⟨lw_p14, List.forall_mem_cons.mpr ⟨lw_p15, fun _ h => absurd h List.not_mem_nil⟩⟩⟩⟩⟩⟩⟩⟩⟩⟩⟩⟩⟩⟩⟩⟩
theorem lw_p16 : lw_okq (⟨"BlockGraph$Ways", "shorten", "(LBlockGraph$EdgeTable;)Z"⟩, 4) := ⟨⟨by decide +kernel, by decide +kernel⟩, List.mem_of_getElem? (i := 149) (by decide +kernel), List.mem_of_getElem? (i := 550) (by decide +kernel), List.mem_of_getElem? (i := 551) (by decide +kernel)⟩
theorem lw_p17 : lw_okq (⟨"BlockGraph$Ways", "leadsOn", "(LBlockGraph$EdgeTable;I)Z"⟩, 4) := ⟨⟨by decide +kernel, by decide +kernel⟩, List.mem_of_getElem? (i := 149) (by decide +kernel), List.mem_of_getElem? (i := 554) (by decide +kernel), List.mem_of_getElem? (i := 555) (by decide +kernel)⟩
theorem lw_p18 : lw_okq (⟨"BlockGraph$Ways", "chooseParents", "(LBlockGraph$EdgeTable;)V"⟩, 4) := ⟨⟨by decide +kernel, by decide +kernel⟩, List.mem_of_getElem? (i := 149) (by decide +kernel), List.mem_of_getElem? (i := 559) (by decide +kernel), List.mem_of_getElem? (i := 560) (by decide +kernel)⟩
theorem lw_p19 : lw_okq (⟨"BlockGraph$Ways", "countReached", "()I"⟩, 4) := ⟨⟨by decide +kernel, by decide +kernel⟩, List.mem_of_getElem? (i := 149) (by decide +kernel), List.mem_of_getElem? (i := 563) (by decide +kernel), List.mem_of_getElem? (i := 564) (by decide +kernel)⟩
theorem lw_p20 : lw_okq (⟨"BlockGraph", "mustHaveWayTo", "(I)V"⟩, 9) := ⟨⟨by decide +kernel, by decide +kernel⟩, List.mem_of_getElem? (i := 21) (by decide +kernel), List.mem_of_getElem? (i := 574) (by decide +kernel), List.mem_of_getElem? (i := 575) (by decide +kernel)⟩
theorem lw_p21 : lw_okq (⟨"BlockGraphModel", "clear", "()V"⟩, 23) := ⟨⟨by decide +kernel, by decide +kernel⟩, List.mem_of_getElem? (i := 634) (by decide +kernel), List.mem_of_getElem? (i := 640) (by decide +kernel), List.mem_of_getElem? (i := 641) (by decide +kernel)⟩
theorem lw_p22 : lw_okq (⟨"BlockGraphModel", "untouch", "()V"⟩, 23) := ⟨⟨by decide +kernel, by decide +kernel⟩, List.mem_of_getElem? (i := 634) (by decide +kernel), List.mem_of_getElem? (i := 723) (by decide +kernel), List.mem_of_getElem? (i := 724) (by decide +kernel)⟩
theorem lw_p23 : lw_okq (⟨"BlockGraphModel", "isWritten", "()Z"⟩, 23) := ⟨⟨by decide +kernel, by decide +kernel⟩, List.mem_of_getElem? (i := 634) (by decide +kernel), List.mem_of_getElem? (i := 727) (by decide +kernel), List.mem_of_getElem? (i := 728) (by decide +kernel)⟩
theorem lw_p24 : lw_okq (⟨"BlockGraphModel", "isFormatted", "()Z"⟩, 23) := ⟨⟨by decide +kernel, by decide +kernel⟩, List.mem_of_getElem? (i := 634) (by decide +kernel), List.mem_of_getElem? (i := 731) (by decide +kernel), List.mem_of_getElem? (i := 732) (by decide +kernel)⟩
theorem lw_p25 : lw_okq (⟨"BlockGraphModel", "isNew", "(I)Z"⟩, 23) := ⟨⟨by decide +kernel, by decide +kernel⟩, List.mem_of_getElem? (i := 634) (by decide +kernel), List.mem_of_getElem? (i := 735) (by decide +kernel), List.mem_of_getElem? (i := 736) (by decide +kernel)⟩
theorem lw_p26 : lw_okq (⟨"BlockGraphModel", "isDown", "()Z"⟩, 23) := ⟨⟨by decide +kernel, by decide +kernel⟩, List.mem_of_getElem? (i := 634) (by decide +kernel), List.mem_of_getElem? (i := 743) (by decide +kernel), List.mem_of_getElem? (i := 744) (by decide +kernel)⟩
theorem lw_p27 : lw_okq (⟨"BlockGraphModel", "visible", "()I"⟩, 23) := ⟨⟨by decide +kernel, by decide +kernel⟩, List.mem_of_getElem? (i := 634) (by decide +kernel), List.mem_of_getElem? (i := 754) (by decide +kernel), List.mem_of_getElem? (i := 755) (by decide +kernel)⟩
theorem lw_p28 : lw_okq (⟨"BlockGraphModel", "isVisible", "(I)Z"⟩, 23) := ⟨⟨by decide +kernel, by decide +kernel⟩, List.mem_of_getElem? (i := 634) (by decide +kernel), List.mem_of_getElem? (i := 762) (by decide +kernel), List.mem_of_getElem? (i := 763) (by decide +kernel)⟩
theorem lw_p29 : lw_okq (⟨"BlockGraphModel", "copy", "(II)V"⟩, 23) := ⟨⟨by decide +kernel, by decide +kernel⟩, List.mem_of_getElem? (i := 634) (by decide +kernel), List.mem_of_getElem? (i := 770) (by decide +kernel), List.mem_of_getElem? (i := 771) (by decide +kernel)⟩
theorem lw_p30 : lw_okq (⟨"BlockGraphModel", "isHome", "()Z"⟩, 23) := ⟨⟨by decide +kernel, by decide +kernel⟩, List.mem_of_getElem? (i := 634) (by decide +kernel), List.mem_of_getElem? (i := 774) (by decide +kernel), List.mem_of_getElem? (i := 775) (by decide +kernel)⟩
theorem lw_p31 : lw_okq (⟨"BlockGraphModel", "look", "(I)V"⟩, 23) := ⟨⟨by decide +kernel, by decide +kernel⟩, List.mem_of_getElem? (i := 634) (by decide +kernel), List.mem_of_getElem? (i := 794) (by decide +kernel), List.mem_of_getElem? (i := 795) (by decide +kernel)⟩
def lw_privs_2 : List (MethodName × Nat) := [(⟨"BlockGraph$Ways", "shorten", "(LBlockGraph$EdgeTable;)Z"⟩, 4), (⟨"BlockGraph$Ways", "leadsOn", "(LBlockGraph$EdgeTable;I)Z"⟩, 4), (⟨"BlockGraph$Ways", "chooseParents", "(LBlockGraph$EdgeTable;)V"⟩, 4), (⟨"BlockGraph$Ways", "countReached", "()I"⟩, 4), (⟨"BlockGraph", "mustHaveWayTo", "(I)V"⟩, 9), (⟨"BlockGraphModel", "clear", "()V"⟩, 23), (⟨"BlockGraphModel", "untouch", "()V"⟩, 23), (⟨"BlockGraphModel", "isWritten", "()Z"⟩, 23), (⟨"BlockGraphModel", "isFormatted", "()Z"⟩, 23), (⟨"BlockGraphModel", "isNew", "(I)Z"⟩, 23), (⟨"BlockGraphModel", "isDown", "()Z"⟩, 23), (⟨"BlockGraphModel", "visible", "()I"⟩, 23), (⟨"BlockGraphModel", "isVisible", "(I)Z"⟩, 23), (⟨"BlockGraphModel", "copy", "(II)V"⟩, 23), (⟨"BlockGraphModel", "isHome", "()Z"⟩, 23), (⟨"BlockGraphModel", "look", "(I)V"⟩, 23)]
theorem lw_r2 : ∀ q ∈ lw_privs_2, lw_okq q := List.forall_mem_cons.mpr ⟨lw_p16, List.forall_mem_cons.mpr ⟨lw_p17, List.forall_mem_cons.mpr ⟨lw_p18, List.forall_mem_cons.mpr ⟨lw_p19, List.forall_mem_cons.mpr ⟨lw_p20, List.forall_mem_cons.mpr ⟨lw_p21, List.forall_mem_cons.mpr ⟨lw_p22, List.forall_mem_cons.mpr ⟨lw_p23, List.forall_mem_cons.mpr ⟨lw_p24, List.forall_mem_cons.mpr ⟨lw_p25, List.forall_mem_cons.mpr ⟨lw_p26, List.forall_mem_cons.mpr ⟨lw_p27, List.forall_mem_cons.mpr ⟨lw_p28, List.forall_mem_cons.mpr ⟨lw_p29, List.forall_mem_cons.mpr ⟨lw_p30, List.forall_mem_cons.mpr ⟨lw_p31, fun _ h => absurd h List.not_mem_nil⟩⟩⟩⟩⟩⟩⟩⟩⟩⟩⟩⟩⟩⟩⟩⟩
theorem lw_p32 : lw_okq (⟨"BlockGraphModel", "faultOf", "(I)I"⟩, 23) := ⟨⟨by decide +kernel, by decide +kernel⟩, List.mem_of_getElem? (i := 634) (by decide +kernel), List.mem_of_getElem? (i := 810) (by decide +kernel), List.mem_of_getElem? (i := 811) (by decide +kernel)⟩
theorem lw_p33 : lw_okq (⟨"BlockGraphModel", "above", "(I)I"⟩, 23) := ⟨⟨by decide +kernel, by decide +kernel⟩, List.mem_of_getElem? (i := 634) (by decide +kernel), List.mem_of_getElem? (i := 818) (by decide +kernel), List.mem_of_getElem? (i := 819) (by decide +kernel)⟩
def lw_privs_3 : List (MethodName × Nat) := [(⟨"BlockGraphModel", "faultOf", "(I)I"⟩, 23), (⟨"BlockGraphModel", "above", "(I)I"⟩, 23)]
theorem lw_r3 : ∀ q ∈ lw_privs_3, lw_okq q := List.forall_mem_cons.mpr ⟨lw_p32, List.forall_mem_cons.mpr ⟨lw_p33, fun _ h => absurd h List.not_mem_nil⟩⟩
def lw_privs : List (MethodName × Nat) := lw_privs_1 ++ (lw_privs_2 ++ (lw_privs_3))
def lw_tbl : List Cond := k2_sels lw_privs ++ tables_1
theorem lw_privs_ok : ∀ q ∈ lw_privs, lw_okq q := by
  show ∀ q ∈ lw_privs_1 ++ (lw_privs_2 ++ (lw_privs_3)), lw_okq q
  exact List.forall_mem_append.mpr ⟨lw_r1, List.forall_mem_append.mpr ⟨lw_r2, lw_r3⟩⟩
def bgNO : Nat := 37
def bgMo : Nat := 27
def bgKinds : List (Nat ⊕ (Nat × Nat)) := [.inl 0, .inl 1, .inl 2, .inr (50, 0), .inl 3, .inl 4, .inr (20, 0), .inr (20, 0), .inr (20, 0), .inr (20, 0), .inl 5, .inr (200, 0), .inr (200, 0), .inr (200, 0), .inl 5, .inr (200, 0), .inr (200, 0), .inr (200, 0), .inl 4, .inr (20, 0), .inr (20, 0), .inr (20, 0), .inr (20, 0), .inl 6, .inr (64, 0), .inr (64, 0), .inr (64, 0), .inl 7, .inr (400, 0), .inr (400, 0), .inr (400, 0), .inr (50, 1), .inr (50, 1), .inr (51, 0), .inr (64, 0), .inr (64, 0), .inr (1, 2)]
theorem bgKinds_len : bgKinds.length = bgNO := by decide +kernel
theorem bgKinds_all : (bgKinds.all (fun q => match q with | .inl _ => true | .inr p => decide (p.1 ≤ 1000))) = true := by decide +kernel
theorem bgKinds_ok (n t : Nat) (h : (.inr (n, t) : Nat ⊕ (Nat × Nat)) ∈ bgKinds) : n ≤ 1000 := by
  have := List.all_eq_true.mp bgKinds_all _ h
  simpa using this
def bgRefs : List (List (Option Nat)) := [[some 1, some 2, some 4, some 14, some 18, some 23, none, none, none], [none, none], [some 3, none, none, none], [], [some 1, some 2, some 5, some 10, none, none], [some 6, some 7, some 8, some 9, none], [], [], [], [], [some 11, some 12, some 13, none], [], [], [], [some 15, some 16, some 17, none], [], [], [], [some 19, some 20, some 21, some 22, none], [], [], [], [], [some 24, some 25, some 26, none], [], [], [], [none, some 28, some 29, some 30, none, none, none, none, some 31, some 32, none, none, none, none, none, none, some 33, none, none, none, none, some 34, some 35], [], [], [], [], [], [], [], [], []]
def bgRef (k i : Nat) : Option Nat := (((bgRefs[k]?).getD [])[i]?).join
def R_bg : String := "BlockGraph"
def T_bg : u_T := fun k => match k with
  | 0 => ("BlockGraph", "power", "LBlockGraph$Power;", true)
  | 1 => ("BlockGraph", "hand", "LBlockGraph$Hand;", true)
  | 2 => ("BlockGraph", "store", "LBlockGraph$Store;", true)
  | 3 => ("BlockGraph", "visible", "LBlockGraph$EdgeTable;", true)
  | 4 => ("BlockGraph", "pending", "LBlockGraph$Operations;", true)
  | 5 => ("BlockGraph", "ways", "LBlockGraph$Ways;", true)
  | 6 => ("BlockGraph", "up", "Z", false)
  | 7 => ("BlockGraph", "open", "Z", false)
  | _ => ("BlockGraph", "known", "I", false)
def ty_bg : Nat → FieldType := fun k => match k with
  | 0 => .object "BlockGraph$Power"
  | 1 => .object "BlockGraph$Hand"
  | 2 => .object "BlockGraph$Store"
  | 3 => .object "BlockGraph$EdgeTable"
  | 4 => .object "BlockGraph$Operations"
  | 5 => .object "BlockGraph$Ways"
  | 6 => .boolean
  | 7 => .boolean
  | _ => .int
def R_pw : String := "BlockGraph$Power"
def T_pw : u_T := fun k => match k with
  | 0 => ("BlockGraph$Power", "left", "I", false)
  | _ => ("BlockGraph$Power", "writes", "I", false)
def ty_pw : Nat → FieldType := fun k => match k with
  | 0 => .int
  | _ => .int
def R_hd : String := "BlockGraph$Hand"
def T_hd : u_T := fun k => match k with
  | 0 => ("BlockGraph$Hand", "blocks", "[I", true)
  | 1 => ("BlockGraph$Hand", "size", "I", false)
  | 2 => ("BlockGraph$Hand", "reads", "I", false)
  | _ => ("BlockGraph$Hand", "most", "I", false)
def ty_hd : Nat → FieldType := fun k => match k with
  | 0 => .array .int
  | 1 => .int
  | 2 => .int
  | _ => .int
def R_so : String := "BlockGraph$Store"
def T_so : u_T := fun k => match k with
  | 0 => ("BlockGraph$Store", "power", "LBlockGraph$Power;", true)
  | 1 => ("BlockGraph$Store", "hand", "LBlockGraph$Hand;", true)
  | 2 => ("BlockGraph$Store", "log", "LBlockGraph$Operations;", true)
  | 3 => ("BlockGraph$Store", "home", "LBlockGraph$EdgeTable;", true)
  | 4 => ("BlockGraph$Store", "hasGraph", "Z", false)
  | _ => ("BlockGraph$Store", "committed", "I", false)
def ty_so : Nat → FieldType := fun k => match k with
  | 0 => .object "BlockGraph$Power"
  | 1 => .object "BlockGraph$Hand"
  | 2 => .object "BlockGraph$Operations"
  | 3 => .object "BlockGraph$EdgeTable"
  | 4 => .boolean
  | _ => .int
def R_op : String := "BlockGraph$Operations"
def T_op : u_T := fun k => match k with
  | 0 => ("BlockGraph$Operations", "edge", "[I", true)
  | 1 => ("BlockGraph$Operations", "from", "[I", true)
  | 2 => ("BlockGraph$Operations", "to", "[I", true)
  | 3 => ("BlockGraph$Operations", "weight", "[I", true)
  | _ => ("BlockGraph$Operations", "size", "I", false)
def ty_op : Nat → FieldType := fun k => match k with
  | 0 => .array .int
  | 1 => .array .int
  | 2 => .array .int
  | 3 => .array .int
  | _ => .int
def R_et : String := "BlockGraph$EdgeTable"
def T_et : u_T := fun k => match k with
  | 0 => ("BlockGraph$EdgeTable", "from", "[I", true)
  | 1 => ("BlockGraph$EdgeTable", "to", "[I", true)
  | 2 => ("BlockGraph$EdgeTable", "weight", "[I", true)
  | _ => ("BlockGraph$EdgeTable", "size", "I", false)
def ty_et : Nat → FieldType := fun k => match k with
  | 0 => .array .int
  | 1 => .array .int
  | 2 => .array .int
  | _ => .int
def R_wy : String := "BlockGraph$Ways"
def T_wy : u_T := fun k => match k with
  | 0 => ("BlockGraph$Ways", "distances", "[I", true)
  | 1 => ("BlockGraph$Ways", "parents", "[I", true)
  | 2 => ("BlockGraph$Ways", "before", "[I", true)
  | _ => ("BlockGraph$Ways", "fresh", "Z", false)
def ty_wy : Nat → FieldType := fun k => match k with
  | 0 => .array .int
  | 1 => .array .int
  | 2 => .array .int
  | _ => .boolean
def R_mo : String := "BlockGraphModel"
def T_mo : u_T := fun k => match k with
  | 0 => ("BlockGraphModel", "code", "I", false)
  | 1 => ("BlockGraphModel", "froms", "[I", true)
  | 2 => ("BlockGraphModel", "tos", "[I", true)
  | 3 => ("BlockGraphModel", "weights", "[I", true)
  | 4 => ("BlockGraphModel", "graph", "Z", false)
  | 5 => ("BlockGraphModel", "down", "Z", false)
  | 6 => ("BlockGraphModel", "open", "Z", false)
  | 7 => ("BlockGraphModel", "operations", "I", false)
  | 8 => ("BlockGraphModel", "touched", "[Z", true)
  | 9 => ("BlockGraphModel", "logged", "[Z", true)
  | 10 => ("BlockGraphModel", "full", "Z", false)
  | 11 => ("BlockGraphModel", "commits", "I", false)
  | 12 => ("BlockGraphModel", "uncounted", "I", false)
  | 13 => ("BlockGraphModel", "armed", "I", false)
  | 14 => ("BlockGraphModel", "writes", "I", false)
  | 15 => ("BlockGraphModel", "reads", "I", false)
  | 16 => ("BlockGraphModel", "hand", "[I", true)
  | 17 => ("BlockGraphModel", "hands", "I", false)
  | 18 => ("BlockGraphModel", "most", "I", false)
  | 19 => ("BlockGraphModel", "stale", "Z", false)
  | 20 => ("BlockGraphModel", "source", "I", false)
  | 21 => ("BlockGraphModel", "distances", "[I", true)
  | _ => ("BlockGraphModel", "way", "[I", true)
def ty_mo : Nat → FieldType := fun k => match k with
  | 0 => .int
  | 1 => .array .int
  | 2 => .array .int
  | 3 => .array .int
  | 4 => .boolean
  | 5 => .boolean
  | 6 => .boolean
  | 7 => .int
  | 8 => .array .boolean
  | 9 => .array .boolean
  | 10 => .boolean
  | 11 => .int
  | 12 => .int
  | 13 => .int
  | 14 => .int
  | 15 => .int
  | 16 => .array .int
  | 17 => .int
  | 18 => .int
  | 19 => .boolean
  | 20 => .int
  | 21 => .array .int
  | _ => .array .int
abbrev bgCl : List vw_C := [(R_bg, T_bg, 9), (R_pw, T_pw, 2), (R_hd, T_hd, 4), (R_so, T_so, 6), (R_op, T_op, 5), (R_et, T_et, 4), (R_wy, T_wy, 4), (R_mo, T_mo, 23)]
def bgNs (ci : Nat) : Nat := ([9, 2, 4, 6, 5, 4, 4, 23] : List Nat).getD ci 0
def bgRt : List (Option (Int × Int) ⊕ List (Option (Int × Int))) := [.inr [none, none, none, none, none, none, some (0, 1), some (0, 1), none], .inr [none, none], .inr [none, some (0, 50), none, some (1, 50)], .inl none, .inr [none, none, none, none, some (0, 1), none], .inr [none, none, none, none, some (0, 20)], .inl none, .inl (some (0, 63)), .inl (some (0, 63)), .inl none, .inr [none, none, none, none], .inl (some (0, 63)), .inl (some (0, 63)), .inl none, .inr [none, none, none, none], .inl (some (0, 63)), .inl (some (0, 63)), .inl none, .inr [none, none, none, none, some (0, 20)], .inl none, .inl (some (0, 63)), .inl (some (0, 63)), .inl none, .inr [none, none, none, some (0, 1)], .inl none, .inl none, .inl (some (0, 63))]
def bgXs : List String := ["java/lang/IllegalStateException", "java/lang/IllegalArgumentException", "java/lang/UnsupportedOperationException", "java/util/NoSuchElementException", "java/lang/IndexOutOfBoundsException"]
def bgNC : List (String × String) := [("BlockGraph", "java/lang/IllegalStateException"), ("BlockGraph$Power", "java/lang/IllegalStateException"), ("BlockGraph$Hand", "java/lang/IllegalStateException"), ("BlockGraph$Store", "java/lang/IllegalStateException"), ("BlockGraph$Operations", "java/lang/IllegalStateException"), ("BlockGraph$EdgeTable", "java/lang/IllegalStateException"), ("BlockGraph$Ways", "java/lang/IllegalStateException"), ("BlockGraphModel", "java/lang/IllegalStateException"), ("java/lang/IllegalArgumentException", "java/lang/IllegalStateException"), ("java/lang/UnsupportedOperationException", "java/lang/IllegalStateException"), ("java/util/NoSuchElementException", "java/lang/IllegalStateException"), ("java/lang/IndexOutOfBoundsException", "java/lang/IllegalStateException"), ("BlockGraph", "java/lang/IllegalArgumentException"), ("BlockGraph$Power", "java/lang/IllegalArgumentException"), ("BlockGraph$Hand", "java/lang/IllegalArgumentException"), ("BlockGraph$Store", "java/lang/IllegalArgumentException"), ("BlockGraph$Operations", "java/lang/IllegalArgumentException"), ("BlockGraph$EdgeTable", "java/lang/IllegalArgumentException"), ("BlockGraph$Ways", "java/lang/IllegalArgumentException"), ("BlockGraphModel", "java/lang/IllegalArgumentException"), ("java/lang/IllegalStateException", "java/lang/IllegalArgumentException"), ("java/lang/UnsupportedOperationException", "java/lang/IllegalArgumentException"), ("java/util/NoSuchElementException", "java/lang/IllegalArgumentException"), ("java/lang/IndexOutOfBoundsException", "java/lang/IllegalArgumentException"), ("BlockGraph", "java/lang/UnsupportedOperationException"), ("BlockGraph$Power", "java/lang/UnsupportedOperationException"), ("BlockGraph$Hand", "java/lang/UnsupportedOperationException"), ("BlockGraph$Store", "java/lang/UnsupportedOperationException"), ("BlockGraph$Operations", "java/lang/UnsupportedOperationException"), ("BlockGraph$EdgeTable", "java/lang/UnsupportedOperationException"), ("BlockGraph$Ways", "java/lang/UnsupportedOperationException"), ("BlockGraphModel", "java/lang/UnsupportedOperationException"), ("java/lang/IllegalStateException", "java/lang/UnsupportedOperationException"), ("java/lang/IllegalArgumentException", "java/lang/UnsupportedOperationException"), ("java/util/NoSuchElementException", "java/lang/UnsupportedOperationException"), ("java/lang/IndexOutOfBoundsException", "java/lang/UnsupportedOperationException"), ("BlockGraph", "java/util/NoSuchElementException"), ("BlockGraph$Power", "java/util/NoSuchElementException"), ("BlockGraph$Hand", "java/util/NoSuchElementException"), ("BlockGraph$Store", "java/util/NoSuchElementException"), ("BlockGraph$Operations", "java/util/NoSuchElementException"), ("BlockGraph$EdgeTable", "java/util/NoSuchElementException"), ("BlockGraph$Ways", "java/util/NoSuchElementException"), ("BlockGraphModel", "java/util/NoSuchElementException"), ("java/lang/IllegalStateException", "java/util/NoSuchElementException"), ("java/lang/IllegalArgumentException", "java/util/NoSuchElementException"), ("java/lang/UnsupportedOperationException", "java/util/NoSuchElementException"), ("java/lang/IndexOutOfBoundsException", "java/util/NoSuchElementException"), ("BlockGraph", "java/lang/IndexOutOfBoundsException"), ("BlockGraph$Power", "java/lang/IndexOutOfBoundsException"), ("BlockGraph$Hand", "java/lang/IndexOutOfBoundsException"), ("BlockGraph$Store", "java/lang/IndexOutOfBoundsException"), ("BlockGraph$Operations", "java/lang/IndexOutOfBoundsException"), ("BlockGraph$EdgeTable", "java/lang/IndexOutOfBoundsException"), ("BlockGraph$Ways", "java/lang/IndexOutOfBoundsException"), ("BlockGraphModel", "java/lang/IndexOutOfBoundsException"), ("java/lang/IllegalStateException", "java/lang/IndexOutOfBoundsException"), ("java/lang/IllegalArgumentException", "java/lang/IndexOutOfBoundsException"), ("java/lang/UnsupportedOperationException", "java/lang/IndexOutOfBoundsException"), ("java/util/NoSuchElementException", "java/lang/IndexOutOfBoundsException")]
theorem bgUn_lays : Cond.laysStatic "java/lang/Throwable" "UNASSIGNED_STACK" "[Ljava/lang/StackTraceElement;" ∈ lw_tbl := List.mem_of_getElem? (i := 366) (by decide +kernel)
theorem bgSe_lays : Cond.laysStatic "java/lang/Throwable" "SUPPRESSED_SENTINEL" "Ljava/util/List;" ∈ lw_tbl := List.mem_of_getElem? (i := 368) (by decide +kernel)
end
section
/-! ONE WORLD: all objects that the two constructors make, by number; every int of it by its place -/
abbrev bgV : Type := Int ⊕ (Nat ⊕ Int)
abbrev bi (v : Int) : bgV := Sum.inl v
abbrev br (k : Nat) : bgV := Sum.inr (Sum.inl k)
abbrev bl (v : Int) : bgV := Sum.inr (Sum.inr v)
abbrev bgW : Type := Nat → Int → Int
def bgU (w : bgW) (k : Nat) (i v : Int) : bgW := fun k' i' => if k' = k ∧ i' = i then v else w k' i'
def bgC (ad : Nat → Nat) (v : bgV) : Value := match v with
  | .inl x => .int (Int32.ofInt x)
  | .inr (.inl k) => .ref (ad k)
  | .inr (.inr x) => .long (Int64.ofInt x)
def bgVal (ad : Nat → Nat) (w : bgW) (k i : Nat) : Value := match bgRef k i with
  | some j => .ref (ad j)
  | none => .int (Int32.ofInt (w k (i : Int)))
def bgE (cA : Nat → ClassId) (ad : Nat → Nat) (w : bgW) (k : Nat) : va_E := match bgKinds[k]? with
  | some (.inl ci) => .inr (ci, (List.range (bgNs ci)).map (bgVal ad w k))
  | some (.inr (n, t)) => if t = 2 then .inl (cA 2, n, .inr (.inl (fun j => Int64.ofInt (w k (j : Int))))) else .inl (cA t, n, .inl (fun j => Int32.ofInt (w k (j : Int))))
  | none => .inr (0, [])
section BG1
variable {cA : Nat → ClassId} {ad : Nat → Nat} {w w' : bgW} {k n t ci : Nat}
theorem bgE_obj (hk : bgKinds[k]? = some (.inl ci)) : bgE cA ad w k = .inr (ci, (List.range (bgNs ci)).map (bgVal ad w k)) := by
  unfold bgE; rw [hk]
theorem bgE_arr (hk : bgKinds[k]? = some (.inr (n, t))) (ht : t ≠ 2) : bgE cA ad w k = .inl (cA t, n, .inl (fun j => Int32.ofInt (w k (j : Int)))) := by
  unfold bgE; rw [hk]; exact if_neg ht
theorem bgE_lon (hk : bgKinds[k]? = some (.inr (n, 2))) : bgE cA ad w k = .inl (cA 2, n, .inr (.inl (fun j => Int64.ofInt (w k (j : Int))))) := by
  unfold bgE; rw [hk]; exact if_pos rfl
theorem bgE_same (h : ∀ i, w' k i = w k i) : bgE cA ad w' k = bgE cA ad w k := by
  have e : w' k = w k := funext h
  have hv : bgVal ad w' k = bgVal ad w k := by
    funext i
    unfold bgVal
    rw [e]
  unfold bgE
  rw [hv, e]
end BG1
def bgL (cA : Nat → ClassId) (ad : Nat → Nat) (w : bgW) : va_W := (List.range bgNO).map (fun k => (ad k, bgE cA ad w k))
section BG2
variable {cA : Nat → ClassId} {ad : Nat → Nat} {w w' : bgW} {k : Nat} {A : Nat → Prop}
theorem bgL_at (h : k < bgNO) : (bgL cA ad w)[k]? = some (ad k, bgE cA ad w k) := by
  unfold bgL
  rw [List.getElem?_map, List.getElem?_range h]
  rfl
theorem bgL_len : (bgL cA ad w).length = bgNO := by simp [bgL]
theorem bgL_get {q : Nat × va_E} (h : (bgL cA ad w)[k]? = some q) : k < bgNO ∧ q = (ad k, bgE cA ad w k) := by
  have hk : k < bgNO := by
    have := (List.getElem?_eq_some_iff.mp h).1
    rwa [bgL_len] at this
  refine ⟨hk, ?_⟩
  rw [bgL_at hk] at h
  exact (Option.some.inj h).symm
theorem bgL_set (hk : k < bgNO) (h : ∀ k' i, k' ≠ k → w' k' i = w k' i) : (bgL cA ad w).set k (ad k, bgE cA ad w' k) = bgL cA ad w' := by
  apply List.ext_getElem?
  intro j
  by_cases hj : j = k
  · subst hj
    rw [List.getElem?_set_self (by rw [bgL_len]; exact hk), bgL_at hk]
  · rw [List.getElem?_set_ne (fun q => hj q.symm)]
    by_cases hl : j < bgNO
    · rw [bgL_at hl, bgL_at hl, bgE_same (w := w) (w' := w') (fun i => h j i hj)]
    · rw [List.getElem?_eq_none (by rw [bgL_len]; omega), List.getElem?_eq_none (by rw [bgL_len]; omega)]
/-- the addresses are apart, and of a kind -/
def bgDs (A : Nat → Prop) (ad : Nat → Nat) : Prop := (∀ i j, i < bgNO → j < bgNO → ad i = ad j → i = j) ∧ ∀ k, k < bgNO → A (ad k)
theorem bgDs.to (h : bgDs A ad) : va_D A (bgL cA ad w) := by
  refine ⟨fun i j p q hi hj e => ?_, fun k q hk => ?_⟩
  · obtain ⟨h1, rfl⟩ := bgL_get hi
    obtain ⟨h2, rfl⟩ := bgL_get hj
    exact h.1 i j h1 h2 e
  · obtain ⟨h1, rfl⟩ := bgL_get hk
    exact h.2 k h1
end BG2
theorem bgU_ne {w : bgW} {k k' : Nat} {i v : Int} (j : Int) (h : k' ≠ k) : bgU w k i v k' j = w k' j := by
  unfold bgU
  rw [if_neg (fun q => h q.1)]
theorem bgU_nei {w : bgW} {k k' : Nat} {i v j : Int} (h : j ≠ i) : bgU w k i v k' j = w k' j := by
  unfold bgU
  rw [if_neg (fun q => h q.2)]
theorem bgU_eq {w : bgW} {k : Nat} {i v : Int} : bgU w k i v k i = v := by
  unfold bgU
  rw [if_pos ⟨rfl, rfl⟩]
/-! the context of a method's walk: what is the same in the whole run, then what is the walk's own -/
abbrev bgGl : Type := Launch × (Nat → Nat) × (Nat → ClassId) × va_G × State
abbrev bgK : Type := bgGl × (Program × Env × Room × State × MethodId × Array Value × List Frame × Method × Code)
abbrev kL (K : bgK) : Launch := K.1.1
abbrev kAd (K : bgK) : Nat → Nat := K.1.2.1
abbrev kCA (K : bgK) : Nat → ClassId := K.1.2.2.1
abbrev kD (K : bgK) : va_G := K.1.2.2.2.1
abbrev kZ (K : bgK) : State := K.1.2.2.2.2
abbrev kP (K : bgK) : Program := K.2.1
abbrev kE (K : bgK) : Env := K.2.2.1
abbrev kR (K : bgK) : Room := K.2.2.2.1
abbrev kS (K : bgK) : State := K.2.2.2.2.1
abbrev kM (K : bgK) : MethodId := K.2.2.2.2.2.1
abbrev kA (K : bgK) : Array Value := K.2.2.2.2.2.2.1
abbrev kB (K : bgK) : List Frame := K.2.2.2.2.2.2.2.1
abbrev kMe (K : bgK) : Method := K.2.2.2.2.2.2.2.2.1
abbrev kC (K : bgK) : Code := K.2.2.2.2.2.2.2.2.2
abbrev bgA (G : bgGl) : Nat → Prop := fun q => G.2.2.2.2.heap.size ≤ q
abbrev bgT (cA : Nat → ClassId) : List (ClassId × FieldType) := [(cA 0, .int), (cA 1, .boolean), (cA 2, .long)]
/-! locals by their places -/
def bgLoc (ad : Nat → Nat) (ls : Array Slot) (L : List (Option bgV)) : Prop := ls.size = L.length ∧ lv_wf ls ∧ ∀ (i : Nat) (v : bgV), L[i]? = some (some v) → ls[i]? = some (.val (bgC ad v)) ∧ (bgC ad v).category = 1
def bgAs (ad : Nat → Nat) (L : List (Option bgV)) : List (Nat × Value) := (List.range L.length).filterMap (fun i => match L[i]? with
  | some (some v) => some (i, bgC ad v)
  | _ => none)
theorem bgAs_mem {ad : Nat → Nat} {L : List (Option bgV)} {q : Nat × Value} : q ∈ bgAs ad L ↔ ∃ v, L[q.1]? = some (some v) ∧ q.2 = bgC ad v := by
  constructor
  · intro h
    obtain ⟨i, hi, he⟩ := List.mem_filterMap.mp h
    cases hL : L[i]? with
    | none => exact absurd he (by simp [hL])
    | some o =>
      cases o with
      | none => exact absurd he (by simp [hL])
      | some v =>
        have he' : some (i, bgC ad v) = some q := by simpa [hL] using he
        cases he'
        exact ⟨v, hL, rfl⟩
  · rintro ⟨v, h1, h2⟩
    refine List.mem_filterMap.mpr ⟨q.1, List.mem_range.mpr (List.getElem?_eq_some_iff.mp h1).1, ?_⟩
    obtain ⟨a, b⟩ := q
    dsimp only at h1 h2 ⊢
    rw [h1, h2]
theorem bgLoc.has {ad : Nat → Nat} {ls : Array Slot} {L : List (Option bgV)} (h : bgLoc ad ls L) : lv_has ls L.length (bgAs ad L) := by
  refine ⟨h.1, h.2.1, fun q hq => ?_⟩
  obtain ⟨v, h1, h2⟩ := bgAs_mem.mp hq
  rw [h2]
  exact (h.2.2 q.1 v h1).1
theorem bgLoc.set {ad : Nat → Nat} {ls ls' : Array Slot} {L : List (Option bgV)} (h : bgLoc ad ls L) {i : Nat} (hi : i < L.length) {v : bgV} (hc : (bgC ad v).category = 1)
    (h' : lv_has ls' L.length ((i, bgC ad v) :: (bgAs ad L).filter (fun q => !(q.1 == i) && !(q.1 + 1 == i && q.2.category == 2)))) : bgLoc ad ls' (L.set i (some v)) := by
  refine ⟨by rw [List.length_set]; exact h'.1, h'.2.1, fun j u hu => ?_⟩
  by_cases hj : j = i
  · subst hj
    rw [List.getElem?_set_self hi] at hu
    cases hu
    exact ⟨h'.2.2 _ List.mem_cons_self, hc⟩
  · rw [List.getElem?_set_ne (fun q => hj q.symm)] at hu
    obtain ⟨a, b⟩ := h.2.2 j u hu
    refine ⟨h'.2.2 (j, bgC ad u) (List.mem_cons_of_mem _ (List.mem_filter.mpr ⟨bgAs_mem.mpr ⟨u, hu, rfl⟩, ?_⟩)), b⟩
    simp [hj, b]
theorem bg_args_mem : ∀ (vs : List Value) (i j : Nat) (v : Value), (∀ u ∈ vs, u.category = 1) → vs[j]? = some v → (i + j, v) ∈ lv_args i vs
  | [], _, _, _, _, h => by simp at h
  | u :: vs, i, 0, v, hc, h => by
    have e : u = v := by simpa using h
    subst e
    exact List.mem_cons_self
  | u :: vs, i, j + 1, v, hc, h => by
    have h1 : ¬ u.category = 2 := by
      have := hc u List.mem_cons_self
      omega
    have h2 := bg_args_mem vs (i + 1) j v (fun x hx => hc x (List.mem_cons_of_mem _ hx)) (by simpa using h)
    show (i + (j + 1), v) ∈ (i, u) :: lv_args (if u.category = 2 then i + 2 else i + 1) vs
    rw [if_neg h1, show i + (j + 1) = i + 1 + j by omega]
    exact List.mem_cons_of_mem _ h2
theorem bg_sl : ∀ (vs : List Value), (∀ u ∈ vs, u.category = 1) → (lg_sl vs).length = vs.length
  | [], _ => rfl
  | u :: vs, hc => by
    have h1 : ¬ u.category = 2 := by
      have := hc u List.mem_cons_self
      omega
    have ih := bg_sl vs (fun x hx => hc x (List.mem_cons_of_mem _ hx))
    have e : lg_sl (u :: vs) = [Slot.val u] ++ lg_sl vs := by simp [lg_sl, h1]
    rw [e, List.length_append, ih, List.length_cons, List.length_cons, List.length_nil]
    omega
theorem bgLoc.entry {ad : Nat → Nat} (av : List bgV) (n : Nat) (hc : ∀ v ∈ av, (bgC ad v).category = 1) (hn : av.length ≤ n) :
    bgLoc ad ((lg_sl (av.map (bgC ad)) ++ List.replicate (n - (lg_sl (av.map (bgC ad))).length) Slot.unset).toArray) (av.map some ++ List.replicate (n - av.length) none) := by
  have hc' : ∀ u ∈ av.map (bgC ad), u.category = 1 := by
    intro u hu
    obtain ⟨v, hv, rfl⟩ := List.mem_map.mp hu
    exact hc v hv
  have hb := lv_entry (av.map (bgC ad)) (n := n) (by rw [bg_sl _ hc', List.length_map]; exact hn)
  refine ⟨?_, hb.2.1, fun i v hv => ?_⟩
  · rw [hb.1, List.length_append, List.length_map, List.length_replicate]
    omega
  · rcases Nat.lt_or_ge i av.length with hi | hi
    · rw [List.getElem?_append_left (by rw [List.length_map]; exact hi), List.getElem?_map] at hv
      cases ha : av[i]? with
      | none => rw [ha] at hv; cases hv
      | some u =>
        rw [ha] at hv
        cases hv
        have hm := bg_args_mem (av.map (bgC ad)) 0 i (bgC ad v) hc' (by rw [List.getElem?_map, ha]; rfl)
        have h3 := hb.2.2 _ hm
        rw [show (0 + i, bgC ad v).1 = i by simp] at h3
        exact ⟨h3, hc v (List.mem_of_getElem? ha)⟩
    · rw [List.getElem?_append_right (by rw [List.length_map]; exact hi)] at hv
      have := List.eq_of_mem_replicate (List.mem_of_getElem? hv)
      cases this
/-! words of the tables, as they hold later in the run -/
def bgOkW (w : Cond) : Bool := (w.onTables && w.keeps) || match w with
  | .arrayClass _ => true
  | .methodLinkNest .. => true
  | .declares _ => true
  | .castable .. => true
  | _ => false
theorem bg_word {w : Cond} (hk : bgOkW w = true) {A A' : Array Value} {s U : State} (hW : s.WarmedH U.vm) (h : w.before A s = true) : w.before A' U = true := by
  by_cases hg : (w.onTables && w.keeps) = true
  · exact word_at hW (Or.inl hg) h
  · have hk2 := hk
    unfold bgOkW at hk2
    rw [Bool.not_eq_true] at hg
    rw [hg, Bool.false_or] at hk2
    cases w with
    | arrayClass ty => exact word_at hW (Or.inr ⟨ty, rfl⟩) h
    | methodLinkNest a i x hh => exact va_Nw.use rfl (va_Nw.warmM hW (va_Nw.of rfl h))
    | declares x => exact va_Nw.use rfl (va_Nw.warmD hW (va_Nw.of rfl h))
    | castable a b => exact va_Nw.use rfl (va_Nw.warmC hW (va_Nw.of rfl h))
    | _ => cases hk2
def bgTs : List Cond := lw_tbl.filter bgOkW
theorem bg_tw {w : Cond} (n : Nat) (h : lw_tbl[n]? = some w) (hk : bgOkW w = true) : w ∈ bgTs := List.mem_filter.mpr ⟨List.mem_of_getElem? h, hk⟩
/-- a static's words, as they hold later -/
theorem bg_laysStatic {A A' : Array Value} {s U : State} {o n d : String} (hW : s.WarmedH U.vm) (hh : ∀ q, q < s.heap.size → U.heap[q]? = s.heap[q]?) (h : (Cond.laysStatic o n d).before A s = true) : (Cond.laysStatic o n d).before A' U = true := by
  obtain ⟨c, k, i, f, a, cell, h1, h2, h3, h4, h5, h6, h7, h8, h9⟩ := Cond.laysStatic_spec h
  obtain ⟨k', hi', he⟩ := State.fieldFound?_setVm hW.alike h2
  have hi2 : U.fieldFound? o n d = some (c, k', i, f) := hi'
  have hc2 : U.vm.findClass o = some c := by rw [hW.alike.findClass]; exact h1
  have hs2 : k'.statics = some a := by rw [he]; exact h4
  have ht2 : k'.staticTypes[f.slot]? = some f.type := by rw [he]; exact h9
  have hc5 : U.heap[a]? = some cell := by rw [hh a (Array.getElem?_eq_some_iff.mp h5).1]; exact h5
  simp [Cond.before, Cond.holds, Cond.value, hi2, hc2, hs2, hc5, h3, h6, h7, h8, ht2]
theorem bg_isRef {A A' : Array Value} {s U : State} {o n d : String} (hW : s.WarmedH U.vm) (hh : ∀ q, q < s.heap.size → U.heap[q]? = s.heap[q]?) (hl : (Cond.laysStatic o n d).before A s = true) (h : (Cond.isRef (.static o n d)).before A s = true) : (Cond.isRef (.static o n d)).before A' U = true := by
  obtain ⟨c, k, i, f, a, cell, h1, h2, h3, h4, h5, h6, h7, h8, h9⟩ := Cond.laysStatic_spec hl
  cases hv : (Term.static o n d).eval A s none [] s with
  | none => simp [Cond.before, Cond.holds, Cond.value, hv] at h
  | some v =>
    obtain ⟨-, a', cell', ha', hcell', -, hslot⟩ := Term.static_spec h2 hv
    cases h4.symm.trans ha'
    cases h5.symm.trans hcell'
    obtain ⟨k', hi', he⟩ := State.fieldFound?_setVm hW.alike h2
    have hi2 : U.fieldFound? o n d = some (c, k', i, f) := hi'
    have hs2 : k'.statics = some a := by rw [he]; exact h4
    have hc5 : U.heap[a]? = some cell := by rw [hh a (Array.getElem?_eq_some_iff.mp h5).1]; exact h5
    have hv2 : (Term.static o n d).eval A' U none [] U = some v := by
      simp [Term.eval, State.fieldNamed?, hi2, h3, hs2, hc5, h6, hslot]
    simp only [Cond.before, Cond.holds, Cond.value, hv, hv2] at h ⊢
    exact h
/-! what a state of the run is -/
def bgS (G : bgGl) (w : bgW) (U : State) : Prop := va_P G.2.2.2.1 bgCl (bgL G.2.2.1 G.2.1 w) U.heap ∧ G.2.2.2.2.WarmedH U.vm ∧ G.2.2.2.2.heap.size ≤ U.heap.size ∧ ∀ q, q < G.2.2.2.2.heap.size → U.heap[q]? = G.2.2.2.2.heap[q]?
abbrev bgUn : Cond := .isRef (.static "java/lang/Throwable" "UNASSIGNED_STACK" "[Ljava/lang/StackTraceElement;")
abbrev bgSe : Cond := .isRef (.static "java/lang/Throwable" "SUPPRESSED_SENTINEL" "Ljava/util/List;")
/-- what the run's start gives -/
def bgOk (G : bgGl) : Prop := G.1.stackTraces = false ∧ bgDs (bgA G) G.2.1 ∧ va_K G.2.2.2.1 bgCl (bgT G.2.2.1) G.2.2.2.2 ∧ (∀ w ∈ lw_tbl, w.before #[] G.2.2.2.2 = true) ∧ bgUn.before #[] G.2.2.2.2 = true ∧ bgSe.before #[] G.2.2.2.2 = true ∧ ∀ q ∈ bgNC, va_Nc q.1 q.2 G.2.2.2.2
theorem bgS.calling {G : bgGl} {w : bgW} {U : State} {g : JFrame} {mk : MethodId} {a : Array Value} (h : bgS G w U) : bgS G w (U.calling g mk a) := h
def bgCx (K : bgK) (own : String) (cc : ByteArray) (nL : Nat) (rt : Option FieldType) : Prop :=
  (kP K).tables.exec = Jvm.exec ∧ (kC K).code = cc ∧ (kC K).maxLocals = nL ∧ (kS K).vm.findClass own = some (kM K).cls ∧ (kMe K).sig.returnType = rt ∧ (kMe K).locks = false ∧ bgOk K.1 ∧ (∃ w, bgS K.1 w (kS K)) ∧ ∀ w ∈ bgTs, w.before (kA K) (kS K) = true
section BG3
variable {K : bgK} {own : String} {cc : ByteArray} {nL : Nat} {rt : Option FieldType}
theorem bgCx.hx (C : bgCx K own cc nL rt) : (kP K).tables.exec = Jvm.exec := C.1
theorem bgCx.hb (C : bgCx K own cc nL rt) : (kC K).code = cc := C.2.1
theorem bgCx.hml (C : bgCx K own cc nL rt) : (kC K).maxLocals = nL := C.2.2.1
theorem bgCx.hown (C : bgCx K own cc nL rt) : (kS K).vm.findClass own = some (kM K).cls := C.2.2.2.1
theorem bgCx.hr (C : bgCx K own cc nL rt) : (kMe K).sig.returnType = rt := C.2.2.2.2.1
theorem bgCx.hlk (C : bgCx K own cc nL rt) : (kMe K).locks = false := C.2.2.2.2.2.1
theorem bgCx.ok (C : bgCx K own cc nL rt) : bgOk K.1 := C.2.2.2.2.2.2.1
theorem bgCx.hs (C : bgCx K own cc nL rt) : ∃ w, bgS K.1 w (kS K) := C.2.2.2.2.2.2.2.1
theorem bgCx.hts (C : bgCx K own cc nL rt) : ∀ w ∈ bgTs, w.before (kA K) (kS K) = true := C.2.2.2.2.2.2.2.2
theorem bgCx.hK (C : bgCx K own cc nL rt) : va_K (kD K) bgCl (bgT (kCA K)) (kS K) := by
  obtain ⟨w, -, hW, -⟩ := C.hs
  exact va_K.moved hW.alike C.ok.2.2.1
theorem bgCx.hD (C : bgCx K own cc nL rt) {w : bgW} : va_D (bgA K.1) (bgL (kCA K) (kAd K) w) := C.ok.2.1.to
end BG3
/-! THE JUDGEMENT ('b': nothing that was there at the method's start has been written): at pc, with these locals and this stack, in the world w, the machine comes to Q -/
def bgX (K : bgK) (b : Bool) (n z : Nat) (Q : State → Prop) (w : bgW) (pc : Nat) (L : List (Option bgV)) (st : List bgV) : Prop :=
  ∀ (H : Heap) (locs : List Loc) (ls : Array Slot), (b = true → locs = []) → va_P (kD K) bgCl (bgL (kCA K) (kAd K) w) H → va_S (bgA K.1) (kS K).heap H locs → bgLoc (kAd K) ls L →
    W (kP K) (kL K) (kE K) (kR K) (kS K) (kM K) (kA K) (kB K) (kMe K) (kC K) H locs n z Q (F0 (kM K) pc ls (st.map (bgC (kAd K))))
abbrev bgd (cc : ByteArray) (pc : Nat) (i : Instr) (n pc' : Nat) : Prop := decode cc pc = .ok (i, n) ∧ pc + n = pc'
abbrev bgr (a : Int) : Prop := -2147483648 ≤ a ∧ a ≤ 2147483647
theorem bgr_i {a : Int} (h : bgr a) : (Int32.ofInt a).toInt = a := Int32.toInt_ofInt_of_le (by omega) (by omega)
theorem bgr_eq {a b : Int} (ha : bgr a) (hb : bgr b) : Int32.ofInt a = Int32.ofInt b ↔ a = b := by
  rw [← Int32.toInt_inj, bgr_i ha, bgr_i hb]
theorem bgr_lt {a b : Int} (ha : bgr a) (hb : bgr b) : Int32.ofInt a < Int32.ofInt b ↔ a < b := by
  rw [Int32.lt_iff_toInt_lt, bgr_i ha, bgr_i hb]
theorem bgr_le {a b : Int} (ha : bgr a) (hb : bgr b) : Int32.ofInt a ≤ Int32.ofInt b ↔ a ≤ b := by
  rw [Int32.le_iff_toInt_le, bgr_i ha, bgr_i hb]
theorem bgr_0 : bgr 0 := by omega
theorem bgr_z : Int32.ofInt 0 = 0 := rfl
theorem bgr_nat {a : Int} (h0 : 0 ≤ a) (h : a ≤ 2147483647) : (Int32.ofInt a).toNatClampNeg = a.toNat := by
  show (Int32.ofInt a).toInt.toNat = a.toNat
  rw [bgr_i ⟨by omega, h⟩]
theorem bgr_in {a : Int} {n : Nat} (h0 : 0 ≤ a) (h1 : a < n) (hn : n ≤ 100000) : vp_in (Int32.ofInt a) n := by
  intro q
  rcases q with q | q
  · rw [← bgr_z, bgr_lt ⟨by omega, by omega⟩ bgr_0] at q
    omega
  · rw [bgr_nat h0 (by omega)] at q
    omega
section BGR
variable {K : bgK} {own : String} {cc : ByteArray} {nL : Nat} {rt : Option FieldType} {bb : Bool} {n z : Nat} {Q : State → Prop} {w : bgW} {pc pc' : Nat} {L : List (Option bgV)} {st : List bgV}
theorem bg_iconst (C : bgCx K own cc nL rt) {k : Int} (hd : bgd cc pc (.iconst k) 1 pc') (kk : bgX K bb n z Q w pc' L (bi k :: st)) : bgX K bb n z Q w pc L st := by
  obtain ⟨h1, rfl⟩ := hd
  intro H locs ls hlb hP hS hl
  exact lv_iconst C.hx C.hb h1 rfl (kk H locs ls hlb hP hS hl)
theorem bg_bipush (C : bgCx K own cc nL rt) {k : Int} (hd : bgd cc pc (.bipush k) 2 pc') (hv : (Int8.ofInt k).toInt32 = Int32.ofInt k) (kk : bgX K bb n z Q w pc' L (bi k :: st)) : bgX K bb n z Q w pc L st := by
  obtain ⟨h1, rfl⟩ := hd
  intro H locs ls hlb hP hS hl
  exact lv_bipush C.hx C.hb h1 hv (kk H locs ls hlb hP hS hl)
theorem bg_sipush (C : bgCx K own cc nL rt) {k : Int} (hd : bgd cc pc (.sipush k) 3 pc') (hv : (Int16.ofInt k).toInt32 = Int32.ofInt k) (kk : bgX K bb n z Q w pc' L (bi k :: st)) : bgX K bb n z Q w pc L st := by
  obtain ⟨h1, rfl⟩ := hd
  intro H locs ls hlb hP hS hl
  exact lv_sipush C.hx C.hb h1 hv (kk H locs ls hlb hP hS hl)
theorem bg_lconst (C : bgCx K own cc nL rt) {k : Fin 2} {v : Int} (hd : bgd cc pc (.lconst k) 1 pc') (hv : Int64.ofNat (k : Nat) = Int64.ofInt v) (kk : bgX K bb n z Q w pc' L (bl v :: st)) : bgX K bb n z Q w pc L st := by
  obtain ⟨h1, rfl⟩ := hd
  intro H locs ls hlb hP hS hl
  exact lv_lconst C.hx C.hb h1 hv (kk H locs ls hlb hP hS hl)
theorem bg_iload_n (C : bgCx K own cc nL rt) {k : Fin 4} {i : Nat} {v : Int} (hd : bgd cc pc (.iload_n k) 1 pc') (hi : (k : Nat) = i) (hv : L[i]? = some (some (bi v))) (kk : bgX K bb n z Q w pc' L (bi v :: st)) : bgX K bb n z Q w pc L st := by
  obtain ⟨h1, rfl⟩ := hd
  intro H locs ls hlb hP hS hl
  exact lv_iload_n C.hx C.hb h1 hi (hl.2.2 i _ hv).1 (kk H locs ls hlb hP hS hl)
theorem bg_iload (C : bgCx K own cc nL rt) {i : Nat} {v : Int} (hd : bgd cc pc (.iload i) 2 pc') (hv : L[i]? = some (some (bi v))) (kk : bgX K bb n z Q w pc' L (bi v :: st)) : bgX K bb n z Q w pc L st := by
  obtain ⟨h1, rfl⟩ := hd
  intro H locs ls hlb hP hS hl
  exact lv_iload C.hx C.hb h1 (hl.2.2 i _ hv).1 (kk H locs ls hlb hP hS hl)
theorem bg_aload_n (C : bgCx K own cc nL rt) {k : Fin 4} {i : Nat} {v : Nat} (hd : bgd cc pc (.aload_n k) 1 pc') (hi : (k : Nat) = i) (hv : L[i]? = some (some (br v))) (kk : bgX K bb n z Q w pc' L (br v :: st)) : bgX K bb n z Q w pc L st := by
  obtain ⟨h1, rfl⟩ := hd
  intro H locs ls hlb hP hS hl
  exact lv_aload_n C.hx C.hb h1 hi (hl.2.2 i _ hv).1 (kk H locs ls hlb hP hS hl)
theorem bg_aload (C : bgCx K own cc nL rt) {i : Nat} {v : Nat} (hd : bgd cc pc (.aload i) 2 pc') (hv : L[i]? = some (some (br v))) (kk : bgX K bb n z Q w pc' L (br v :: st)) : bgX K bb n z Q w pc L st := by
  obtain ⟨h1, rfl⟩ := hd
  intro H locs ls hlb hP hS hl
  exact lv_aload C.hx C.hb h1 (hl.2.2 i _ hv).1 (kk H locs ls hlb hP hS hl)
theorem bg_istore_n (C : bgCx K own cc nL rt) {k : Fin 4} {i : Nat} {v : Int} (hd : bgd cc pc (.istore_n k) 1 pc') (hi : (k : Nat) = i) (hL : i < L.length) (kk : bgX K bb n z Q w pc' (L.set i (some (bi v))) st) : bgX K bb n z Q w pc L (bi v :: st) := by
  obtain ⟨h1, rfl⟩ := hd
  intro H locs ls hlb hP hS hl
  exact lv_istore_n C.hx C.hb h1 hi hl.has hL rfl (fun ls' h' => kk H locs ls' hlb hP hS (hl.set hL (v := bi v) rfl h'))
theorem bg_istore (C : bgCx K own cc nL rt) {i : Nat} {v : Int} (hd : bgd cc pc (.istore i) 2 pc') (hL : i < L.length) (kk : bgX K bb n z Q w pc' (L.set i (some (bi v))) st) : bgX K bb n z Q w pc L (bi v :: st) := by
  obtain ⟨h1, rfl⟩ := hd
  intro H locs ls hlb hP hS hl
  exact lv_istore C.hx C.hb h1 hl.has hL rfl (fun ls' h' => kk H locs ls' hlb hP hS (hl.set hL (v := bi v) rfl h'))
theorem bg_astore_n (C : bgCx K own cc nL rt) {k : Fin 4} {i : Nat} {v : Nat} (hd : bgd cc pc (.astore_n k) 1 pc') (hi : (k : Nat) = i) (hL : i < L.length) (kk : bgX K bb n z Q w pc' (L.set i (some (br v))) st) : bgX K bb n z Q w pc L (br v :: st) := by
  obtain ⟨h1, rfl⟩ := hd
  intro H locs ls hlb hP hS hl
  exact lv_astore_n C.hx C.hb h1 hi hl.has hL rfl (fun ls' h' => kk H locs ls' hlb hP hS (hl.set hL (v := br v) rfl h'))
theorem bg_astore (C : bgCx K own cc nL rt) {i : Nat} {v : Nat} (hd : bgd cc pc (.astore i) 2 pc') (hL : i < L.length) (kk : bgX K bb n z Q w pc' (L.set i (some (br v))) st) : bgX K bb n z Q w pc L (br v :: st) := by
  obtain ⟨h1, rfl⟩ := hd
  intro H locs ls hlb hP hS hl
  exact lv_astore C.hx C.hb h1 hl.has hL rfl (fun ls' h' => kk H locs ls' hlb hP hS (hl.set hL (v := br v) rfl h'))
theorem bg_iinc (C : bgCx K own cc nL rt) {i : Nat} {c v : Int} (hd : bgd cc pc (.iinc i c) 3 pc') (hv : L[i]? = some (some (bi v))) (kk : bgX K bb n z Q w pc' (L.set i (some (bi (v + c)))) st) : bgX K bb n z Q w pc L st := by
  obtain ⟨h1, rfl⟩ := hd
  intro H locs ls hlb hP hS hl
  have hL : i < L.length := (List.getElem?_eq_some_iff.mp hv).1
  obtain ⟨j, hj⟩ := List.getElem?_of_mem (bgAs_mem (ad := kAd K) (L := L) (q := (i, bgC (kAd K) (bi v))) |>.mpr ⟨bi v, hv, rfl⟩)
  exact lv_iinc (k := j) C.hx C.hb h1 hl.has hj (v := Int32.ofInt (v + c)) (by rw [Int32.ofInt_add]) hL rfl (fun ls' h' => kk H locs ls' hlb hP hS (hl.set hL (v := bi (v + c)) rfl h'))
theorem bg_iadd (C : bgCx K own cc nL rt) {a b : Int} (hd : bgd cc pc .iadd 1 pc') (kk : bgX K bb n z Q w pc' L (bi (a + b) :: st)) : bgX K bb n z Q w pc L (bi b :: bi a :: st) := by
  obtain ⟨h1, rfl⟩ := hd
  intro H locs ls hlb hP hS hl
  have k1 := kk H locs ls hlb hP hS hl
  refine lv_iadd C.hx C.hb h1 ?_
  rw [← Int32.ofInt_add]
  exact k1
theorem bg_isub (C : bgCx K own cc nL rt) {a b : Int} (hd : bgd cc pc .isub 1 pc') (kk : bgX K bb n z Q w pc' L (bi (a - b) :: st)) : bgX K bb n z Q w pc L (bi b :: bi a :: st) := by
  obtain ⟨h1, rfl⟩ := hd
  intro H locs ls hlb hP hS hl
  have k1 := kk H locs ls hlb hP hS hl
  refine lv_isub C.hx C.hb h1 ?_
  rw [← Int32.ofInt_sub]
  exact k1
theorem bg_imul (C : bgCx K own cc nL rt) {a b : Int} (hd : bgd cc pc .imul 1 pc') (kk : bgX K bb n z Q w pc' L (bi (a * b) :: st)) : bgX K bb n z Q w pc L (bi b :: bi a :: st) := by
  obtain ⟨h1, rfl⟩ := hd
  intro H locs ls hlb hP hS hl
  have k1 := kk H locs ls hlb hP hS hl
  refine lv_imul C.hx C.hb h1 ?_
  rw [← Int32.ofInt_mul]
  exact k1
theorem bg_idiv (C : bgCx K own cc nL rt) {a b : Int} (hd : bgd cc pc .idiv 1 pc') (ha : 0 ≤ a) (ha2 : a ≤ 2147483647) (hb : 0 < b) (hb2 : b ≤ 2147483647) (kk : bgX K bb n z Q w pc' L (bi (a / b) :: st)) : bgX K bb n z Q w pc L (bi b :: bi a :: st) := by
  obtain ⟨h1, rfl⟩ := hd
  intro H locs ls hlb hP hS hl
  have k1 := kk H locs ls hlb hP hS hl
  have e : Int32.ofInt a / Int32.ofInt b = Int32.ofInt (a / b) := by
    have hle : a / b ≤ a := Int.ediv_le_self b ha
    have hge : 0 ≤ a / b := Int.ediv_nonneg ha (by omega)
    apply Int32.toInt_inj.mp
    rw [Int32.toInt_div_of_ne_right _ _ (by
      intro q
      have := congrArg Int32.toInt q
      rw [bgr_i ⟨by omega, by omega⟩] at this
      have h3 : Int32.toInt (-1) = -1 := rfl
      omega), bgr_i ⟨by omega, by omega⟩, bgr_i ⟨by omega, by omega⟩, bgr_i ⟨by omega, by omega⟩, Int.tdiv_eq_ediv_of_nonneg ha]
  refine lv_idiv C.hx C.hb h1 (by
    intro q
    rw [← bgr_z, bgr_eq ⟨by omega, by omega⟩ bgr_0] at q
    omega) ?_
  rw [e]
  exact k1
theorem bg_i2l (C : bgCx K own cc nL rt) {a : Int} (hd : bgd cc pc .i2l 1 pc') (kk : ∀ v : Int, bgX K bb n z Q w pc' L (bl v :: st)) : bgX K bb n z Q w pc L (bi a :: st) := by
  obtain ⟨h1, rfl⟩ := hd
  intro H locs ls hlb hP hS hl
  exact lv_i2l C.hx C.hb h1 (v := Int64.ofInt (Int32.ofInt a).toInt) (by rw [Int64.ofInt_int32ToInt]) (kk (Int32.ofInt a).toInt H locs ls hlb hP hS hl)
theorem bg_dup (C : bgCx K own cc nL rt) {a : bgV} (hd : bgd cc pc .dup 1 pc') (ha : (bgC (kAd K) a).category = 1) (kk : bgX K bb n z Q w pc' L (a :: a :: st)) : bgX K bb n z Q w pc L (a :: st) := by
  obtain ⟨h1, rfl⟩ := hd
  intro H locs ls hlb hP hS hl
  exact lv_dup C.hx C.hb h1 ha (kk H locs ls hlb hP hS hl)
theorem bg_pop (C : bgCx K own cc nL rt) {a : bgV} (hd : bgd cc pc .pop 1 pc') (ha : (bgC (kAd K) a).category = 1) (kk : bgX K bb n z Q w pc' L st) : bgX K bb n z Q w pc L (a :: st) := by
  obtain ⟨h1, rfl⟩ := hd
  intro H locs ls hlb hP hS hl
  exact lv_pop C.hx C.hb h1 ha (kk H locs ls hlb hP hS hl)
theorem bg_dup_x1 (C : bgCx K own cc nL rt) {a b : bgV} (hd : bgd cc pc .dup_x1 1 pc') (ha : (bgC (kAd K) a).category = 1) (hb : (bgC (kAd K) b).category = 1) (kk : bgX K bb n z Q w pc' L (a :: b :: a :: st)) : bgX K bb n z Q w pc L (a :: b :: st) := by
  obtain ⟨h1, rfl⟩ := hd
  intro H locs ls hlb hP hS hl
  exact lv_dup_x1 C.hx C.hb h1 ha hb (kk H locs ls hlb hP hS hl)
theorem bg_dup2 (C : bgCx K own cc nL rt) {a b : bgV} (hd : bgd cc pc .dup2 1 pc') (ha : (bgC (kAd K) a).category = 1) (hb : (bgC (kAd K) b).category = 1) (kk : bgX K bb n z Q w pc' L (a :: b :: a :: b :: st)) : bgX K bb n z Q w pc L (a :: b :: st) := by
  obtain ⟨h1, rfl⟩ := hd
  intro H locs ls hlb hP hS hl
  exact lv_dup2_11 C.hx C.hb h1 ha hb (kk H locs ls hlb hP hS hl)
theorem bg_goto (C : bgCx K own cc nL rt) {off : Int} {l pc'' : Nat} (hd : bgd cc pc (.goto off) 3 pc'') (ht : (pc : Int) + off = (l : Int)) (kk : bgX K bb n z Q w l L st) : bgX K bb n z Q w pc L st := by
  obtain ⟨h1, -⟩ := hd
  intro H locs ls hlb hP hS hl
  exact lv_goto C.hx C.hb h1 ht (kk H locs ls hlb hP hS hl)
theorem bg_icmp_eq (C : bgCx K own cc nL rt) {a b off : Int} {tgt : Nat} (hd : bgd cc pc (.if_icmp .eq off) 3 pc') (ht : (pc : Int) + off = (tgt : Int)) (ha : bgr a) (hb : bgr b) (k1 : a = b → bgX K bb n z Q w tgt L st) (k2 : ¬ a = b → bgX K bb n z Q w pc' L st) : bgX K bb n z Q w pc L (bi b :: bi a :: st) := by
  obtain ⟨h1, rfl⟩ := hd
  intro H locs ls hlb hP hS hl
  exact lv_icmp_eq C.hx C.hb h1 ht (fun q => k1 ((bgr_eq ha hb).mp q) H locs ls hlb hP hS hl) (fun q => k2 (fun e => q ((bgr_eq ha hb).mpr e)) H locs ls hlb hP hS hl)
theorem bg_icmp_eq0 (C : bgCx K own cc nL rt) {a b off : Int} {tgt : Nat} (hd : bgd cc pc (.if_icmp .eq off) 3 pc') (ht : (pc : Int) + off = (tgt : Int)) (k1 : bgX K bb n z Q w tgt L st) (k2 : bgX K bb n z Q w pc' L st) : bgX K bb n z Q w pc L (bi b :: bi a :: st) := by
  obtain ⟨h1, rfl⟩ := hd
  intro H locs ls hlb hP hS hl
  exact lv_icmp_eq C.hx C.hb h1 ht (fun _ => k1 H locs ls hlb hP hS hl) (fun _ => k2 H locs ls hlb hP hS hl)
theorem bg_if_eq (C : bgCx K own cc nL rt) {a off : Int} {tgt : Nat} (hd : bgd cc pc (.ifCond .eq off) 3 pc') (ht : (pc : Int) + off = (tgt : Int)) (ha : bgr a) (k1 : a = 0 → bgX K bb n z Q w tgt L st) (k2 : ¬ a = 0 → bgX K bb n z Q w pc' L st) : bgX K bb n z Q w pc L (bi a :: st) := by
  obtain ⟨h1, rfl⟩ := hd
  intro H locs ls hlb hP hS hl
  exact lv_if_eq C.hx C.hb h1 ht (fun q => k1 ((bgr_eq ha bgr_0).mp q) H locs ls hlb hP hS hl) (fun q => k2 (fun e => q ((bgr_eq ha bgr_0).mpr e)) H locs ls hlb hP hS hl)
theorem bg_if_eq0 (C : bgCx K own cc nL rt) {a off : Int} {tgt : Nat} (hd : bgd cc pc (.ifCond .eq off) 3 pc') (ht : (pc : Int) + off = (tgt : Int)) (k1 : bgX K bb n z Q w tgt L st) (k2 : bgX K bb n z Q w pc' L st) : bgX K bb n z Q w pc L (bi a :: st) := by
  obtain ⟨h1, rfl⟩ := hd
  intro H locs ls hlb hP hS hl
  exact lv_if_eq C.hx C.hb h1 ht (fun _ => k1 H locs ls hlb hP hS hl) (fun _ => k2 H locs ls hlb hP hS hl)
theorem bg_icmp_ne (C : bgCx K own cc nL rt) {a b off : Int} {tgt : Nat} (hd : bgd cc pc (.if_icmp .ne off) 3 pc') (ht : (pc : Int) + off = (tgt : Int)) (ha : bgr a) (hb : bgr b) (k1 : ¬ a = b → bgX K bb n z Q w tgt L st) (k2 : a = b → bgX K bb n z Q w pc' L st) : bgX K bb n z Q w pc L (bi b :: bi a :: st) := by
  obtain ⟨h1, rfl⟩ := hd
  intro H locs ls hlb hP hS hl
  exact lv_icmp_ne C.hx C.hb h1 ht (fun q => k1 (fun e => q ((bgr_eq ha hb).mpr e)) H locs ls hlb hP hS hl) (fun q => k2 ((bgr_eq ha hb).mp q) H locs ls hlb hP hS hl)
theorem bg_icmp_ne0 (C : bgCx K own cc nL rt) {a b off : Int} {tgt : Nat} (hd : bgd cc pc (.if_icmp .ne off) 3 pc') (ht : (pc : Int) + off = (tgt : Int)) (k1 : bgX K bb n z Q w tgt L st) (k2 : bgX K bb n z Q w pc' L st) : bgX K bb n z Q w pc L (bi b :: bi a :: st) := by
  obtain ⟨h1, rfl⟩ := hd
  intro H locs ls hlb hP hS hl
  exact lv_icmp_ne C.hx C.hb h1 ht (fun _ => k1 H locs ls hlb hP hS hl) (fun _ => k2 H locs ls hlb hP hS hl)
theorem bg_if_ne (C : bgCx K own cc nL rt) {a off : Int} {tgt : Nat} (hd : bgd cc pc (.ifCond .ne off) 3 pc') (ht : (pc : Int) + off = (tgt : Int)) (ha : bgr a) (k1 : ¬ a = 0 → bgX K bb n z Q w tgt L st) (k2 : a = 0 → bgX K bb n z Q w pc' L st) : bgX K bb n z Q w pc L (bi a :: st) := by
  obtain ⟨h1, rfl⟩ := hd
  intro H locs ls hlb hP hS hl
  exact lv_if_ne C.hx C.hb h1 ht (fun q => k1 (fun e => q ((bgr_eq ha bgr_0).mpr e)) H locs ls hlb hP hS hl) (fun q => k2 ((bgr_eq ha bgr_0).mp q) H locs ls hlb hP hS hl)
theorem bg_if_ne0 (C : bgCx K own cc nL rt) {a off : Int} {tgt : Nat} (hd : bgd cc pc (.ifCond .ne off) 3 pc') (ht : (pc : Int) + off = (tgt : Int)) (k1 : bgX K bb n z Q w tgt L st) (k2 : bgX K bb n z Q w pc' L st) : bgX K bb n z Q w pc L (bi a :: st) := by
  obtain ⟨h1, rfl⟩ := hd
  intro H locs ls hlb hP hS hl
  exact lv_if_ne C.hx C.hb h1 ht (fun _ => k1 H locs ls hlb hP hS hl) (fun _ => k2 H locs ls hlb hP hS hl)
theorem bg_icmp_lt (C : bgCx K own cc nL rt) {a b off : Int} {tgt : Nat} (hd : bgd cc pc (.if_icmp .lt off) 3 pc') (ht : (pc : Int) + off = (tgt : Int)) (ha : bgr a) (hb : bgr b) (k1 : a < b → bgX K bb n z Q w tgt L st) (k2 : ¬ a < b → bgX K bb n z Q w pc' L st) : bgX K bb n z Q w pc L (bi b :: bi a :: st) := by
  obtain ⟨h1, rfl⟩ := hd
  intro H locs ls hlb hP hS hl
  exact lv_icmp_lt C.hx C.hb h1 ht (fun q => k1 ((bgr_lt ha hb).mp q) H locs ls hlb hP hS hl) (fun q => k2 (fun e => q ((bgr_lt ha hb).mpr e)) H locs ls hlb hP hS hl)
theorem bg_icmp_lt0 (C : bgCx K own cc nL rt) {a b off : Int} {tgt : Nat} (hd : bgd cc pc (.if_icmp .lt off) 3 pc') (ht : (pc : Int) + off = (tgt : Int)) (k1 : bgX K bb n z Q w tgt L st) (k2 : bgX K bb n z Q w pc' L st) : bgX K bb n z Q w pc L (bi b :: bi a :: st) := by
  obtain ⟨h1, rfl⟩ := hd
  intro H locs ls hlb hP hS hl
  exact lv_icmp_lt C.hx C.hb h1 ht (fun _ => k1 H locs ls hlb hP hS hl) (fun _ => k2 H locs ls hlb hP hS hl)
theorem bg_if_lt (C : bgCx K own cc nL rt) {a off : Int} {tgt : Nat} (hd : bgd cc pc (.ifCond .lt off) 3 pc') (ht : (pc : Int) + off = (tgt : Int)) (ha : bgr a) (k1 : a < 0 → bgX K bb n z Q w tgt L st) (k2 : ¬ a < 0 → bgX K bb n z Q w pc' L st) : bgX K bb n z Q w pc L (bi a :: st) := by
  obtain ⟨h1, rfl⟩ := hd
  intro H locs ls hlb hP hS hl
  exact lv_if_lt C.hx C.hb h1 ht (fun q => k1 ((bgr_lt ha bgr_0).mp q) H locs ls hlb hP hS hl) (fun q => k2 (fun e => q ((bgr_lt ha bgr_0).mpr e)) H locs ls hlb hP hS hl)
theorem bg_if_lt0 (C : bgCx K own cc nL rt) {a off : Int} {tgt : Nat} (hd : bgd cc pc (.ifCond .lt off) 3 pc') (ht : (pc : Int) + off = (tgt : Int)) (k1 : bgX K bb n z Q w tgt L st) (k2 : bgX K bb n z Q w pc' L st) : bgX K bb n z Q w pc L (bi a :: st) := by
  obtain ⟨h1, rfl⟩ := hd
  intro H locs ls hlb hP hS hl
  exact lv_if_lt C.hx C.hb h1 ht (fun _ => k1 H locs ls hlb hP hS hl) (fun _ => k2 H locs ls hlb hP hS hl)
theorem bg_icmp_ge (C : bgCx K own cc nL rt) {a b off : Int} {tgt : Nat} (hd : bgd cc pc (.if_icmp .ge off) 3 pc') (ht : (pc : Int) + off = (tgt : Int)) (ha : bgr a) (hb : bgr b) (k1 : b ≤ a → bgX K bb n z Q w tgt L st) (k2 : ¬ b ≤ a → bgX K bb n z Q w pc' L st) : bgX K bb n z Q w pc L (bi b :: bi a :: st) := by
  obtain ⟨h1, rfl⟩ := hd
  intro H locs ls hlb hP hS hl
  exact lv_icmp_ge C.hx C.hb h1 ht (fun q => k1 ((bgr_le hb ha).mp q) H locs ls hlb hP hS hl) (fun q => k2 (fun e => q ((bgr_le hb ha).mpr e)) H locs ls hlb hP hS hl)
theorem bg_icmp_ge0 (C : bgCx K own cc nL rt) {a b off : Int} {tgt : Nat} (hd : bgd cc pc (.if_icmp .ge off) 3 pc') (ht : (pc : Int) + off = (tgt : Int)) (k1 : bgX K bb n z Q w tgt L st) (k2 : bgX K bb n z Q w pc' L st) : bgX K bb n z Q w pc L (bi b :: bi a :: st) := by
  obtain ⟨h1, rfl⟩ := hd
  intro H locs ls hlb hP hS hl
  exact lv_icmp_ge C.hx C.hb h1 ht (fun _ => k1 H locs ls hlb hP hS hl) (fun _ => k2 H locs ls hlb hP hS hl)
theorem bg_if_ge (C : bgCx K own cc nL rt) {a off : Int} {tgt : Nat} (hd : bgd cc pc (.ifCond .ge off) 3 pc') (ht : (pc : Int) + off = (tgt : Int)) (ha : bgr a) (k1 : 0 ≤ a → bgX K bb n z Q w tgt L st) (k2 : ¬ 0 ≤ a → bgX K bb n z Q w pc' L st) : bgX K bb n z Q w pc L (bi a :: st) := by
  obtain ⟨h1, rfl⟩ := hd
  intro H locs ls hlb hP hS hl
  exact lv_if_ge C.hx C.hb h1 ht (fun q => k1 ((bgr_le bgr_0 ha).mp q) H locs ls hlb hP hS hl) (fun q => k2 (fun e => q ((bgr_le bgr_0 ha).mpr e)) H locs ls hlb hP hS hl)
theorem bg_if_ge0 (C : bgCx K own cc nL rt) {a off : Int} {tgt : Nat} (hd : bgd cc pc (.ifCond .ge off) 3 pc') (ht : (pc : Int) + off = (tgt : Int)) (k1 : bgX K bb n z Q w tgt L st) (k2 : bgX K bb n z Q w pc' L st) : bgX K bb n z Q w pc L (bi a :: st) := by
  obtain ⟨h1, rfl⟩ := hd
  intro H locs ls hlb hP hS hl
  exact lv_if_ge C.hx C.hb h1 ht (fun _ => k1 H locs ls hlb hP hS hl) (fun _ => k2 H locs ls hlb hP hS hl)
theorem bg_icmp_gt (C : bgCx K own cc nL rt) {a b off : Int} {tgt : Nat} (hd : bgd cc pc (.if_icmp .gt off) 3 pc') (ht : (pc : Int) + off = (tgt : Int)) (ha : bgr a) (hb : bgr b) (k1 : b < a → bgX K bb n z Q w tgt L st) (k2 : ¬ b < a → bgX K bb n z Q w pc' L st) : bgX K bb n z Q w pc L (bi b :: bi a :: st) := by
  obtain ⟨h1, rfl⟩ := hd
  intro H locs ls hlb hP hS hl
  exact lv_icmp_gt C.hx C.hb h1 ht (fun q => k1 ((bgr_lt hb ha).mp q) H locs ls hlb hP hS hl) (fun q => k2 (fun e => q ((bgr_lt hb ha).mpr e)) H locs ls hlb hP hS hl)
theorem bg_icmp_gt0 (C : bgCx K own cc nL rt) {a b off : Int} {tgt : Nat} (hd : bgd cc pc (.if_icmp .gt off) 3 pc') (ht : (pc : Int) + off = (tgt : Int)) (k1 : bgX K bb n z Q w tgt L st) (k2 : bgX K bb n z Q w pc' L st) : bgX K bb n z Q w pc L (bi b :: bi a :: st) := by
  obtain ⟨h1, rfl⟩ := hd
  intro H locs ls hlb hP hS hl
  exact lv_icmp_gt C.hx C.hb h1 ht (fun _ => k1 H locs ls hlb hP hS hl) (fun _ => k2 H locs ls hlb hP hS hl)
theorem bg_if_gt (C : bgCx K own cc nL rt) {a off : Int} {tgt : Nat} (hd : bgd cc pc (.ifCond .gt off) 3 pc') (ht : (pc : Int) + off = (tgt : Int)) (ha : bgr a) (k1 : 0 < a → bgX K bb n z Q w tgt L st) (k2 : ¬ 0 < a → bgX K bb n z Q w pc' L st) : bgX K bb n z Q w pc L (bi a :: st) := by
  obtain ⟨h1, rfl⟩ := hd
  intro H locs ls hlb hP hS hl
  exact lv_if_gt C.hx C.hb h1 ht (fun q => k1 ((bgr_lt bgr_0 ha).mp q) H locs ls hlb hP hS hl) (fun q => k2 (fun e => q ((bgr_lt bgr_0 ha).mpr e)) H locs ls hlb hP hS hl)
theorem bg_if_gt0 (C : bgCx K own cc nL rt) {a off : Int} {tgt : Nat} (hd : bgd cc pc (.ifCond .gt off) 3 pc') (ht : (pc : Int) + off = (tgt : Int)) (k1 : bgX K bb n z Q w tgt L st) (k2 : bgX K bb n z Q w pc' L st) : bgX K bb n z Q w pc L (bi a :: st) := by
  obtain ⟨h1, rfl⟩ := hd
  intro H locs ls hlb hP hS hl
  exact lv_if_gt C.hx C.hb h1 ht (fun _ => k1 H locs ls hlb hP hS hl) (fun _ => k2 H locs ls hlb hP hS hl)
theorem bg_icmp_le (C : bgCx K own cc nL rt) {a b off : Int} {tgt : Nat} (hd : bgd cc pc (.if_icmp .le off) 3 pc') (ht : (pc : Int) + off = (tgt : Int)) (ha : bgr a) (hb : bgr b) (k1 : a ≤ b → bgX K bb n z Q w tgt L st) (k2 : ¬ a ≤ b → bgX K bb n z Q w pc' L st) : bgX K bb n z Q w pc L (bi b :: bi a :: st) := by
  obtain ⟨h1, rfl⟩ := hd
  intro H locs ls hlb hP hS hl
  exact lv_icmp_le C.hx C.hb h1 ht (fun q => k1 ((bgr_le ha hb).mp q) H locs ls hlb hP hS hl) (fun q => k2 (fun e => q ((bgr_le ha hb).mpr e)) H locs ls hlb hP hS hl)
theorem bg_icmp_le0 (C : bgCx K own cc nL rt) {a b off : Int} {tgt : Nat} (hd : bgd cc pc (.if_icmp .le off) 3 pc') (ht : (pc : Int) + off = (tgt : Int)) (k1 : bgX K bb n z Q w tgt L st) (k2 : bgX K bb n z Q w pc' L st) : bgX K bb n z Q w pc L (bi b :: bi a :: st) := by
  obtain ⟨h1, rfl⟩ := hd
  intro H locs ls hlb hP hS hl
  exact lv_icmp_le C.hx C.hb h1 ht (fun _ => k1 H locs ls hlb hP hS hl) (fun _ => k2 H locs ls hlb hP hS hl)
theorem bg_if_le (C : bgCx K own cc nL rt) {a off : Int} {tgt : Nat} (hd : bgd cc pc (.ifCond .le off) 3 pc') (ht : (pc : Int) + off = (tgt : Int)) (ha : bgr a) (k1 : a ≤ 0 → bgX K bb n z Q w tgt L st) (k2 : ¬ a ≤ 0 → bgX K bb n z Q w pc' L st) : bgX K bb n z Q w pc L (bi a :: st) := by
  obtain ⟨h1, rfl⟩ := hd
  intro H locs ls hlb hP hS hl
  exact lv_if_le C.hx C.hb h1 ht (fun q => k1 ((bgr_le ha bgr_0).mp q) H locs ls hlb hP hS hl) (fun q => k2 (fun e => q ((bgr_le ha bgr_0).mpr e)) H locs ls hlb hP hS hl)
theorem bg_if_le0 (C : bgCx K own cc nL rt) {a off : Int} {tgt : Nat} (hd : bgd cc pc (.ifCond .le off) 3 pc') (ht : (pc : Int) + off = (tgt : Int)) (k1 : bgX K bb n z Q w tgt L st) (k2 : bgX K bb n z Q w pc' L st) : bgX K bb n z Q w pc L (bi a :: st) := by
  obtain ⟨h1, rfl⟩ := hd
  intro H locs ls hlb hP hS hl
  exact lv_if_le C.hx C.hb h1 ht (fun _ => k1 H locs ls hlb hP hS hl) (fun _ => k2 H locs ls hlb hP hS hl)
end BGR
end
section
/-! a class of the world, by its number -/
def bgCF (ci : Nat) (C0 : String) (T : u_T) (ty : Nat → FieldType) (N : Nat) : Prop := bgCl[ci]? = some (C0, T, N) ∧ bgNs ci = N ∧ (∀ w ∈ u_ws C0 T N, w ∈ bgTs) ∧ (∀ k, k < N → parseFieldDescriptor (T k).2.2.1 = some (ty k)) ∧ (∀ a, a < N → ∀ b, b < N → a ≠ b → (T a).2.1 ≠ (T b).2.1) ∧ ∀ k, k < N → (T k).1 = C0
theorem bgK_lt {k : Nat} {x : Nat ⊕ (Nat × Nat)} (h : bgKinds[k]? = some x) : k < bgNO := by
  have := (List.getElem?_eq_some_iff.mp h).1
  rwa [bgKinds_len] at this
theorem bg_len {k n t : Nat} (h : bgKinds[k]? = some (.inr (n, t))) : n ≤ 1000 := bgKinds_ok n t (List.mem_of_getElem? h)
section BGF
variable {K : bgK} {own : String} {cc : ByteArray} {nL : Nat} {rt : Option FieldType} {bb : Bool} {n z : Nat} {Q : State → Prop} {w : bgW} {pc pc' : Nat} {L : List (Option bgV)} {st : List bgV} {k ci i idx N : Nat} {C0 : String} {T : u_T} {ty : Nat → FieldType}
theorem bg_objAt {cA : Nat → ClassId} {ad : Nat → Nat} (hk : bgKinds[k]? = some (.inl ci)) : (bgL cA ad w)[k]? = some (ad k, .inr (ci, (List.range (bgNs ci)).map (bgVal ad w k))) := by
  rw [bgL_at (bgK_lt hk), bgE_obj hk]
theorem bg_geti (C : bgCx K own cc nL rt) (F : bgCF ci C0 T ty N) {j : Int} (hj : (i : Int) = j) (hk : bgKinds[k]? = some (.inl ci)) (hi : i < N) (hr : bgRef k i = none) (hl : Cond.fieldLink own idx C0 (T i).2.1 (T i).2.2.1 ∈ bgTs) (hd : bgd cc pc (.getfield idx) 3 pc') (kk : bgX K bb n z Q w pc' L (bi (w k j) :: st)) : bgX K bb n z Q w pc L (br k :: st) := by
  obtain ⟨h1, rfl⟩ := hd
  subst hj
  intro H locs ls hlb hP hS hlo
  have hv : ((List.range (bgNs ci)).map (bgVal (kAd K) w k))[i]? = some (Value.int (Int32.ofInt (w k (i : Int)))) := by
    rw [List.getElem?_map, List.getElem?_range (by rw [F.2.1]; exact hi)]
    show some (bgVal (kAd K) w k i) = _
    unfold bgVal
    rw [hr]
  exact va_get (C := C0) (T := T) (N := N) (ref := C0) (index := idx) C.hx C.hb C.hts F.2.2.1 C.hown C.hK hP k (bg_objAt hk) F.1 i hi (C.hts _ hl) (fun x h => by rw [F.2.2.2.2.2 i hi] at h; exact h) hv h1 (kk H locs ls hlb hP hS hlo)
theorem bg_getr (C : bgCx K own cc nL rt) (F : bgCF ci C0 T ty N) {j : Nat} (hk : bgKinds[k]? = some (.inl ci)) (hi : i < N) (hr : bgRef k i = some j) (hl : Cond.fieldLink own idx C0 (T i).2.1 (T i).2.2.1 ∈ bgTs) (hd : bgd cc pc (.getfield idx) 3 pc') (kk : bgX K bb n z Q w pc' L (br j :: st)) : bgX K bb n z Q w pc L (br k :: st) := by
  obtain ⟨h1, rfl⟩ := hd
  intro H locs ls hlb hP hS hlo
  have hv : ((List.range (bgNs ci)).map (bgVal (kAd K) w k))[i]? = some (Value.ref (kAd K j)) := by
    rw [List.getElem?_map, List.getElem?_range (by rw [F.2.1]; exact hi)]
    show some (bgVal (kAd K) w k i) = _
    unfold bgVal
    rw [hr]
  exact va_get (C := C0) (T := T) (N := N) (ref := C0) (index := idx) C.hx C.hb C.hts F.2.2.1 C.hown C.hK hP k (bg_objAt hk) F.1 i hi (C.hts _ hl) (fun x h => by rw [F.2.2.2.2.2 i hi] at h; exact h) hv h1 (kk H locs ls hlb hP hS hlo)
theorem bg_setObj {ad : Nat → Nat} {v : Int} (hr : bgRef k i = none) (hi : i < bgNs ci) : ((List.range (bgNs ci)).map (bgVal ad w k)).set i (.int (Int32.ofInt v)) = (List.range (bgNs ci)).map (bgVal ad (bgU w k (i : Int) v) k) := by
  apply List.ext_getElem?
  intro j
  by_cases hj : j = i
  · subst hj
    rw [List.getElem?_set_self (by rw [List.length_map, List.length_range]; exact hi), List.getElem?_map, List.getElem?_range hi]
    show _ = some (bgVal ad (bgU w k (j : Int) v) k j)
    unfold bgVal
    rw [hr, bgU_eq]
  · rw [List.getElem?_set_ne (fun q => hj q.symm), List.getElem?_map, List.getElem?_map]
    have e : bgVal ad (bgU w k (i : Int) v) k j = bgVal ad w k j := by
      unfold bgVal
      rw [bgU_nei (by omega)]
    cases hx : (List.range (bgNs ci))[j]? with
    | none => rfl
    | some x =>
      have hxj : x = j := by
        have h2 := List.getElem?_eq_some_iff.mp hx
        obtain ⟨h3, h4⟩ := h2
        rw [List.getElem_range] at h4
        exact h4.symm
      subst hxj
      show some (bgVal ad w k x) = some (bgVal ad (bgU w k (i : Int) v) k x)
      rw [e]
theorem bg_puti (C : bgCx K own cc nL rt) (F : bgCF ci C0 T ty N) {j v : Int} (hj : (i : Int) = j) (hk : bgKinds[k]? = some (.inl ci)) (hi : i < N) (hr : bgRef k i = none) (hfin : (T i).2.2.2 = false) (hty : ty i = .int ∨ (ty i = .boolean ∧ (v = 0 ∨ v = 1))) (hl : Cond.fieldLink own idx C0 (T i).2.1 (T i).2.2.1 ∈ bgTs) (hd : bgd cc pc (.putfield idx) 3 pc') (kk : ∀ w', w' = bgU w k j v → bgX K false n z Q w' pc' L st) : bgX K bb n z Q w pc L (bi v :: br k :: st) := by
  obtain ⟨h1, rfl⟩ := hd
  subst hj
  intro H locs ls hlb hP hS hlo
  have hnar : narrow (ty i) (.int (Int32.ofInt v)) = .int (Int32.ofInt v) ∧ fits (ty i) (.int (Int32.ofInt v)) = true := by
    rcases hty with h | ⟨h, hv | hv⟩
    · rw [h]; exact ⟨rfl, rfl⟩
    · rw [h, hv]; exact ⟨rfl, rfl⟩
    · rw [h, hv]; exact ⟨rfl, rfl⟩
  refine va_put (C := C0) (T := T) (N := N) (ref := C0) (index := idx) C.hx C.hb C.hts F.2.2.1 ty F.2.2.2.1 F.2.2.2.2.1 C.hown C.hK hP C.hD hS k (bg_objAt hk) F.1 i hi (C.hts _ hl) (fun x h => by rw [F.2.2.2.2.2 i hi] at h; exact h) hfin (F.2.2.2.1 i hi) hnar.1 hnar.2 (by rw [List.length_map, List.length_range, F.2.1]; exact hi) h1 (fun H1 locs1 hP1 hD1 hS1 => ?_)
  have e : (bgL (kCA K) (kAd K) w).set k (kAd K k, .inr (ci, ((List.range (bgNs ci)).map (bgVal (kAd K) w k)).set i (bgC (kAd K) (bi v)))) = bgL (kCA K) (kAd K) (bgU w k (i : Int) v) := by
    rw [show bgC (kAd K) (bi v) = Value.int (Int32.ofInt v) from rfl, bg_setObj hr (by rw [F.2.1]; exact hi), ← bgE_obj (cA := kCA K) hk]
    exact bgL_set (bgK_lt hk) (fun k' i' h => bgU_ne i' h)
  rw [e] at hP1
  exact kk _ rfl H1 locs1 ls (fun h => by cases h) hP1 hS1 hlo
end BGF
section BGA
variable {K : bgK} {own : String} {cc : ByteArray} {nL : Nat} {rt : Option FieldType} {bb : Bool} {n z : Nat} {Q : State → Prop} {w : bgW} {pc pc' : Nat} {L : List (Option bgV)} {st : List bgV} {k len : Nat} {i v : Int}
theorem bg_clampI (h0 : 0 ≤ i) (h1 : i ≤ 2147483647) : (((Int32.ofInt i).toNatClampNeg : Nat) : Int) = i := by
  rw [bgr_nat h0 h1]
  omega
theorem bg_iald (C : bgCx K own cc nL rt) (hk : bgKinds[k]? = some (.inr (len, 0))) (h0 : 0 ≤ i) (h1 : i < (len : Int)) (hd : bgd cc pc .iaload 1 pc') (kk : bgX K bb n z Q w pc' L (bi (w k i) :: st)) : bgX K bb n z Q w pc L (bi i :: br k :: st) := by
  obtain ⟨h2, rfl⟩ := hd
  intro H locs ls hlb hP hS hlo
  have hle := bg_len hk
  have he : (bgL (kCA K) (kAd K) w)[k]? = some (kAd K k, .inl (kCA K 0, len, .inl (fun j => Int32.ofInt (w k (j : Int))))) := by rw [bgL_at (bgK_lt hk), bgE_arr hk (by decide)]
  have k1 := kk H locs ls hlb hP hS hlo
  refine va_iald C.hx C.hb C.hK hP k 0 he rfl (bgr_in h0 h1 (by omega)) h2 ?_
  rw [bg_clampI h0 (by omega)]
  exact k1
theorem bg_zald (C : bgCx K own cc nL rt) (hk : bgKinds[k]? = some (.inr (len, 1))) (h0 : 0 ≤ i) (h1 : i < (len : Int)) (hd : bgd cc pc .baload 1 pc') (kk : bgX K bb n z Q w pc' L (bi (w k i) :: st)) : bgX K bb n z Q w pc L (bi i :: br k :: st) := by
  obtain ⟨h2, rfl⟩ := hd
  intro H locs ls hlb hP hS hlo
  have hle := bg_len hk
  have he : (bgL (kCA K) (kAd K) w)[k]? = some (kAd K k, .inl (kCA K 1, len, .inl (fun j => Int32.ofInt (w k (j : Int))))) := by rw [bgL_at (bgK_lt hk), bgE_arr hk (by decide)]
  have k1 := kk H locs ls hlb hP hS hlo
  refine va_zald C.hx C.hb C.hK hP k 1 he rfl (bgr_in h0 h1 (by omega)) h2 ?_
  rw [bg_clampI h0 (by omega)]
  exact k1
theorem bg_updA (h0 : 0 ≤ i) (h1 : i ≤ 2147483647) : upd (fun j : Nat => Int32.ofInt (w k (j : Int))) (Int32.ofInt i).toNatClampNeg (Int32.ofInt v) = fun j : Nat => Int32.ofInt (bgU w k i v k (j : Int)) := by
  funext j
  have e := bg_clampI h0 h1
  by_cases hj : j = (Int32.ofInt i).toNatClampNeg
  · subst hj
    rw [e, bgU_eq]
    simp [upd]
  · rw [bgU_nei (by omega)]
    simp [upd, hj]
theorem bg_setArr {cA : Nat → ClassId} {ad : Nat → Nat} {t : Nat} (hk : bgKinds[k]? = some (.inr (len, t))) (ht : t ≠ 2) (h0 : 0 ≤ i) (h1 : i ≤ 2147483647) :
    (bgL cA ad w).set k (ad k, .inl (cA t, len, .inl (upd (fun j : Nat => Int32.ofInt (w k (j : Int))) (Int32.ofInt i).toNatClampNeg (Int32.ofInt v)))) = bgL cA ad (bgU w k i v) := by
  rw [bg_updA h0 h1, ← bgE_arr (cA := cA) (ad := ad) hk ht]
  exact bgL_set (bgK_lt hk) (fun k' i' h => bgU_ne i' h)
theorem bg_iast (C : bgCx K own cc nL rt) (hk : bgKinds[k]? = some (.inr (len, 0))) (h0 : 0 ≤ i) (h1 : i < (len : Int)) (hd : bgd cc pc .iastore 1 pc') (kk : ∀ w', w' = bgU w k i v → bgX K false n z Q w' pc' L st) : bgX K bb n z Q w pc L (bi v :: bi i :: br k :: st) := by
  obtain ⟨h2, rfl⟩ := hd
  intro H locs ls hlb hP hS hlo
  have hle := bg_len hk
  have he : (bgL (kCA K) (kAd K) w)[k]? = some (kAd K k, .inl (kCA K 0, len, .inl (fun j => Int32.ofInt (w k (j : Int))))) := by rw [bgL_at (bgK_lt hk), bgE_arr hk (by decide)]
  refine va_iast C.hx C.hb C.hK hP C.hD hS k 0 he rfl (bgr_in h0 h1 (by omega)) h2 (fun H1 locs1 hP1 hD1 hS1 => ?_)
  rw [bg_setArr hk (by decide) h0 (by omega)] at hP1
  exact kk _ rfl H1 locs1 ls (fun h => by cases h) hP1 hS1 hlo
theorem bg_zast (C : bgCx K own cc nL rt) (hk : bgKinds[k]? = some (.inr (len, 1))) (h0 : 0 ≤ i) (h1 : i < (len : Int)) (hv : v = 0 ∨ v = 1) (hd : bgd cc pc .bastore 1 pc') (kk : ∀ w', w' = bgU w k i v → bgX K false n z Q w' pc' L st) : bgX K bb n z Q w pc L (bi v :: bi i :: br k :: st) := by
  obtain ⟨h2, rfl⟩ := hd
  intro H locs ls hlb hP hS hlo
  have hle := bg_len hk
  have he : (bgL (kCA K) (kAd K) w)[k]? = some (kAd K k, .inl (kCA K 1, len, .inl (fun j => Int32.ofInt (w k (j : Int))))) := by rw [bgL_at (bgK_lt hk), bgE_arr hk (by decide)]
  refine va_zast C.hx C.hb C.hK hP C.hD hS k 1 he rfl (bgr_in h0 h1 (by omega)) h2 (fun H1 locs1 hP1 hD1 hS1 => ?_)
  have hn : vp_nar .boolean (Int32.ofInt v) = Int32.ofInt v := by
    rcases hv with rfl | rfl <;> rfl
  rw [hn, bg_setArr hk (by decide) h0 (by omega)] at hP1
  exact kk _ rfl H1 locs1 ls (fun h => by cases h) hP1 hS1 hlo
theorem bg_last (C : bgCx K own cc nL rt) (hk : bgKinds[k]? = some (.inr (len, 2))) (h0 : 0 ≤ i) (h1 : i < (len : Int)) (hd : bgd cc pc .lastore 1 pc') (kk : ∀ w', w' = bgU w k i v → bgX K false n z Q w' pc' L st) : bgX K bb n z Q w pc L (bl v :: bi i :: br k :: st) := by
  obtain ⟨h2, rfl⟩ := hd
  intro H locs ls hlb hP hS hlo
  have hle := bg_len hk
  have he : (bgL (kCA K) (kAd K) w)[k]? = some (kAd K k, .inl (kCA K 2, len, .inr (.inl (fun j => Int64.ofInt (w k (j : Int)))))) := by rw [bgL_at (bgK_lt hk), bgE_lon hk]
  refine va_last C.hx C.hb C.hK hP C.hD hS k 2 he rfl (bgr_in h0 h1 (by omega)) h2 (fun H1 locs1 hP1 hD1 hS1 => ?_)
  have e := bg_clampI h0 (show i ≤ 2147483647 by omega)
  have eu : vp_updL (fun j : Nat => Int64.ofInt (w k (j : Int))) (Int32.ofInt i).toNatClampNeg (Int64.ofInt v) = fun j : Nat => Int64.ofInt (bgU w k i v k (j : Int)) := by
    funext j
    by_cases hj : j = (Int32.ofInt i).toNatClampNeg
    · subst hj
      rw [e, bgU_eq]
      simp [vp_updL]
    · rw [bgU_nei (by omega)]
      simp [vp_updL, hj]
  rw [eu, ← bgE_lon (cA := kCA K) (ad := kAd K) hk, bgL_set (bgK_lt hk) (fun k' i' h => bgU_ne i' h)] at hP1
  exact kk _ rfl H1 locs1 ls (fun h => by cases h) hP1 hS1 hlo
theorem bg_alen (C : bgCx K own cc nL rt) (hk : bgKinds[k]? = some (.inr (len, 0))) (hv : (len : Int) = v) (hd : bgd cc pc .arraylength 1 pc') (kk : bgX K bb n z Q w pc' L (bi v :: st)) : bgX K bb n z Q w pc L (br k :: st) := by
  obtain ⟨h2, rfl⟩ := hd
  subst hv
  intro H locs ls hlb hP hS hlo
  have he : (bgL (kCA K) (kAd K) w)[k]? = some (kAd K k, .inl (kCA K 0, len, .inl (fun j => Int32.ofInt (w k (j : Int))))) := by rw [bgL_at (bgK_lt hk), bgE_arr hk (by decide)]
  exact va_alen C.hx C.hb C.hK hP k 0 he (ty := .int) rfl (by rw [Int32.ofInt_eq_ofNat]) h2 (kk H locs ls hlb hP hS hlo)
end BGA
def bgCp (w : bgW) (k1 k0 : Nat) (sp dp m : Int) : bgW := fun k' i' => if k' = k1 ∧ dp ≤ i' ∧ i' < dp + m then w k0 (sp + (i' - dp)) else w k' i'
theorem bg_copyi {K : bgK} {own : String} {cc : ByteArray} {nL : Nat} {rt : Option FieldType} {bb : Bool} {n z : Nat} {Q : State → Prop} {w : bgW} {pc pc' : Nat} {L : List (Option bgV)} {st : List bgV} {k0 k1 n0 n1 idx : Nat} {sp dp m : Int} (C : bgCx K own cc nL rt)
    (hl : Cond.methodLink own idx arraycopyName ∈ bgTs) (hnat : Cond.native arraycopyName ∈ bgTs) (hsta : Cond.static arraycopyName ∈ bgTs) (hini : Cond.initialized "java/lang/System" ∈ bgTs)
    (hk0 : bgKinds[k0]? = some (.inr (n0, 0))) (hk1 : bgKinds[k1]? = some (.inr (n1, 0))) (a1 : 0 ≤ sp) (a2 : 0 ≤ dp) (a3 : 0 ≤ m) (a4 : sp + m ≤ (n0 : Int)) (a5 : dp + m ≤ (n1 : Int)) (hL : L.length = nL)
    (hf : 1 ≤ (kR K).frames) (hlo : ((st.map (bgC (kAd K))).map fun v => v.category).sum + (nativeFrameWords "java/lang/System" "arraycopy" 5 + 11) ≤ (kR K).locals) (hd : bgd cc pc (.invokestatic idx) 3 pc')
    (kk : ∀ w', w' = bgCp w k1 k0 sp dp m → bgX K false n z Q w' pc' L st) : bgX K bb n z Q w pc L (bi m :: bi dp :: br k1 :: bi sp :: br k0 :: st) := by
  obtain ⟨h2, rfl⟩ := hd
  intro H locs ls hlb hP hS hlo2
  have hle0 := bg_len hk0
  have hle1 := bg_len hk1
  have he0 : (bgL (kCA K) (kAd K) w)[k0]? = some (kAd K k0, .inl (kCA K 0, n0, .inl (fun j => Int32.ofInt (w k0 (j : Int))))) := by rw [bgL_at (bgK_lt hk0), bgE_arr hk0 (by decide)]
  have he1 : (bgL (kCA K) (kAd K) w)[k1]? = some (kAd K k1, .inl (kCA K 0, n1, .inl (fun j => Int32.ofInt (w k1 (j : Int))))) := by rw [bgL_at (bgK_lt hk1), bgE_arr hk1 (by decide)]
  have nl : ∀ a : Int, 0 ≤ a → a ≤ 2147483647 → ¬ Int32.ofInt a < 0 := by
    intro a h0 h1 q
    rw [← bgr_z, bgr_lt ⟨by omega, by omega⟩ bgr_0] at q
    omega
  have c1 := bgr_nat a1 (show sp ≤ 2147483647 by omega)
  have c2 := bgr_nat a2 (show dp ≤ 2147483647 by omega)
  have c3 := bgr_nat a3 (show m ≤ 2147483647 by omega)
  refine va_copyi (ty := .int) C.hx C.hb (by rw [C.hml, hlo2.1]; exact hL.symm) C.hown (C.hts _ hl) (C.hts _ hnat) (C.hts _ hsta) (C.hts _ hini) C.hK hP C.hD hS k0 k1 0 0 he0 he1 rfl rfl rfl (nl sp a1 (by omega)) (nl dp a2 (by omega)) (nl m a3 (by omega)) (by rw [c1, c3]; omega) (by rw [c2, c3]; omega) (fun _ _ => rfl) hf hlo h2 (fun H1 locs1 hP1 hD1 hS1 => ?_)
  have eu : va_cpy (fun j : Nat => Int32.ofInt (w k0 (j : Int))) (fun j : Nat => Int32.ofInt (w k1 (j : Int))) (Int32.ofInt sp).toNatClampNeg (Int32.ofInt dp).toNatClampNeg (Int32.ofInt m).toNatClampNeg = fun j : Nat => Int32.ofInt (bgCp w k1 k0 sp dp m k1 (j : Int)) := by
    funext j
    rw [c1, c2, c3]
    unfold va_cpy bgCp
    by_cases hj : dp.toNat ≤ j ∧ j < dp.toNat + m.toNat
    · rw [if_pos hj, if_pos ⟨rfl, by omega, by omega⟩]
      have e : ((sp.toNat + (j - dp.toNat) : Nat) : Int) = sp + ((j : Int) - dp) := by omega
      show Int32.ofInt (w k0 ((sp.toNat + (j - dp.toNat) : Nat) : Int)) = _
      rw [e]
    · rw [if_neg hj, if_neg (fun q => hj (by omega))]
  rw [eu, ← bgE_arr (cA := kCA K) (ad := kAd K) hk1 (by decide), bgL_set (bgK_lt hk1) (fun k' i' h => by
    unfold bgCp
    rw [if_neg (fun q => h q.1)])] at hP1
  exact kk _ rfl H1 locs1 ls (fun h => by cases h) hP1 hS1 hlo2
theorem bg_min {K : bgK} {own : String} {cc : ByteArray} {nL : Nat} {rt : Option FieldType} {bb : Bool} {n z : Nat} {Q : State → Prop} {w : bgW} {pc pc' : Nat} {L : List (Option bgV)} {st : List bgV} {idx : Nat} {a b : Int} (C : bgCx K own cc nL rt)
    (hl : Cond.methodLink own idx Lib.Math.min.name ∈ bgTs) (hsta : Cond.static Lib.Math.min.name ∈ bgTs) (hini : Cond.initialized "java/lang/Math" ∈ bgTs) (hco : Cond.code Lib.Math.min.name Lib.Math.min.code 2 (some .int) ∈ bgTs) (hL : L.length = nL) (ha : bgr a) (hb : bgr b)
    (hf : 1 ≤ (kR K).frames) (hlo : ((st.map (bgC (kAd K))).map fun v => v.category).sum + 13 ≤ (kR K).locals) (hn : n ≤ (kR K).cells) (hz : z ≤ (kR K).slots) (hd : bgd cc pc (.invokestatic idx) 3 pc')
    (k1 : b < a → bgX K bb n z Q w pc' L (bi b :: st)) (k2 : ¬ b < a → bgX K bb n z Q w pc' L (bi a :: st)) : bgX K bb n z Q w pc L (bi b :: bi a :: st) := by
  obtain ⟨h2, rfl⟩ := hd
  intro H locs ls hlb hP hS hlo2
  refine va_mmin C.hx C.hb (by rw [C.hml, hlo2.1]; exact hL.symm) C.hown (C.hts _ hl) (C.hts _ hsta) (C.hts _ hini) (C.hts _ hco) hf hlo hn hz h2 ?_
  by_cases h : b < a
  · rw [if_pos ((bgr_lt hb ha).mpr h)]
    exact k1 h H locs ls hlb hP hS hlo2
  · rw [if_neg (fun q => h ((bgr_lt hb ha).mp q))]
    exact k2 h H locs ls hlb hP hS hlo2
theorem bg_weak {K : bgK} {bb : Bool} {n z : Nat} {Q : State → Prop} {w : bgW} {pc : Nat} {L : List (Option bgV)} {st : List bgV} (h : bgX K false n z Q w pc L st) : bgX K bb n z Q w pc L st := fun H locs ls _ => h H locs ls (fun e => by cases e)
theorem bg_idiv0 {K : bgK} {own : String} {cc : ByteArray} {nL : Nat} {rt : Option FieldType} {bb : Bool} {n z : Nat} {Q : State → Prop} {w : bgW} {pc pc' : Nat} {L : List (Option bgV)} {st : List bgV} (C : bgCx K own cc nL rt) {a b : Int} (hd : bgd cc pc .idiv 1 pc') (hb : ¬ Int32.ofInt b = 0) (kk : ∀ v : Int, bgX K bb n z Q w pc' L (bi v :: st)) : bgX K bb n z Q w pc L (bi b :: bi a :: st) := by
  obtain ⟨h1, rfl⟩ := hd
  intro H locs ls hlb hP hS hl
  have k1 := kk (Int32.ofInt a / Int32.ofInt b).toInt H locs ls hlb hP hS hl
  refine lv_idiv C.hx C.hb h1 hb ?_
  have e : Value.int (Int32.ofInt a / Int32.ofInt b) = bgC (kAd K) (bi (Int32.ofInt a / Int32.ofInt b).toInt) := by
    show _ = Value.int (Int32.ofInt (Int32.ofInt a / Int32.ofInt b).toInt)
    rw [Int32.ofInt_toInt]
  rw [e]
  exact k1
/-! fewer known locals -/
def bgMask : List (Option bgV) → List Bool → List (Option bgV)
  | x :: a, b :: m => (if b then x else none) :: bgMask a m
  | _, _ => []
theorem bgMask_len : ∀ (L : List (Option bgV)) (m : List Bool), m.length = L.length → (bgMask L m).length = L.length
  | [], [], _ => rfl
  | [], _ :: _, h => by cases h
  | _ :: _, [], h => by cases h
  | x :: a, b :: m, h => by
    show (bgMask a m).length + 1 = a.length + 1
    rw [bgMask_len a m (by simpa using h)]
theorem bgMask_get : ∀ (L : List (Option bgV)) (m : List Bool) (i : Nat) (v : bgV), (bgMask L m)[i]? = some (some v) → L[i]? = some (some v)
  | [], [], i, v, h => by simp [bgMask] at h
  | [], _ :: _, i, v, h => by simp [bgMask] at h
  | _ :: _, [], i, v, h => by simp [bgMask] at h
  | x :: a, b :: m, 0, v, h => by
    have h1 : some (if b then x else none) = some (some v) := h
    cases b with
    | true => exact h1
    | false => cases h1
  | x :: a, b :: m, i + 1, v, h => bgMask_get a m i v h
theorem bg_wl {K : bgK} {bb : Bool} {n z : Nat} {Q : State → Prop} {w : bgW} {pc : Nat} {L : List (Option bgV)} {st : List bgV} (m : List Bool) (hm : m.length = L.length) (h : bgX K bb n z Q w pc (bgMask L m) st) : bgX K bb n z Q w pc L st :=
  fun H locs ls hb hP hS hl => h H locs ls hb hP hS ⟨by rw [bgMask_len L m hm]; exact hl.1, hl.2.1, fun i v hv => hl.2.2 i v (bgMask_get L m i v hv)⟩
/-! a loop: a measure that falls -/
theorem bg_loop {K : bgK} {bb : Bool} {n z : Nat} {Q : State → Prop} {pc : Nat} {α : Type} (μ : α → Nat) (P : α → Prop) (S : α → bgW × List (Option bgV) × List bgV)
    (step : ∀ a, P a → (∀ a', P a' → μ a' < μ a → bgX K bb n z Q (S a').1 pc (S a').2.1 (S a').2.2) → bgX K bb n z Q (S a).1 pc (S a).2.1 (S a).2.2) : ∀ a, P a → bgX K bb n z Q (S a).1 pc (S a).2.1 (S a).2.2 := by
  have key : ∀ m a, μ a < m → P a → bgX K bb n z Q (S a).1 pc (S a).2.1 (S a).2.2 := by
    intro m
    induction m with
    | zero => intro a h; omega
    | succ m ih => exact fun a h hp => step a hp (fun a' hp' h' => ih a' (by omega) hp')
  exact fun a hp => key (μ a + 1) a (by omega) hp
end
section
/-! how a method ends: it returned (nothing, or an int), or it threw (an exception of the class number X) -/
abbrev bgRes : Type := Option Int ⊕ Nat
def bgXn (X : Nat) : String := bgXs.getD X ""
def bgRs (st t : State) (r : bgRes) (o : Outcome) : Prop := match r with
  | .inl none => o = .returned none
  | .inl (some v) => o = .returned (some (.int (Int32.ofInt v)))
  | .inr X => ∃ (a : Addr) (ce : Cell), o = .threw a ∧ t.heap[a]? = some ce ∧ st.vm.findClass (bgXn X) = some ce.cls ∧ ce.vm = .none
def bgFe (G : bgGl) (pu : Bool) (st t : State) (mc ms : Nat) : Prop := ∃ L : List Loc, (pu = true → L = []) ∧ (st.WarmedH t.vm ∧ st.sameButNew ({ t with vm := st.vm } : State) L mc ms) ∧ ∀ q ∈ L, bgA G q.base
/-- the cells (and slots) that it made: c0 if it returned, one exception (of six slots) if it threw -/
def bgCe (c0 : Nat) (r : bgRes) : Nat := match r with
  | .inl _ => c0
  | .inr _ => 1
def bgSl (z0 : Nat) (r : bgRes) : Nat := match r with
  | .inl _ => z0
  | .inr _ => 6
def bgO (G : bgGl) (pu : Bool) (c0 z0 : Nat) (post : bgRes → bgW → Prop) (st : State) (o : Outcome) (t : State) : Prop := ∃ (r : bgRes) (w : bgW), bgRs st t r o ∧ post r w ∧ va_P G.2.2.2.1 bgCl (bgL G.2.2.1 G.2.1 w) t.heap ∧ va_F (bgA G) st t ∧ bgFe G pu st t (bgCe c0 r) (bgSl z0 r)
def bgQ (K : bgK) (pu : Bool) (c0 z0 : Nat) (post : bgRes → bgW → Prop) : State → Prop := fun t => ∃ o, t.status = .running ∧ Ended t (kB K) o ∧ bgO K.1 pu c0 z0 post (kS K) o t
/-- A CONTRACT: method y with the arguments av in the world w ends, and 'post' says how -/
def bgM (G : bgGl) (pu : Bool) (c0 z0 : Nat) (y : MethodName) (cw : Cond) (rm : Room) (av : List bgV) (w : bgW) (post : bgRes → bgW → Prop) : Prop :=
  MetFree G.1 y (headSpec [cw] rm) (va_Pc (av.map (bgC G.2.1)) (bgS G w)) (fun _ _ _ _ _ => True) (fun _ st o t => bgO G pu c0 z0 post st o t)
theorem bg_met {G : bgGl} {pu : Bool} {c0 z0 : Nat} {y : MethodName} {cc : ByteArray} {nL : Nat} {rt : Option FieldType} {rm : Room} {av : List bgV} {w : bgW} {post : bgRes → bgW → Prop} (hG : bgOk G) (hy : plainName y.cls = true) (hc : ∀ v ∈ av, (bgC G.2.1 v).category = 1) (hn : av.length ≤ nL)
    (body : ∀ K : bgK, K.1 = G → kR K = rm → (kC K).exceptionTable.isEmpty = true → bgCx K y.cls cc nL rt → bgX K true 0 0 (bgQ K pu c0 z0 post) w 0 (av.map some ++ List.replicate (nL - av.length) none) []) : bgM G pu c0 z0 y (.code y cc nL rt) rm av w post := by
  refine MetFree.of_bodyS (code := cc) (maxLocals := nL) (ret := rt) hy ?_ ?_
  · intro args s m h hn
    obtain ⟨meth, c, h1, h2, h3, h4, h5, h6, -, -⟩ := Cond.code_spec hn (atoms_spec (ws := [Cond.code y cc nL rt]) h _ List.mem_cons_self)
    exact ⟨meth, c, h1, h2, h3, h4, h5, h6⟩
  · intro p e s m args below meth c s₁ B hml hP _
    obtain ⟨rfl, hS⟩ := hP
    have hcode := atoms_spec (ws := [Cond.code y cc nL rt]) B.pre _ List.mem_cons_self
    have hex := B.noHandlers hcode
    have hh0 : s₁.heap = s.heap := by rw [B.state]; rfl
    obtain ⟨hP0, hW0, hz0, hq0⟩ := id hS
    have C : bgCx (G, p, e, rm, s, m, (av.map (bgC G.2.1)).toArray, below, meth, c) y.cls cc nL rt := ⟨B.exec, B.bytes, hml, findClass_of_methodNamed B.named, B.returns, B.notSynchronized, hG, ⟨w, hS⟩, fun x hx => bg_word (List.mem_filter.mp hx).2 hW0 (hG.2.2.2.1 x (List.mem_filter.mp hx).1)⟩
    have k1 := body (G, p, e, rm, s, m, (av.map (bgC G.2.1)).toArray, below, meth, c) rfl rfl hex C s.heap [] _ (fun _ => rfl) hP0 va_S.rf (bgLoc.entry av nL hc hn)
    have k2 : W p G.1 e rm s m (av.map (bgC G.2.1)).toArray below meth c s.heap [] 0 0 (bgQ (G, p, e, rm, s, m, (av.map (bgC G.2.1)).toArray, below, meth, c) pu c0 z0 post) (entryFrame m (av.map (bgC G.2.1)).toArray nL) := by
      rw [lg_entry_eq]
      exact k1
    obtain ⟨t, a1, o, b1, b2, b3⟩ := k2 s₁ hh0 (Stand.of_body B)
    exact ⟨t, o, a1, b1, b2, b3⟩
section BGE
variable {K : bgK} {own : String} {cc : ByteArray} {nL : Nat} {rt : Option FieldType} {bb pu : Bool} {n z c0 z0 : Nat} {w : bgW} {pc pc' : Nat} {L : List (Option bgV)} {post : bgRes → bgW → Prop}
theorem bg_ofMQ {t : State} {locs : List Loc} {H : Heap} {r : Option Int} {o0 : Outcome} (ho : ∀ t : State, bgRs (kS K) t (.inl r) o0) (hpu : pu = true → locs = []) (hP : va_P (kD K) bgCl (bgL (kCA K) (kAd K) w) H) (hS : va_S (bgA K.1) (kS K).heap H locs) (hn : n ≤ c0) (hz : z ≤ z0) (hp : post (.inl r) w)
    (h : MQ (kB K) (fun _ _ o t => o = o0 ∧ t.heap = H) (kA K) (kS K) n z (fun q => ∃ l ∈ locs, l.base = q) t) : bgQ K pu c0 z0 post t := by
  obtain ⟨o, h1, h2, ⟨rfl, ht⟩, L, hF, hL⟩ := h
  refine ⟨o, h1, h2, .inl r, w, ho t, hp, by rw [ht]; exact hP, hS.F ht, L, fun hp => ?_, ⟨hF.2.1, hF.2.2.mono hn hz⟩, fun q hq => ?_⟩
  · cases L with
    | nil => rfl
    | cons q L =>
      obtain ⟨l, hl, -⟩ := hL q List.mem_cons_self
      rw [hpu hp] at hl
      cases hl
  · obtain ⟨l, hl, e⟩ := hL q hq
    have := hS.2.2 l hl
    rw [e] at this
    exact this
theorem bg_iret (C : bgCx K own cc nL rt) {v : Int} (hd : bgd cc pc .ireturn 1 pc') (hpu : pu = true → bb = true) (hrt : rt = some .int ∨ (rt = some .boolean ∧ (v = 0 ∨ v = 1))) (hn : n ≤ c0) (hz : z ≤ z0) (hp : post (.inl (some v)) w) : bgX K bb n z (bgQ K pu c0 z0 post) w pc L [bi v] := by
  obtain ⟨h1, -⟩ := hd
  intro H locs ls hlb hP hS hlo T hT X
  rcases hrt with h | ⟨h, hv⟩
  · obtain ⟨t, a, b⟩ := W.iret (Qc := fun _ _ o t => o = .returned (some (.int (Int32.ofInt v))) ∧ t.heap = H) (free := fun q => ∃ l ∈ locs, l.base = q) C.hx C.hb (C.hr.trans h) (fun t ht _ => ⟨rfl, ht⟩) (fun q hq => ⟨q, hq, rfl⟩) h1 (hlocks := C.hlk) T hT X
    exact ⟨t, a, bg_ofMQ (r := some v) (fun _ => rfl) (fun e => hlb (hpu e)) hP hS hn hz hp b⟩
  · have hna : narrow .boolean (.int (Int32.ofInt v)) = .int (Int32.ofInt v) := by
      rcases hv with rfl | rfl <;> rfl
    obtain ⟨t, a, b⟩ := W.zret (Qc := fun _ _ o t => o = .returned (some (.int (Int32.ofInt v))) ∧ t.heap = H) (free := fun q => ∃ l ∈ locs, l.base = q) C.hx C.hb (C.hr.trans h) hna (fun t ht _ => ⟨rfl, ht⟩) (fun q hq => ⟨q, hq, rfl⟩) h1 (hlocks := C.hlk) T hT X
    exact ⟨t, a, bg_ofMQ (r := some v) (fun _ => rfl) (fun e => hlb (hpu e)) hP hS hn hz hp b⟩
theorem bg_ret (C : bgCx K own cc nL rt) (hd : bgd cc pc .return_ 1 pc') (hpu : pu = true → bb = true) (hrt : rt = none) (hn : n ≤ c0) (hz : z ≤ z0) (hp : post (.inl none) w) : bgX K bb n z (bgQ K pu c0 z0 post) w pc L [] := by
  obtain ⟨h1, -⟩ := hd
  intro H locs ls hlb hP hS hlo T hT X
  obtain ⟨t, a, b⟩ := W.vret (Qc := fun _ _ o t => o = .returned none ∧ t.heap = H) (free := fun q => ∃ l ∈ locs, l.base = q) C.hx C.hb (C.hr.trans hrt) (fun t ht _ => ⟨rfl, ht⟩) (fun q hq => ⟨q, hq, rfl⟩) h1 (hlocks := C.hlk) T hT X
  exact ⟨t, a, bg_ofMQ (r := none) (fun _ => rfl) (fun e => hlb (hpu e)) hP hS hn hz hp b⟩
end BGE
/-! calls -/
/-- the step into a call: from the stack stk, with the arguments av taken, st left; y is the method, nL its locals -/
def bgInv (K : bgK) (y : MethodName) (cw : Cond) (nY : Nat) (w : bgW) (pc : Nat) (L : List (Option bgV)) (stk av st : List bgV) : Prop :=
  ∀ (H : Heap) (locs : List Loc) (ls : Array Slot), va_P (kD K) bgCl (bgL (kCA K) (kAd K) w) H → va_S (bgA K.1) (kS K).heap H locs → bgLoc (kAd K) ls L → ∀ (n z : Nat) (T : State), T.heap = H →
    Stand (kP K) (kL K) (kE K) (kR K) (kS K) (kM K) (kA K) (kB K) (kMe K) (kC K) T locs n z →
    ∃ (vm₁ : Vm) (mk : MethodId) (ig : Instr), Stand (kP K) (kL K) (kE K) (kR K) (kS K) (kM K) (kA K) (kB K) (kMe K) (kC K) (T.setVm vm₁) locs n z ∧ decode (kC K).code pc = .ok (ig, 3) ∧
      (T.setVm vm₁).methodNamed? y = some mk ∧ cw.before (av.map (bgC (kAd K))).toArray (T.setVm vm₁) = true ∧ (Cond.initialized y.cls).before (av.map (bgC (kAd K))).toArray (T.setVm vm₁) = true ∧
      (∃ (me : Method) (cY : Code), (T.setVm vm₁).vm.method? mk = some me ∧ me.code = some cY ∧ cY.maxLocals = nY) ∧
      ∀ target, (∀ acts, Steps (kP K).tables (kE K) (kB K) (doInvoke (kE K) ((T.setVm vm₁).setTop (F0 (kM K) pc ls (st.map (bgC (kAd K))))) acts mk (av.map (bgC (kAd K))).toArray).1 target) →
        Steps (kP K).tables (kE K) (kB K) (T.setTop (F0 (kM K) pc ls (stk.map (bgC (kAd K))))) target
section BGI
variable {K : bgK} {own : String} {cc : ByteArray} {nL : Nat} {rt : Option FieldType} {w : bgW} {pc pc' : Nat} {L : List (Option bgV)} {stk st av : List bgV} {y : MethodName} {bytes : ByteArray} {nY k ci idx N : Nat} {rY : Option FieldType} {C0 : String} {T : u_T} {ty : Nat → FieldType}
theorem bg_word1 (C : bgCx K own cc nL rt) {x : Cond} (hx : x ∈ bgTs) {U : State} (hW : (kS K).WarmedH U.vm) (A : Array Value) : x.before A U = true := bg_word (List.mem_filter.mp hx).2 hW (C.hts x hx)
theorem bg_invV (C : bgCx K own cc nL rt) (F : bgCF ci C0 T ty N) (hk : bgKinds[k]? = some (.inl ci)) (hl : Cond.methodLink own idx y ∈ bgTs) (hin : Cond.instanceMethod y ∈ bgTs) (hse : Cond.selects C0 y y ∈ bgTs) (hco : Cond.code y bytes nY rY ∈ bgTs) (hini : Cond.initialized y.cls ∈ bgTs)
    (hy : y.cls ≠ "java/lang/invoke/MethodHandle" ∧ y.cls ≠ "java/lang/invoke/VarHandle") (ha : (parseMethodDescriptor y.desc).map (fun d => d.parameters.length) = some av.length) (hd : bgd cc pc (.invokevirtual idx) 3 pc') (hst : stk = av.reverse ++ br k :: st) :
    bgInv K y (.code y bytes nY rY) nY w pc L stk (br k :: av) st := by
  obtain ⟨h1, -⟩ := hd
  subst hst
  intro H locs ls hP hS hlo n z U hU X
  obtain ⟨mk, methM, hnamed, hmethM, hstM, habM⟩ := Cond.instanceMethod_spec (C.hts _ hin)
  obtain ⟨methM', cM, hmethM', hcM, -, hlM, -, -, -, hsigM⟩ := Cond.code_spec hnamed (C.hts _ hco)
  cases hmethM.symm.trans hmethM'
  obtain ⟨c2, r2, m2, q1, q2, q3, q4, kP, hkP, hkPi⟩ := Cond.selects_spec (C.hts _ hse)
  obtain ⟨cellB, hcB, hoB, hclB⟩ := va_recv C.hK hP F.1 (bg_objAt hk)
  cases hclB.symm.trans q1
  cases (State.methodFound?_of_named hnamed hy).symm.trans q2
  cases hnamed.symm.trans q3
  have hselP : selectMethod (kE K).platform (kS K).vm cellB.cls mk = .method mk := by rw [Launch.admits_selectMethod X.admits]; exact q4
  have hlen : (av.map (bgC (kAd K))).length = methM.sig.parameters.length := by
    rw [hsigM] at ha
    rw [List.length_map]
    exact (Option.some.inj ha).symm
  obtain ⟨vm₁, X₁, hstep₁⟩ := X.invokevirtual C.hx C.hown (C.hts _ hl) hnamed hmethM hstM hkP hkPi hy (a := kAd K k) (cell := cellB) (by rw [hU]; exact hcB)
    (fun z h => by rw [h] at hoB; cases hoB) hselP hmethM habM hkP hkPi (g := F0 (kM K) pc ls ((av.reverse ++ br k :: st).map (bgC (kAd K)))) rfl (argsL := av.map (bgC (kAd K))) (rest := st.map (bgC (kAd K))) hlen (by rw [List.map_append, List.map_reverse]; rfl) (by rw [C.hb]; exact h1)
  have hm1 : (U.setVm vm₁).vm.method? mk = some methM := by rw [X₁.warmed.alike.method?]; exact hmethM
  exact ⟨vm₁, mk, _, X₁, by rw [C.hb]; exact h1, X₁.named hnamed, bg_word1 C hco X₁.warmed _, bg_word1 C hini X₁.warmed _, ⟨methM, cM, hm1, hcM, hlM⟩, hstep₁⟩
theorem bg_invVN (C : bgCx K own cc nL rt) {host : String} (F : bgCF ci C0 T ty N) (hk : bgKinds[k]? = some (.inl ci)) (hl : Cond.methodLinkNest own idx y host ∈ bgTs) (hin : Cond.instanceMethod y ∈ bgTs) (hse : Cond.selects C0 y y ∈ bgTs) (hco : Cond.code y bytes nY rY ∈ bgTs) (hini : Cond.initialized y.cls ∈ bgTs)
    (hy : y.cls ≠ "java/lang/invoke/MethodHandle" ∧ y.cls ≠ "java/lang/invoke/VarHandle") (ha : (parseMethodDescriptor y.desc).map (fun d => d.parameters.length) = some av.length) (hd : bgd cc pc (.invokevirtual idx) 3 pc') (hst : stk = av.reverse ++ br k :: st) :
    bgInv K y (.code y bytes nY rY) nY w pc L stk (br k :: av) st := by
  obtain ⟨h1, -⟩ := hd
  subst hst
  intro H locs ls hP hS hlo n z U hU X
  obtain ⟨mk, methM, hnamed, hmethM, hstM, habM⟩ := Cond.instanceMethod_spec (C.hts _ hin)
  obtain ⟨methM', cM, hmethM', hcM, -, hlM, -, -, -, hsigM⟩ := Cond.code_spec hnamed (C.hts _ hco)
  cases hmethM.symm.trans hmethM'
  obtain ⟨c2, r2, m2, q1, q2, q3, q4, kP, hkP, hkPi⟩ := Cond.selects_spec (C.hts _ hse)
  obtain ⟨cellB, hcB, hoB, hclB⟩ := va_recv C.hK hP F.1 (bg_objAt hk)
  cases hclB.symm.trans q1
  cases (State.methodFound?_of_named hnamed hy).symm.trans q2
  cases hnamed.symm.trans q3
  have hselP : selectMethod (kE K).platform (kS K).vm cellB.cls mk = .method mk := by rw [Launch.admits_selectMethod X.admits]; exact q4
  have hlen : (av.map (bgC (kAd K))).length = methM.sig.parameters.length := by
    rw [hsigM] at ha
    rw [List.length_map]
    exact (Option.some.inj ha).symm
  obtain ⟨vm₁, X₁, hstep₁⟩ := X.invokevirtualNest C.hx C.hown (C.hts _ hl) hnamed hmethM hstM hkP hkPi hy (a := kAd K k) (cell := cellB) (by rw [hU]; exact hcB)
    (fun z h => by rw [h] at hoB; cases hoB) hselP hmethM habM hkP hkPi (g := F0 (kM K) pc ls ((av.reverse ++ br k :: st).map (bgC (kAd K)))) rfl (argsL := av.map (bgC (kAd K))) (rest := st.map (bgC (kAd K))) hlen (by rw [List.map_append, List.map_reverse]; rfl) (by rw [C.hb]; exact h1)
  have hm1 : (U.setVm vm₁).vm.method? mk = some methM := by rw [X₁.warmed.alike.method?]; exact hmethM
  exact ⟨vm₁, mk, _, X₁, by rw [C.hb]; exact h1, X₁.named hnamed, bg_word1 C hco X₁.warmed _, bg_word1 C hini X₁.warmed _, ⟨methM, cM, hm1, hcM, hlM⟩, hstep₁⟩
theorem bg_invS (C : bgCx K own cc nL rt) (hl : Cond.methodLink own idx y ∈ bgTs) (hsta : Cond.static y ∈ bgTs) (hco : Cond.code y bytes nY rY ∈ bgTs) (hini : Cond.initialized y.cls ∈ bgTs)
    (hy : y.cls ≠ "java/lang/invoke/MethodHandle" ∧ y.cls ≠ "java/lang/invoke/VarHandle") (ha : (parseMethodDescriptor y.desc).map (fun d => d.parameters.length) = some av.length) (hd : bgd cc pc (.invokestatic idx) 3 pc') (hst : stk = av.reverse ++ st) :
    bgInv K y (.code y bytes nY rY) nY w pc L stk av st := by
  obtain ⟨h1, -⟩ := hd
  subst hst
  intro H locs ls hP hS hlo n z U hU X
  obtain ⟨mk, hnamed⟩ := Cond.code_named (C.hts _ hco)
  obtain ⟨methM, cM, hmethM, hcM, -, hlM, -, -, -, hsigM⟩ := Cond.code_spec hnamed (C.hts _ hco)
  have hstatic : methM.isStatic = true := Cond.static_spec hnamed hmethM (C.hts _ hsta)
  obtain ⟨kP, hkP, -⟩ := className_of_methodNamed hnamed
  have hinitP : kP.init = .initialized := Cond.initialized_spec (findClass_of_methodNamed hnamed) hkP (C.hts _ hini)
  have hlen : (av.map (bgC (kAd K))).length = methM.sig.parameters.length := by
    rw [hsigM] at ha
    rw [List.length_map]
    exact (Option.some.inj ha).symm
  obtain ⟨vm₁, X₁, hstep₁⟩ := X.invokestatic C.hx C.hown (C.hts _ hl) hnamed hmethM hstatic hkP hinitP hy (g := F0 (kM K) pc ls ((av.reverse ++ st).map (bgC (kAd K)))) rfl (argsL := av.map (bgC (kAd K))) (rest := st.map (bgC (kAd K))) hlen (by rw [List.map_append, List.map_reverse]) (by rw [C.hb]; exact h1)
  have hm1 : (U.setVm vm₁).vm.method? mk = some methM := by rw [X₁.warmed.alike.method?]; exact hmethM
  exact ⟨vm₁, mk, _, X₁, by rw [C.hb]; exact h1, X₁.named hnamed, bg_word1 C hco X₁.warmed _, bg_word1 C hini X₁.warmed _, ⟨methM, cM, hm1, hcM, hlM⟩, hstep₁⟩
end BGI
/-- what a throw in flight must come to: the exception of the class X lies at a, the walk's frame at pc below it -/
def bgXt (K : bgK) (bb : Bool) (n z : Nat) (Q : State → Prop) (w : bgW) (X pc : Nat) (L : List (Option bgV)) : Prop :=
  ∀ (H : Heap) (locs : List Loc) (ls : Array Slot) (a : Addr) (ce : Cell) (stk : List Value), (bb = true → locs = []) → va_P (kD K) bgCl (bgL (kCA K) (kAd K) w) H → va_S (bgA K.1) (kS K).heap H locs → bgLoc (kAd K) ls L → H[a]? = some ce → (kS K).vm.findClass (bgXn X) = some ce.cls → ce.vm = .none →
    ∀ T : State, T.heap = H → Stand (kP K) (kL K) (kE K) (kR K) (kS K) (kM K) (kA K) (kB K) (kMe K) (kC K) T locs n z → ∃ t, Steps (kP K).tables (kE K) (kB K) ((T.setTop (F0 (kM K) pc ls stk)).pushFrame (.throwing a)) t ∧ Q t
def bgPush (r : Option Int) : List bgV := match r with
  | none => []
  | some v => [bi v]
section BGC
variable {K : bgK} {own : String} {cc : ByteArray} {nL : Nat} {rt : Option FieldType} {bb pu : Bool} {n z c0 z0 c1 z1 : Nat} {Q : State → Prop} {w : bgW} {pc : Nat} {L : List (Option bgV)} {stk st av : List bgV} {y : MethodName} {cw : Cond} {nY : Nat} {rm : Room} {post : bgRes → bgW → Prop}
theorem bg_now (C : bgCx K own cc nL rt) {H : Heap} {locs : List Loc} {U : State} (hP : va_P (kD K) bgCl (bgL (kCA K) (kAd K) w) H) (hS : va_S (bgA K.1) (kS K).heap H locs) (hU : U.heap = H) (hW : (kS K).WarmedH U.vm) : bgS K.1 w U := by
  obtain ⟨w0, -, hW0, hz0, hq0⟩ := C.hs
  refine ⟨by rw [hU]; exact hP, State.WarmedH.trans hW0 hW, by rw [hU]; exact Nat.le_trans hz0 hS.1, fun q hq => ?_⟩
  rw [hU, hS.2.1 q (Nat.lt_of_lt_of_le hq hz0) (fun h => Nat.not_le.mpr hq h)]
  exact hq0 q hq
set_option maxHeartbeats 1000000 in
theorem bg_call (C : bgCx K own cc nL rt) (M : bgM K.1 pu c0 z0 y cw rm av w post) (I : bgInv K y cw nY w pc L stk av st) (hL : L.length = nL) (hrm : rm.frames + 1 ≤ (kR K).frames ∧ 8 + (nY + 11) + rm.locals ≤ (kR K).locals) (hcs : n + rm.cells ≤ (kR K).cells ∧ z + rm.slots ≤ (kR K).slots) (hst : ((st.map (bgC (kAd K))).map fun v => v.category).sum ≤ 8)
    (kr : ∀ r w', post (.inl r) w' → bgX K (pu && bb) (n + c0) (z + z0) Q w' (pc + 3) L (bgPush r ++ st)) (kt : ∀ X w', post (.inr X) w' → bgXt K (pu && bb) (n + 1) (z + 6) Q w' X pc L) : bgX K bb n z Q w pc L stk := by
  intro H locs ls hlb hP hS hlo T hT X0
  obtain ⟨vm₁, mk, ig, X, hdg, hn, hcw, hini, ⟨me, cY, hmY, hcY, hlY⟩, hstep⟩ := I H locs ls hP hS hlo n z T hT X0
  have hnow : bgS K.1 w (T.setVm vm₁) := bg_now C hP hS hT X.warmed
  generalize hUe : T.setVm vm₁ = U at X hn hcw hini hmY hstep hnow
  have hUH : U.heap = H := by rw [← hUe]; exact hT
  generalize hae : (av.map (bgC (kAd K))).toArray = a at hcw hini hstep
  generalize hge : F0 (kM K) pc ls (st.map (bgC (kAd K))) = g at hstep
  have hgm : g.method = kM K := by rw [← hge]
  have hgp : g.pc = pc := by rw [← hge]
  have hsize : g.locals.size = (kC K).maxLocals := by rw [← hge, C.hml]; exact hlo.1.trans hL
  have hW : 2 * g.monitorRoom + (g.stack.map fun v => v.category).sum ≤ 8 := by rw [← hge]; exact lv_room hst
  obtain ⟨kY, hkY, -⟩ := className_of_methodNamed hn
  have hinitY : kY.init = .initialized := Cond.initialized_spec (findClass_of_methodNamed hn) hkY hini
  have h : At U g.method (kC K) (kB K) := by rw [hgm]; exact X.here
  have hdg' : decode (kC K).code g.pc = .ok (ig, 3) := by rw [hgp]; exact hdg
  have happ : (headSpec [cw] rm).appliesLoose y (kE K).platform (U.calling g mk a) = true :=
    Spec.appliesLoose_calling (g := g) h hdg' hn hkY hinitY
      (X.room_calling (g := g) (R' := rm) hsize hmY hcY hrm.1 (by rw [hlY]; omega) hcs.1 hcs.2) (atoms_intro fun x hx => by
        rw [List.mem_singleton.mp hx]
        exact hcw)
  obtain ⟨mid, hmid⟩ := h.above
  have hfr : (U.setTop g).frames = (.java g :: mid) ++ (kB K) := by rw [State.frames_setTop' g h.top, hmid]; rfl
  obtain ⟨o, s₂, hsteps, -, hend, hq⟩ := Steps.callFree M (kP K) X.admits X.cas X.clock (acts := []) hfr happ ⟨hae.symm, hnow⟩ trivial
  have hq' : bgO K.1 pu c0 z0 post (U.calling g mk a) o s₂ := hq
  rw [State.frames_setTop' g h.top] at hend
  obtain ⟨r, w', hrs, hpo, hP2, hF2, Lc, hpu, ⟨hW₂, e2, q2, q3, q4, q5, q6⟩, hLc⟩ := hq'
  have hlb2 : (pu && bb) = true → locs ++ Lc = [] := by
    intro h
    rw [Bool.and_eq_true] at h
    rw [hlb h.2, hpu h.1]
    rfl
  have e3 : s₂ = ({ (U.calling g mk a).setFrames s₂.frames with heap := s₂.heap, slotsUsed := s₂.slotsUsed } : State).setVm s₂.vm := by
    have : s₂ = ({ s₂ with vm := (U.calling g mk a).vm } : State).setVm s₂.vm := rfl
    rw [e2] at this
    exact this
  have hW' : U.WarmedH s₂.vm := hW₂
  obtain ⟨g₀, hg0⟩ := Option.isSome_iff_exists.mp h.top
  obtain ⟨rr, hr⟩ := State.topJava?_eq_some.mp hg0
  have hsame : U.sameButNew ({ U with heap := s₂.heap, slotsUsed := s₂.slotsUsed } : State) Lc (bgCe c0 r) (bgSl z0 r) := by
    refine ⟨?_, q2, q3, q4, q5, q6⟩
    obtain ⟨t, ht, -⟩ := State.frames_cons hr
    show ({ U with heap := s₂.heap, slotsUsed := s₂.slotsUsed } : State) = { U.setFrames U.frames with heap := s₂.heap, slotsUsed := s₂.slotsUsed }
    rw [State.setFrames_self ht]
  have X2 : Stand (kP K) (kL K) (kE K) (kR K) (kS K) (kM K) (kA K) (kB K) (kMe K) (kC K) (({ U with heap := s₂.heap, slotsUsed := s₂.slotsUsed } : State).setVm s₂.vm) (locs ++ Lc) (n + bgCe c0 r) (z + bgSl z0 r) :=
    ⟨X.admits, X.cas, X.clock, X.frames, X.room, X.hears, X.method, X.code, (X.here.setHeapUsed s₂.heap s₂.slotsUsed).setVm hW'.alike, X.tail, State.WarmedH.trans X.warmed hW', X.limits, X.bytes, X.same.trans (hsame.setVm (kS K).vm)⟩
  have hr' : (({ U with heap := s₂.heap, slotsUsed := s₂.slotsUsed } : State).setVm s₂.vm).frames = .java g₀ :: rr := hr
  have hS2 : va_S (bgA K.1) (kS K).heap s₂.heap (locs ++ Lc) := by
    have hFz : U.heap.size ≤ s₂.heap.size := hF2.1
    have hFq : ∀ q : Nat, q < U.heap.size → ¬ bgA K.1 q → s₂.heap[q]? = U.heap[q]? := hF2.2
    rw [hUH] at hFz hFq
    refine ⟨Nat.le_trans hS.1 hFz, fun q h1 h2 => (hFq q (Nat.lt_of_lt_of_le h1 hS.1) h2).trans (hS.2.1 q h1 h2), fun q hq => ?_⟩
    rcases List.mem_append.mp hq with h | h
    · exact hS.2.2 q h
    · exact hLc q h
  have hfin : ∀ tg, Steps (kP K).tables (kE K) (kB K) s₂ tg → Steps (kP K).tables (kE K) (kB K) (T.setTop (F0 (kM K) pc ls (stk.map (bgC (kAd K))))) tg := fun tg hh => hstep tg (fun acts => by
    rw [doInvoke_state]
    exact hsteps.trans hh)
  have retd : ∀ v : Option Value, o = .returned v → s₂ = (({ U with heap := s₂.heap, slotsUsed := s₂.slotsUsed } : State).setVm s₂.vm).setTop { g with pc := g.pc + 3, stack := v.toList ++ g.stack } := by
    intro v hv
    subst hv
    obtain ⟨c₂, i₂, len₂, hc₂, hd₂, hf₂⟩ := hend
    have hcc : c₂ = kC K := by
      have h1 : s₂.code? g.method = U.code? g.method := by
        rw [State.code?_eq, State.code?_eq, hW'.alike.method?]
      exact Option.some.inj (hc₂.symm.trans (h1.trans h.code))
    subst hcc
    have hlen : len₂ = 3 := by rw [hdg'] at hd₂; cases hd₂; rfl
    subst hlen
    refine e3.trans ?_
    rw [hf₂, State.calling_eq h.top, State.setFrames_setFrames, State.setTop_of_frames _ hr', hr]
    rfl
  cases r with
  | inl rv =>
    have hk := kr rv w' hpo s₂.heap (locs ++ Lc) ls hlb2 hP2 hS2 hlo (({ U with heap := s₂.heap, slotsUsed := s₂.slotsUsed } : State).setVm s₂.vm) rfl X2
    obtain ⟨t, a1, b1⟩ := hk
    refine ⟨t, hfin t ?_, b1⟩
    cases rv with
    | none =>
      have e4 := retd none hrs
      rw [e4, ← hge]
      exact a1
    | some v =>
      have e4 := retd (some (.int (Int32.ofInt v))) hrs
      rw [e4, ← hge]
      exact a1
  | inr Xn =>
    obtain ⟨x, ce, ho, hce, hcl, hvm⟩ := hrs
    subst ho
    have hf₂ : s₂.frames = .throwing x :: .java g :: U.frames.tail := hend
    have e4 : s₂ = ((({ U with heap := s₂.heap, slotsUsed := s₂.slotsUsed } : State).setVm s₂.vm).setTop g).pushFrame (.throwing x) := by
      refine e3.trans ?_
      rw [hf₂, State.calling_eq h.top, State.setFrames_setFrames, State.pushFrame, State.frames_setTop _ hr', State.setTop_of_frames _ hr', State.setFrames_setFrames, hr]
      rfl
    have hcl' : (kS K).vm.findClass (bgXn Xn) = some ce.cls := by
      have : U.vm.findClass (bgXn Xn) = some ce.cls := hcl
      rw [X.warmed.alike.findClass] at this
      exact this
    obtain ⟨t, a1, b1⟩ := kt Xn w' hpo s₂.heap (locs ++ Lc) ls x ce (st.map (bgC (kAd K))) hlb2 hP2 hS2 hlo hce hcl' hvm (({ U with heap := s₂.heap, slotsUsed := s₂.slotsUsed } : State).setVm s₂.vm) rfl X2
    refine ⟨t, hfin t ?_, b1⟩
    rw [e4, ← hge]
    exact a1
/-! the four kinds of end -/
abbrev bgPv (φ : bgW → Prop) : bgRes → bgW → Prop := fun r w => r = .inl none ∧ φ w
abbrev bgPi (φ : Int → bgW → Prop) : bgRes → bgW → Prop := fun r w => ∃ v, r = .inl (some v) ∧ φ v w
abbrev bgPvt (φ : bgW → Prop) (ψ : Nat → bgW → Prop) : bgRes → bgW → Prop := fun r w => (r = .inl none ∧ φ w) ∨ ∃ X, r = .inr X ∧ ψ X w
abbrev bgPit (φ : Int → bgW → Prop) (ψ : Nat → bgW → Prop) : bgRes → bgW → Prop := fun r w => (∃ v, r = .inl (some v) ∧ φ v w) ∨ ∃ X, r = .inr X ∧ ψ X w
variable {φ : bgW → Prop} {φi : Int → bgW → Prop} {ψ : Nat → bgW → Prop} {pc' : Nat}
theorem bg_cv (C : bgCx K own cc nL rt) (M : bgM K.1 pu 0 0 y cw rm av w (bgPv φ)) (I : bgInv K y cw nY w pc L stk av st) (hL : L.length = nL) (hrm : rm.frames + 1 ≤ (kR K).frames ∧ 8 + (nY + 11) + rm.locals ≤ (kR K).locals) (hcs : n + rm.cells ≤ (kR K).cells ∧ z + rm.slots ≤ (kR K).slots) (hst : ((st.map (bgC (kAd K))).map fun v => v.category).sum ≤ 8) (hpc : pc + 3 = pc')
    (kr : ∀ w', φ w' → bgX K (pu && bb) n z Q w' pc' L st) : bgX K bb n z Q w pc L stk := by
  subst hpc
  refine bg_call C M I hL hrm hcs hst (fun r w' hp => ?_) (fun X w' hp => ?_)
  · obtain ⟨e, h⟩ := hp
    cases e
    exact kr w' h
  · obtain ⟨e, -⟩ := hp
    cases e
theorem bg_ci (C : bgCx K own cc nL rt) (M : bgM K.1 pu 0 0 y cw rm av w (bgPi φi)) (I : bgInv K y cw nY w pc L stk av st) (hL : L.length = nL) (hrm : rm.frames + 1 ≤ (kR K).frames ∧ 8 + (nY + 11) + rm.locals ≤ (kR K).locals) (hcs : n + rm.cells ≤ (kR K).cells ∧ z + rm.slots ≤ (kR K).slots) (hst : ((st.map (bgC (kAd K))).map fun v => v.category).sum ≤ 8) (hpc : pc + 3 = pc')
    (kr : ∀ v w', φi v w' → bgX K (pu && bb) n z Q w' pc' L (bi v :: st)) : bgX K bb n z Q w pc L stk := by
  subst hpc
  refine bg_call C M I hL hrm hcs hst (fun r w' hp => ?_) (fun X w' hp => ?_)
  · obtain ⟨v, e, h⟩ := hp
    cases e
    exact kr v w' h
  · obtain ⟨v, e, -⟩ := hp
    cases e
theorem bg_cvt (C : bgCx K own cc nL rt) (M : bgM K.1 pu c0 z0 y cw rm av w (bgPvt φ ψ)) (I : bgInv K y cw nY w pc L stk av st) (hL : L.length = nL) (hrm : rm.frames + 1 ≤ (kR K).frames ∧ 8 + (nY + 11) + rm.locals ≤ (kR K).locals) (hcs : n + rm.cells ≤ (kR K).cells ∧ z + rm.slots ≤ (kR K).slots) (hst : ((st.map (bgC (kAd K))).map fun v => v.category).sum ≤ 8) (hpc : pc + 3 = pc')
    (kr : ∀ w', φ w' → bgX K (pu && bb) (n + c0) (z + z0) Q w' pc' L st) (kt : ∀ X w', ψ X w' → bgXt K (pu && bb) (n + 1) (z + 6) Q w' X pc L) : bgX K bb n z Q w pc L stk := by
  subst hpc
  refine bg_call C M I hL hrm hcs hst (fun r w' hp => ?_) (fun X w' hp => ?_)
  · rcases hp with ⟨e, h⟩ | ⟨X, e, -⟩
    · cases e
      exact kr w' h
    · cases e
  · rcases hp with ⟨e, -⟩ | ⟨X', e, h⟩
    · cases e
    · cases e
      exact kt X w' h
theorem bg_cit (C : bgCx K own cc nL rt) (M : bgM K.1 pu c0 z0 y cw rm av w (bgPit φi ψ)) (I : bgInv K y cw nY w pc L stk av st) (hL : L.length = nL) (hrm : rm.frames + 1 ≤ (kR K).frames ∧ 8 + (nY + 11) + rm.locals ≤ (kR K).locals) (hcs : n + rm.cells ≤ (kR K).cells ∧ z + rm.slots ≤ (kR K).slots) (hst : ((st.map (bgC (kAd K))).map fun v => v.category).sum ≤ 8) (hpc : pc + 3 = pc')
    (kr : ∀ v w', φi v w' → bgX K (pu && bb) (n + c0) (z + z0) Q w' pc' L (bi v :: st)) (kt : ∀ X w', ψ X w' → bgXt K (pu && bb) (n + 1) (z + 6) Q w' X pc L) : bgX K bb n z Q w pc L stk := by
  subst hpc
  refine bg_call C M I hL hrm hcs hst (fun r w' hp => ?_) (fun X w' hp => ?_)
  · rcases hp with ⟨v, e, h⟩ | ⟨X, e, -⟩
    · cases e
      exact kr v w' h
    · cases e
  · rcases hp with ⟨v, e, -⟩ | ⟨X', e, h⟩
    · cases e
    · cases e
      exact kt X w' h
/-- no handler here: the throw goes on to the caller -/
theorem bg_thru (C : bgCx K own cc nL rt) {X : Nat} (hpu : pu = true → bb = true) (hex : (kC K).exceptionTable.isEmpty = true) (hn : n ≤ 1) (hz : z ≤ 6) (hp : post (.inr X) w) : bgXt K bb n z (bgQ K pu c1 z1 post) w X pc L := by
  intro H locs ls a ce stk hlb hP hS hlo hce hcl hvm T hT XX
  obtain ⟨hsteps, hrun, hend, hW, hsame⟩ := XX.leaveThrown a (g := F0 (kM K) pc ls stk) rfl rfl rfl (fun x hx => by
    rw [Array.isEmpty_iff.mp hex] at hx
    cases hx) (hlocks := C.hlk)
  refine ⟨_, hsteps, .threw a, hrun, hend, .inr X, w, ⟨a, ce, rfl, ?_, hcl, hvm⟩, hp, ?_, ?_, locs, fun e => hlb (hpu e), ⟨hW, hsame.mono hn hz⟩, hS.2.2⟩
  · show T.heap[a]? = some ce
    rw [hT]; exact hce
  · show va_P _ _ _ T.heap
    rw [hT]; exact hP
  · exact hS.F (t := T.setFrames (.throwing a :: kB K)) hT
end BGC
/-! a throw: new, dup, ldc, the constructor, athrow, in one -/
theorem bg_strRef {A : Array Value} {s U : State} {own tx : String} {k : Nat} (h : (Cond.stringRef own k tx).before A s = true) (hW : s.WarmedH U.vm) : ∃ q, vk_R own k tx q U := by
  cases hc : s.vm.findClass own with
  | none => simp [Cond.before, Cond.holds, Cond.value, hc] at h
  | some cur =>
    obtain ⟨_, _, _, a, -, -, -, -, -, hev⟩ := Cond.stringRef_spec hc h
    exact ⟨a, vk_R.warm hW (vk_R.of (A := A) h hev)⟩
def bgAt (own : String) (ic : Nat) (X : String) (names : List String) : Prop := ∀ a ∈ Bundle.ownAtoms own ic X names, a ∈ bgTs ∨ (a ∈ lw_tbl ∧ ∃ o n d, a = Cond.laysStatic o n d) ∨ a = bgUn ∨ a = bgSe
section BGT
variable {K : bgK} {own : String} {cc : ByteArray} {nL : Nat} {rt : Option FieldType} {bb pu : Bool} {n z c0 z0 : Nat} {w : bgW} {L : List (Option bgV)} {post : bgRes → bgW → Prop}
theorem bg_atoms (C : bgCx K own cc nL rt) {own2 X : String} {ic : Nat} {names : List String} (h : bgAt own2 ic X names) : ∀ a ∈ Bundle.ownAtoms own2 ic X names, a.before (kA K) (kS K) = true := by
  intro a ha
  obtain ⟨w0, -, hW0, -, hq0⟩ := C.hs
  rcases h a ha with h | ⟨h, o, n, d, rfl⟩ | rfl | rfl
  · exact C.hts a h
  · exact bg_laysStatic hW0 hq0 (C.ok.2.2.2.1 _ h)
  · exact bg_isRef hW0 hq0 (C.ok.2.2.2.1 _ bgUn_lays) C.ok.2.2.2.2.1
  · exact bg_isRef hW0 hq0 (C.ok.2.2.2.1 _ bgSe_lays) C.ok.2.2.2.2.2.1
theorem bg_keep {s t : State} {c n : Nat} (h : s.sameButNew t [] c n) {a : Nat} {cell : Cell} (hc : s.heap[a]? = some cell) : t.heap[a]? = some cell := by
  obtain ⟨c', h1, h2, h3, h4⟩ := h.2.2.2.2.2 a cell hc
  rw [h1, h2]
  have e : c'.slots = cell.slots := by
    apply Array.ext_getElem?
    intro i
    exact h4 i (fun q => by cases q)
  rw [e]
set_option maxHeartbeats 1000000 in
theorem bg_throw (C : bgCx K own cc nL rt) {X : Nat} {names : List String} {idx sidx ic p0 p1 p2 p3 p4 p5 : Nat} {tx : String} (hex : (kC K).exceptionTable.isEmpty = true) (hbb : bb = true)
    (hd0 : bgd cc p0 (.new idx) 3 p1) (hd1 : bgd cc p1 .dup 1 p2) (hd2 : bgd cc p2 (.ldc sidx) 2 p3) (hd3 : bgd cc p3 (.invokespecial ic) 3 p4) (hd4 : bgd cc p4 .athrow 1 p5)
    (hcl : Cond.classLink own idx (bgXn X) ∈ bgTs) (hins : Cond.instantiable (bgXn X) 6 ∈ bgTs) (hini : Cond.initialized (bgXn X) ∈ bgTs) (hsr : Cond.stringRef own sidx tx ∈ lw_tbl) (hat : bgAt own ic (bgXn X) names)
    (hfit : Bundle.fit (bgXn X) = true) (hnames : ∀ n ∈ names, Bundle.fit n = true) (hR : names.length + 3 < (kR K).frames) (hRl : 13 * (names.length + 1) + 43 ≤ (kR K).locals) (hL : L.length = nL)
    (hc1 : n + 1 ≤ (kR K).cells) (hs1 : z + 6 ≤ (kR K).slots) (hmc : n + 1 ≤ 1) (hms : z + 6 ≤ 6) (hp : post (.inr X) w) : bgX K bb n z (bgQ K pu c0 z0 post) w p0 L [] := by
  obtain ⟨e0, rfl⟩ := hd0
  obtain ⟨e1, rfl⟩ := hd1
  obtain ⟨e2, rfl⟩ := hd2
  obtain ⟨e3, rfl⟩ := hd3
  obtain ⟨e4, -⟩ := hd4
  intro H locs ls hlb hP hS hlo
  have hl0 := hlb hbb
  subst hl0
  obtain ⟨w0, hP0, hW0, hz0, hq0⟩ := C.hs
  obtain ⟨q, hq⟩ := bg_strRef (C.ok.2.2.2.1 _ hsr) hW0
  refine W.newc (C := bgXn X) (n := 6) C.hx C.hb C.hown (C.hts _ hcl) (C.hts _ hins) (C.hts _ hini) (g := F0 (kM K) p0 ls []) rfl e0 hc1 hs1 (fun cX kX f1 f2 f3 f4 => ?_)
  refine lv_dup (pc := p0 + 3) (rest := []) (va := .ref H.size) C.hx C.hb e1 rfl ?_
  refine va_ldcS C.hx C.hb C.hown hq e2 ?_
  intro T hT XX
  have hsz : ls.size = (kC K).maxLocals := by rw [C.hml]; exact hlo.1.trans hL
  have htr : (kE K).platform.stackTraces = false := by
    rw [XX.admits.platform]
    exact C.ok.1
  obtain ⟨U, hst, hrun, hend, hW, hsame, ce, hce, hoc⟩ := XX.ctorThrowS C.hx htr C.hown hfit hnames (bg_atoms C hat) (fun x hx => by cases hx) f1 f2 (a := H.size) (by rw [hT]; simp) hS.1 (msg := .ref q) rfl (g := F0 (kM K) (p0 + 3 + 1 + 2) ls [.ref q, .ref H.size, .ref H.size]) rfl hsz rfl rfl (rest := []) rfl (by rw [C.hb]; exact e3) (by rw [C.hb]; exact e4) (fun x hx => by
    rw [Array.isEmpty_iff.mp hex] at hx
    cases hx) hR (by show 2 * 0 + 1 + (13 * (names.length + 1) + 42) ≤ _; omega) (hlocks := C.hlk)
  have hk1 : ∀ (a : Nat) (cell : Cell), (kS K).heap[a]? = some cell → U.heap[a]? = some cell := fun a cell h => bg_keep hsame h
  have hk2 : ∀ (a : Nat) (cell : Cell), (kS K).heap[a]? = some cell → T.heap[a]? = some cell := fun a cell h => bg_keep XX.same h
  refine ⟨U, hst, .threw H.size, hrun, hend, .inr X, w, ⟨H.size, ce, rfl, hce, hoc.cls, hoc.vm⟩, hp, ?_, ?_, [], fun _ => rfl, ⟨hW, hsame.mono hmc hms⟩, fun q hq => by cases hq⟩
  · refine hP.kept (fun k x hx => ?_)
    obtain ⟨hk, rfl⟩ := bgL_get hx
    have hlt := (hP0 k _ (bgL_at hk)).lt
    have hlt2 : kAd K k < (kS K).heap.size := hlt
    have hsome : (kS K).heap[kAd K k]? = some (kS K).heap[kAd K k] := Array.getElem?_eq_getElem hlt2
    have h1 := hk1 _ _ hsome
    have h2 := hk2 _ _ hsome
    rw [hT, Array.getElem?_push, if_neg (by have := hS.1; omega)] at h2
    show U.heap[kAd K k]? = H[kAd K k]?
    rw [h1, h2]
  · refine ⟨hsame.2.1, fun a ha _ => ?_⟩
    have hsome : (kS K).heap[a]? = some (kS K).heap[a] := Array.getElem?_eq_getElem ha
    rw [hk1 _ _ hsome, hsome]
end BGT
end
