-- ===== PART A: goes FIRST, ahead of the names: the tables' words, and 'selects' of the private methods out of them =====
/-- a private method of a class that the tables say can be made, by its rows of tables_1 -/
def lw_okq (q : MethodName × Nat) : Prop := (q.1.cls ≠ "java/lang/invoke/MethodHandle" ∧ q.1.cls ≠ "java/lang/invoke/VarHandle") ∧ Cond.instantiable q.1.cls q.2 ∈ tables_1 ∧ Cond.privateMethod q.1 ∈ tables_1 ∧ Cond.instanceMethod q.1 ∈ tables_1
theorem lw_p0 : lw_okq (⟨"BlockGraph", "startAnew", "()V"⟩, 9) := ⟨⟨by decide +kernel, by decide +kernel⟩, List.mem_of_getElem? (i := 21) (by decide +kernel), List.mem_of_getElem? (i := 203) (by decide +kernel), List.mem_of_getElem? (i := 204) (by decide +kernel)⟩
theorem lw_p1 : lw_okq (⟨"BlockGraph", "closeTransaction", "()V"⟩, 9) := ⟨⟨by decide +kernel, by decide +kernel⟩, List.mem_of_getElem? (i := 21) (by decide +kernel), List.mem_of_getElem? (i := 207) (by decide +kernel), List.mem_of_getElem? (i := 208) (by decide +kernel)⟩
theorem lw_p2 : lw_okq (⟨"BlockGraph$Store", "writeHead", "(Z)Z"⟩, 6) := ⟨⟨by decide +kernel, by decide +kernel⟩, List.mem_of_getElem? (i := 67) (by decide +kernel), List.mem_of_getElem? (i := 226) (by decide +kernel), List.mem_of_getElem? (i := 227) (by decide +kernel)⟩
theorem lw_p3 : lw_okq (⟨"BlockGraph$Store", "writeHome", "(ILBlockGraph$EdgeTable;)Z"⟩, 6) := ⟨⟨by decide +kernel, by decide +kernel⟩, List.mem_of_getElem? (i := 67) (by decide +kernel), List.mem_of_getElem? (i := 234) (by decide +kernel), List.mem_of_getElem? (i := 235) (by decide +kernel)⟩
theorem lw_p4 : lw_okq (⟨"BlockGraph$Hand", "place", "(I)I"⟩, 4) := ⟨⟨by decide +kernel, by decide +kernel⟩, List.mem_of_getElem? (i := 44) (by decide +kernel), List.mem_of_getElem? (i := 250) (by decide +kernel), List.mem_of_getElem? (i := 251) (by decide +kernel)⟩
theorem lw_p5 : lw_okq (⟨"BlockGraph$Store", "writeMark", "(I)Z"⟩, 6) := ⟨⟨by decide +kernel, by decide +kernel⟩, List.mem_of_getElem? (i := 67) (by decide +kernel), List.mem_of_getElem? (i := 260) (by decide +kernel), List.mem_of_getElem? (i := 261) (by decide +kernel)⟩
theorem lw_p6 : lw_okq (⟨"BlockGraph", "settleState", "(Z)V"⟩, 9) := ⟨⟨by decide +kernel, by decide +kernel⟩, List.mem_of_getElem? (i := 21) (by decide +kernel), List.mem_of_getElem? (i := 264) (by decide +kernel), List.mem_of_getElem? (i := 265) (by decide +kernel)⟩
theorem lw_p7 : lw_okq (⟨"BlockGraph$Store", "bringHome", "(LBlockGraph$EdgeTable;)Z"⟩, 6) := ⟨⟨by decide +kernel, by decide +kernel⟩, List.mem_of_getElem? (i := 67) (by decide +kernel), List.mem_of_getElem? (i := 286) (by decide +kernel), List.mem_of_getElem? (i := 287) (by decide +kernel)⟩
theorem lw_p8 : lw_okq (⟨"BlockGraph", "mustBeUp", "()V"⟩, 9) := ⟨⟨by decide +kernel, by decide +kernel⟩, List.mem_of_getElem? (i := 21) (by decide +kernel), List.mem_of_getElem? (i := 302) (by decide +kernel), List.mem_of_getElem? (i := 303) (by decide +kernel)⟩
theorem lw_p9 : lw_okq (⟨"java/lang/Throwable", "fillInStackTrace", "(I)Ljava/lang/Throwable;"⟩, 6) := ⟨⟨by decide +kernel, by decide +kernel⟩, List.mem_of_getElem? (i := 346) (by decide +kernel), List.mem_of_getElem? (i := 344) (by decide +kernel), List.mem_of_getElem? (i := 345) (by decide +kernel)⟩
theorem lw_p10 : lw_okq (⟨"BlockGraph", "mustBeOpen", "()V"⟩, 9) := ⟨⟨by decide +kernel, by decide +kernel⟩, List.mem_of_getElem? (i := 21) (by decide +kernel), List.mem_of_getElem? (i := 386) (by decide +kernel), List.mem_of_getElem? (i := 387) (by decide +kernel)⟩
theorem lw_p11 : lw_okq (⟨"BlockGraph", "mustBeVertex", "(I)V"⟩, 9) := ⟨⟨by decide +kernel, by decide +kernel⟩, List.mem_of_getElem? (i := 21) (by decide +kernel), List.mem_of_getElem? (i := 391) (by decide +kernel), List.mem_of_getElem? (i := 392) (by decide +kernel)⟩
theorem lw_p12 : lw_okq (⟨"BlockGraph", "mustHaveRoomForOperation", "()V"⟩, 9) := ⟨⟨by decide +kernel, by decide +kernel⟩, List.mem_of_getElem? (i := 21) (by decide +kernel), List.mem_of_getElem? (i := 428) (by decide +kernel), List.mem_of_getElem? (i := 429) (by decide +kernel)⟩
theorem lw_p13 : lw_okq (⟨"BlockGraph", "operate", "(IIII)V"⟩, 9) := ⟨⟨by decide +kernel, by decide +kernel⟩, List.mem_of_getElem? (i := 21) (by decide +kernel), List.mem_of_getElem? (i := 437) (by decide +kernel), List.mem_of_getElem? (i := 438) (by decide +kernel)⟩
theorem lw_p14 : lw_okq (⟨"BlockGraph", "mustBeVisible", "(I)V"⟩, 9) := ⟨⟨by decide +kernel, by decide +kernel⟩, List.mem_of_getElem? (i := 21) (by decide +kernel), List.mem_of_getElem? (i := 454) (by decide +kernel), List.mem_of_getElem? (i := 455) (by decide +kernel)⟩
theorem lw_p15 : lw_okq (⟨"BlockGraph$Store", "writeLog", "(LBlockGraph$Operations;I)Z"⟩, 6) := ⟨⟨by decide +kernel, by decide +kernel⟩, List.mem_of_getElem? (i := 67) (by decide +kernel), List.mem_of_getElem? (i := 489) (by decide +kernel), List.mem_of_getElem? (i := 490) (by decide +kernel)⟩
def lw_privs_1 : List (MethodName × Nat) := [(⟨"BlockGraph", "startAnew", "()V"⟩, 9), (⟨"BlockGraph", "closeTransaction", "()V"⟩, 9), (⟨"BlockGraph$Store", "writeHead", "(Z)Z"⟩, 6), (⟨"BlockGraph$Store", "writeHome", "(ILBlockGraph$EdgeTable;)Z"⟩, 6), (⟨"BlockGraph$Hand", "place", "(I)I"⟩, 4), (⟨"BlockGraph$Store", "writeMark", "(I)Z"⟩, 6), (⟨"BlockGraph", "settleState", "(Z)V"⟩, 9), (⟨"BlockGraph$Store", "bringHome", "(LBlockGraph$EdgeTable;)Z"⟩, 6), (⟨"BlockGraph", "mustBeUp", "()V"⟩, 9), (⟨"java/lang/Throwable", "fillInStackTrace", "(I)Ljava/lang/Throwable;"⟩, 6), (⟨"BlockGraph", "mustBeOpen", "()V"⟩, 9), (⟨"BlockGraph", "mustBeVertex", "(I)V"⟩, 9), (⟨"BlockGraph", "mustHaveRoomForOperation", "()V"⟩, 9), (⟨"BlockGraph", "operate", "(IIII)V"⟩, 9), (⟨"BlockGraph", "mustBeVisible", "(I)V"⟩, 9), (⟨"BlockGraph$Store", "writeLog", "(LBlockGraph$Operations;I)Z"⟩, 6)]
theorem lw_r1 : ∀ q ∈ lw_privs_1, lw_okq q := List.forall_mem_cons.mpr ⟨lw_p0, List.forall_mem_cons.mpr ⟨lw_p1, List.forall_mem_cons.mpr ⟨lw_p2, List.forall_mem_cons.mpr ⟨lw_p3, List.forall_mem_cons.mpr ⟨lw_p4, List.forall_mem_cons.mpr ⟨lw_p5, List.forall_mem_cons.mpr ⟨lw_p6, List.forall_mem_cons.mpr ⟨lw_p7, List.forall_mem_cons.mpr ⟨lw_p8, List.forall_mem_cons.mpr ⟨lw_p9, List.forall_mem_cons.mpr ⟨lw_p10, List.forall_mem_cons.mpr ⟨lw_p11, List.forall_mem_cons.mpr ⟨lw_p12, List.forall_mem_cons.mpr ⟨lw_p13, List.forall_mem_cons.mpr ⟨lw_p14, List.forall_mem_cons.mpr ⟨lw_p15, fun _ h => absurd h List.not_mem_nil⟩⟩⟩⟩⟩⟩⟩⟩⟩⟩⟩⟩⟩⟩⟩⟩
theorem lw_p16 : lw_okq (⟨"BlockGraph$Ways", "shorten", "(LBlockGraph$EdgeTable;)Z"⟩, 4) := ⟨⟨by decide +kernel, by decide +kernel⟩, List.mem_of_getElem? (i := 149) (by decide +kernel), List.mem_of_getElem? (i := 550) (by decide +kernel), List.mem_of_getElem? (i := 551) (by decide +kernel)⟩
theorem lw_p17 : lw_okq (⟨"BlockGraph$Ways", "leadsOn", "(LBlockGraph$EdgeTable;I)Z"⟩, 4) := ⟨⟨by decide +kernel, by decide +kernel⟩, List.mem_of_getElem? (i := 149) (by decide +kernel), List.mem_of_getElem? (i := 554) (by decide +kernel), List.mem_of_getElem? (i := 555) (by decide +kernel)⟩
theorem lw_p18 : lw_okq (⟨"BlockGraph$Ways", "chooseParents", "(LBlockGraph$EdgeTable;)V"⟩, 4) := ⟨⟨by decide +kernel, by decide +kernel⟩, List.mem_of_getElem? (i := 149) (by decide +kernel), List.mem_of_getElem? (i := 559) (by decide +kernel), List.mem_of_getElem? (i := 560) (by decide +kernel)⟩
theorem lw_p19 : lw_okq (⟨"BlockGraph$Ways", "countReached", "()I"⟩, 4) := ⟨⟨by decide +kernel, by decide +kernel⟩, List.mem_of_getElem? (i := 149) (by decide +kernel), List.mem_of_getElem? (i := 563) (by decide +kernel), List.mem_of_getElem? (i := 564) (by decide +kernel)⟩
theorem lw_p20 : lw_okq (⟨"BlockGraph", "mustHaveWayTo", "(I)V"⟩, 9) := ⟨⟨by decide +kernel, by decide +kernel⟩, List.mem_of_getElem? (i := 21) (by decide +kernel), List.mem_of_getElem? (i := 574) (by decide +kernel), List.mem_of_getElem? (i := 575) (by decide +kernel)⟩
theorem lw_p21 : lw_okq (⟨"BlockGraphModel", "clear", "()V"⟩, 23) := ⟨⟨by decide +kernel, by decide +kernel⟩, List.mem_of_getElem? (i := 634) (by decide +kernel), List.mem_of_getElem? (i := 640) (by decide +kernel), List.mem_of_getElem? (i := 641) (by decide +kernel)⟩
theorem lw_p22 : lw_okq (⟨"BlockGraphModel", "untouch", "()V"⟩, 23) := ⟨⟨by decide +kernel, by decide +kernel⟩, List.mem_of_getElem? (i := 634) (by decide +kernel), List.mem_of_getElem? (i := 723) (by decide +kernel), List.mem_of_getElem? (i := 724) (by decide +kernel)⟩
theorem lw_p23 : lw_okq (⟨"BlockGraphModel", "isWritten", "()Z"⟩, 23) := ⟨⟨by decide +kernel, by decide +kernel⟩, List.mem_of_getElem? (i := 634) (by decide +kernel), List.mem_of_getElem? (i := 727) (by decide +kernel), List.mem_of_getElem? (i := 728) (by decide +kernel)⟩
theorem lw_p24 : lw_okq (⟨"BlockGraphModel", "isFormatted", "()Z"⟩, 23) := ⟨⟨by decide +kernel, by decide +kernel⟩, List.mem_of_getElem? (i := 634) (by decide +kernel), List.mem_of_getElem? (i := 731) (by decide +kernel), List.mem_of_getElem? (i := 732) (by decide +kernel)⟩
theorem lw_p25 : lw_okq (⟨"BlockGraphModel", "isNew", "(I)Z"⟩, 23) := ⟨⟨by decide +kernel, by decide +kernel⟩, List.mem_of_getElem? (i := 634) (by decide +kernel), List.mem_of_getElem? (i := 735) (by decide +kernel), List.mem_of_getElem? (i := 736) (by decide +kernel)⟩
theorem lw_p26 : lw_okq (⟨"BlockGraphModel", "isDown", "()Z"⟩, 23) := ⟨⟨by decide +kernel, by decide +kernel⟩, List.mem_of_getElem? (i := 634) (by decide +kernel), List.mem_of_getElem? (i := 743) (by decide +kernel), List.mem_of_getElem? (i := 744) (by decide +kernel)⟩
theorem lw_p27 : lw_okq (⟨"BlockGraphModel", "visible", "()I"⟩, 23) := ⟨⟨by decide +kernel, by decide +kernel⟩, List.mem_of_getElem? (i := 634) (by decide +kernel), List.mem_of_getElem? (i := 754) (by decide +kernel), List.mem_of_getElem? (i := 755) (by decide +kernel)⟩
theorem lw_p28 : lw_okq (⟨"BlockGraphModel", "isVisible", "(I)Z"⟩, 23) := ⟨⟨by decide +kernel, by decide +kernel⟩, List.mem_of_getElem? (i := 634) (by decide +kernel), List.mem_of_getElem? (i := 762) (by decide +kernel), List.mem_of_getElem? (i := 763) (by decide +kernel)⟩
theorem lw_p29 : lw_okq (⟨"BlockGraphModel", "copy", "(II)V"⟩, 23) := ⟨⟨by decide +kernel, by decide +kernel⟩, List.mem_of_getElem? (i := 634) (by decide +kernel), List.mem_of_getElem? (i := 770) (by decide +kernel), List.mem_of_getElem? (i := 771) (by decide +kernel)⟩
theorem lw_p30 : lw_okq (⟨"BlockGraphModel", "isHome", "()Z"⟩, 23) := ⟨⟨by decide +kernel, by decide +kernel⟩, List.mem_of_getElem? (i := 634) (by decide +kernel), List.mem_of_getElem? (i := 774) (by decide +kernel), List.mem_of_getElem? (i := 775) (by decide +kernel)⟩
theorem lw_p31 : lw_okq (⟨"BlockGraphModel", "look", "(I)V"⟩, 23) := ⟨⟨by decide +kernel, by decide +kernel⟩, List.mem_of_getElem? (i := 634) (by decide +kernel), List.mem_of_getElem? (i := 794) (by decide +kernel), List.mem_of_getElem? (i := 795) (by decide +kernel)⟩
def lw_privs_2 : List (MethodName × Nat) := [(⟨"BlockGraph$Ways", "shorten", "(LBlockGraph$EdgeTable;)Z"⟩, 4), (⟨"BlockGraph$Ways", "leadsOn", "(LBlockGraph$EdgeTable;I)Z"⟩, 4), (⟨"BlockGraph$Ways", "chooseParents", "(LBlockGraph$EdgeTable;)V"⟩, 4), (⟨"BlockGraph$Ways", "countReached", "()I"⟩, 4), (⟨"BlockGraph", "mustHaveWayTo", "(I)V"⟩, 9), (⟨"BlockGraphModel", "clear", "()V"⟩, 23), (⟨"BlockGraphModel", "untouch", "()V"⟩, 23), (⟨"BlockGraphModel", "isWritten", "()Z"⟩, 23), (⟨"BlockGraphModel", "isFormatted", "()Z"⟩, 23), (⟨"BlockGraphModel", "isNew", "(I)Z"⟩, 23), (⟨"BlockGraphModel", "isDown", "()Z"⟩, 23), (⟨"BlockGraphModel", "visible", "()I"⟩, 23), (⟨"BlockGraphModel", "isVisible", "(I)Z"⟩, 23), (⟨"BlockGraphModel", "copy", "(II)V"⟩, 23), (⟨"BlockGraphModel", "isHome", "()Z"⟩, 23), (⟨"BlockGraphModel", "look", "(I)V"⟩, 23)]
theorem lw_r2 : ∀ q ∈ lw_privs_2, lw_okq q := List.forall_mem_cons.mpr ⟨lw_p16, List.forall_mem_cons.mpr ⟨lw_p17, List.forall_mem_cons.mpr ⟨lw_p18, List.forall_mem_cons.mpr ⟨lw_p19, List.forall_mem_cons.mpr ⟨lw_p20, List.forall_mem_cons.mpr ⟨lw_p21, List.forall_mem_cons.mpr ⟨lw_p22, List.forall_mem_cons.mpr ⟨lw_p23, List.forall_mem_cons.mpr ⟨lw_p24, List.forall_mem_cons.mpr ⟨lw_p25, List.forall_mem_cons.mpr ⟨lw_p26, List.forall_mem_cons.mpr ⟨lw_p27, List.forall_mem_cons.mpr ⟨lw_p28, List.forall_mem_cons.mpr ⟨lw_p29, List.forall_mem_cons.mpr ⟨lw_p30, List.forall_mem_cons.mpr ⟨lw_p31, fun _ h => absurd h List.not_mem_nil⟩⟩⟩⟩⟩⟩⟩⟩⟩⟩⟩⟩⟩⟩⟩⟩
theorem lw_p32 : lw_okq (⟨"BlockGraphModel", "faultOf", "(I)I"⟩, 23) := ⟨⟨by decide +kernel, by decide +kernel⟩, List.mem_of_getElem? (i := 634) (by decide +kernel), List.mem_of_getElem? (i := 810) (by decide +kernel), List.mem_of_getElem? (i := 811) (by decide +kernel)⟩
theorem lw_p33 : lw_okq (⟨"BlockGraphModel", "above", "(I)I"⟩, 23) := ⟨⟨by decide +kernel, by decide +kernel⟩, List.mem_of_getElem? (i := 634) (by decide +kernel), List.mem_of_getElem? (i := 818) (by decide +kernel), List.mem_of_getElem? (i := 819) (by decide +kernel)⟩
def lw_privs_3 : List (MethodName × Nat) := [(⟨"BlockGraphModel", "faultOf", "(I)I"⟩, 23), (⟨"BlockGraphModel", "above", "(I)I"⟩, 23)]
theorem lw_r3 : ∀ q ∈ lw_privs_3, lw_okq q := List.forall_mem_cons.mpr ⟨lw_p32, List.forall_mem_cons.mpr ⟨lw_p33, fun _ h => absurd h List.not_mem_nil⟩⟩
def lw_privs : List (MethodName × Nat) := lw_privs_1 ++ (lw_privs_2 ++ (lw_privs_3))
def lw_tbl : List Cond := k2_sels lw_privs ++ tables_1
theorem lw_privs_ok : ∀ q ∈ lw_privs, lw_okq q := by
  show ∀ q ∈ lw_privs_1 ++ (lw_privs_2 ++ (lw_privs_3)), lw_okq q
  exact List.forall_mem_append.mpr ⟨lw_r1, List.forall_mem_append.mpr ⟨lw_r2, lw_r3⟩⟩
def bgNO : Nat := 37
def bgMo : Nat := 27
def bgKinds : List (Nat ⊕ (Nat × Nat)) := [.inl 0, .inl 1, .inl 2, .inr (50, 0), .inl 3, .inl 4, .inr (20, 0), .inr (20, 0), .inr (20, 0), .inr (20, 0), .inl 5, .inr (200, 0), .inr (200, 0), .inr (200, 0), .inl 5, .inr (200, 0), .inr (200, 0), .inr (200, 0), .inl 4, .inr (20, 0), .inr (20, 0), .inr (20, 0), .inr (20, 0), .inl 6, .inr (64, 0), .inr (64, 0), .inr (64, 0), .inl 7, .inr (400, 0), .inr (400, 0), .inr (400, 0), .inr (50, 1), .inr (50, 1), .inr (51, 0), .inr (64, 0), .inr (64, 0), .inr (1, 2)]
theorem bgKinds_len : bgKinds.length = bgNO := by decide +kernel
theorem bgKinds_all : (bgKinds.all (fun q => match q with | .inl _ => true | .inr p => decide (p.1 ≤ 1000))) = true := by decide +kernel
theorem bgKinds_ok (n t : Nat) (h : (.inr (n, t) : Nat ⊕ (Nat × Nat)) ∈ bgKinds) : n ≤ 1000 := by
  have := List.all_eq_true.mp bgKinds_all _ h
  simpa using this
def bgRefs : List (List (Option Nat)) := [[some 1, some 2, some 4, some 14, some 18, some 23, none, none, none], [none, none], [some 3, none, none, none], [], [some 1, some 2, some 5, some 10, none, none], [some 6, some 7, some 8, some 9, none], [], [], [], [], [some 11, some 12, some 13, none], [], [], [], [some 15, some 16, some 17, none], [], [], [], [some 19, some 20, some 21, some 22, none], [], [], [], [], [some 24, some 25, some 26, none], [], [], [], [none, some 28, some 29, some 30, none, none, none, none, some 31, some 32, none, none, none, none, none, none, some 33, none, none, none, none, some 34, some 35], [], [], [], [], [], [], [], [], []]
def bgRef (k i : Nat) : Option Nat := (((bgRefs[k]?).getD [])[i]?).join
def R_bg : String := "BlockGraph"
def T_bg : u_T := fun k => match k with
  | 0 => ("BlockGraph", "power", "LBlockGraph$Power;", true)
  | 1 => ("BlockGraph", "hand", "LBlockGraph$Hand;", true)
  | 2 => ("BlockGraph", "store", "LBlockGraph$Store;", true)
  | 3 => ("BlockGraph", "visible", "LBlockGraph$EdgeTable;", true)
  | 4 => ("BlockGraph", "pending", "LBlockGraph$Operations;", true)
  | 5 => ("BlockGraph", "ways", "LBlockGraph$Ways;", true)
  | 6 => ("BlockGraph", "up", "Z", false)
  | 7 => ("BlockGraph", "open", "Z", false)
  | _ => ("BlockGraph", "known", "I", false)
def ty_bg : Nat → FieldType := fun k => match k with
  | 0 => .object "BlockGraph$Power"
  | 1 => .object "BlockGraph$Hand"
  | 2 => .object "BlockGraph$Store"
  | 3 => .object "BlockGraph$EdgeTable"
  | 4 => .object "BlockGraph$Operations"
  | 5 => .object "BlockGraph$Ways"
  | 6 => .boolean
  | 7 => .boolean
  | _ => .int
def R_pw : String := "BlockGraph$Power"
def T_pw : u_T := fun k => match k with
  | 0 => ("BlockGraph$Power", "left", "I", false)
  | _ => ("BlockGraph$Power", "writes", "I", false)
def ty_pw : Nat → FieldType := fun k => match k with
  | 0 => .int
  | _ => .int
def R_hd : String := "BlockGraph$Hand"
def T_hd : u_T := fun k => match k with
  | 0 => ("BlockGraph$Hand", "blocks", "[I", true)
  | 1 => ("BlockGraph$Hand", "size", "I", false)
  | 2 => ("BlockGraph$Hand", "reads", "I", false)
  | _ => ("BlockGraph$Hand", "most", "I", false)
def ty_hd : Nat → FieldType := fun k => match k with
  | 0 => .array .int
  | 1 => .int
  | 2 => .int
  | _ => .int
def R_so : String := "BlockGraph$Store"
def T_so : u_T := fun k => match k with
  | 0 => ("BlockGraph$Store", "power", "LBlockGraph$Power;", true)
  | 1 => ("BlockGraph$Store", "hand", "LBlockGraph$Hand;", true)
  | 2 => ("BlockGraph$Store", "log", "LBlockGraph$Operations;", true)
  | 3 => ("BlockGraph$Store", "home", "LBlockGraph$EdgeTable;", true)
  | 4 => ("BlockGraph$Store", "hasGraph", "Z", false)
  | _ => ("BlockGraph$Store", "committed", "I", false)
def ty_so : Nat → FieldType := fun k => match k with
  | 0 => .object "BlockGraph$Power"
  | 1 => .object "BlockGraph$Hand"
  | 2 => .object "BlockGraph$Operations"
  | 3 => .object "BlockGraph$EdgeTable"
  | 4 => .boolean
  | _ => .int
def R_op : String := "BlockGraph$Operations"
def T_op : u_T := fun k => match k with
  | 0 => ("BlockGraph$Operations", "edge", "[I", true)
  | 1 => ("BlockGraph$Operations", "from", "[I", true)
  | 2 => ("BlockGraph$Operations", "to", "[I", true)
  | 3 => ("BlockGraph$Operations", "weight", "[I", true)
  | _ => ("BlockGraph$Operations", "size", "I", false)
def ty_op : Nat → FieldType := fun k => match k with
  | 0 => .array .int
  | 1 => .array .int
  | 2 => .array .int
  | 3 => .array .int
  | _ => .int
def R_et : String := "BlockGraph$EdgeTable"
def T_et : u_T := fun k => match k with
  | 0 => ("BlockGraph$EdgeTable", "from", "[I", true)
  | 1 => ("BlockGraph$EdgeTable", "to", "[I", true)
  | 2 => ("BlockGraph$EdgeTable", "weight", "[I", true)
  | _ => ("BlockGraph$EdgeTable", "size", "I", false)
def ty_et : Nat → FieldType := fun k => match k with
  | 0 => .array .int
  | 1 => .array .int
  | 2 => .array .int
  | _ => .int
def R_wy : String := "BlockGraph$Ways"
def T_wy : u_T := fun k => match k with
  | 0 => ("BlockGraph$Ways", "distances", "[I", true)
  | 1 => ("BlockGraph$Ways", "parents", "[I", true)
  | 2 => ("BlockGraph$Ways", "before", "[I", true)
  | _ => ("BlockGraph$Ways", "fresh", "Z", false)
def ty_wy : Nat → FieldType := fun k => match k with
  | 0 => .array .int
  | 1 => .array .int
  | 2 => .array .int
  | _ => .boolean
def R_mo : String := "BlockGraphModel"
def T_mo : u_T := fun k => match k with
  | 0 => ("BlockGraphModel", "code", "I", false)
  | 1 => ("BlockGraphModel", "froms", "[I", true)
  | 2 => ("BlockGraphModel", "tos", "[I", true)
  | 3 => ("BlockGraphModel", "weights", "[I", true)
  | 4 => ("BlockGraphModel", "graph", "Z", false)
  | 5 => ("BlockGraphModel", "down", "Z", false)
  | 6 => ("BlockGraphModel", "open", "Z", false)
  | 7 => ("BlockGraphModel", "operations", "I", false)
  | 8 => ("BlockGraphModel", "touched", "[Z", true)
  | 9 => ("BlockGraphModel", "logged", "[Z", true)
  | 10 => ("BlockGraphModel", "full", "Z", false)
  | 11 => ("BlockGraphModel", "commits", "I", false)
  | 12 => ("BlockGraphModel", "uncounted", "I", false)
  | 13 => ("BlockGraphModel", "armed", "I", false)
  | 14 => ("BlockGraphModel", "writes", "I", false)
  | 15 => ("BlockGraphModel", "reads", "I", false)
  | 16 => ("BlockGraphModel", "hand", "[I", true)
  | 17 => ("BlockGraphModel", "hands", "I", false)
  | 18 => ("BlockGraphModel", "most", "I", false)
  | 19 => ("BlockGraphModel", "stale", "Z", false)
  | 20 => ("BlockGraphModel", "source", "I", false)
  | 21 => ("BlockGraphModel", "distances", "[I", true)
  | _ => ("BlockGraphModel", "way", "[I", true)
def ty_mo : Nat → FieldType := fun k => match k with
  | 0 => .int
  | 1 => .array .int
  | 2 => .array .int
  | 3 => .array .int
  | 4 => .boolean
  | 5 => .boolean
  | 6 => .boolean
  | 7 => .int
  | 8 => .array .boolean
  | 9 => .array .boolean
  | 10 => .boolean
  | 11 => .int
  | 12 => .int
  | 13 => .int
  | 14 => .int
  | 15 => .int
  | 16 => .array .int
  | 17 => .int
  | 18 => .int
  | 19 => .boolean
  | 20 => .int
  | 21 => .array .int
  | _ => .array .int
abbrev bgCl : List vw_C := [(R_bg, T_bg, 9), (R_pw, T_pw, 2), (R_hd, T_hd, 4), (R_so, T_so, 6), (R_op, T_op, 5), (R_et, T_et, 4), (R_wy, T_wy, 4), (R_mo, T_mo, 23)]
def bgNs (ci : Nat) : Nat := ([9, 2, 4, 6, 5, 4, 4, 23] : List Nat).getD ci 0
def bgRt : List (Option (Int × Int) ⊕ List (Option (Int × Int))) := [.inr [none, none, none, none, none, none, some (0, 1), some (0, 1), none], .inr [none, none], .inr [none, some (0, 50), none, some (1, 50)], .inl none, .inr [none, none, none, none, some (0, 1), none], .inr [none, none, none, none, some (0, 20)], .inl (some (-1, 199)), .inl (some (0, 63)), .inl (some (0, 63)), .inl none, .inr [none, none, none, none], .inl (some (0, 63)), .inl (some (0, 63)), .inl none, .inr [none, none, none, none], .inl (some (0, 63)), .inl (some (0, 63)), .inl none, .inr [none, none, none, none, some (0, 20)], .inl (some (-1, 199)), .inl (some (0, 63)), .inl (some (0, 63)), .inl none, .inr [none, none, none, some (0, 1)], .inl none, .inl none, .inl (some (0, 63))]
def bgXs : List String := ["java/lang/IllegalStateException", "java/lang/IllegalArgumentException", "java/lang/UnsupportedOperationException", "java/util/NoSuchElementException", "java/lang/IndexOutOfBoundsException"]
def bgNC : List (String × String) := [("BlockGraph", "java/lang/IllegalStateException"), ("BlockGraph$Power", "java/lang/IllegalStateException"), ("BlockGraph$Hand", "java/lang/IllegalStateException"), ("BlockGraph$Store", "java/lang/IllegalStateException"), ("BlockGraph$Operations", "java/lang/IllegalStateException"), ("BlockGraph$EdgeTable", "java/lang/IllegalStateException"), ("BlockGraph$Ways", "java/lang/IllegalStateException"), ("BlockGraphModel", "java/lang/IllegalStateException"), ("java/lang/IllegalArgumentException", "java/lang/IllegalStateException"), ("java/lang/UnsupportedOperationException", "java/lang/IllegalStateException"), ("java/util/NoSuchElementException", "java/lang/IllegalStateException"), ("java/lang/IndexOutOfBoundsException", "java/lang/IllegalStateException"), ("BlockGraph", "java/lang/IllegalArgumentException"), ("BlockGraph$Power", "java/lang/IllegalArgumentException"), ("BlockGraph$Hand", "java/lang/IllegalArgumentException"), ("BlockGraph$Store", "java/lang/IllegalArgumentException"), ("BlockGraph$Operations", "java/lang/IllegalArgumentException"), ("BlockGraph$EdgeTable", "java/lang/IllegalArgumentException"), ("BlockGraph$Ways", "java/lang/IllegalArgumentException"), ("BlockGraphModel", "java/lang/IllegalArgumentException"), ("java/lang/IllegalStateException", "java/lang/IllegalArgumentException"), ("java/lang/UnsupportedOperationException", "java/lang/IllegalArgumentException"), ("java/util/NoSuchElementException", "java/lang/IllegalArgumentException"), ("java/lang/IndexOutOfBoundsException", "java/lang/IllegalArgumentException"), ("BlockGraph", "java/lang/UnsupportedOperationException"), ("BlockGraph$Power", "java/lang/UnsupportedOperationException"), ("BlockGraph$Hand", "java/lang/UnsupportedOperationException"), ("BlockGraph$Store", "java/lang/UnsupportedOperationException"), ("BlockGraph$Operations", "java/lang/UnsupportedOperationException"), ("BlockGraph$EdgeTable", "java/lang/UnsupportedOperationException"), ("BlockGraph$Ways", "java/lang/UnsupportedOperationException"), ("BlockGraphModel", "java/lang/UnsupportedOperationException"), ("java/lang/IllegalStateException", "java/lang/UnsupportedOperationException"), ("java/lang/IllegalArgumentException", "java/lang/UnsupportedOperationException"), ("java/util/NoSuchElementException", "java/lang/UnsupportedOperationException"), ("java/lang/IndexOutOfBoundsException", "java/lang/UnsupportedOperationException"), ("BlockGraph", "java/util/NoSuchElementException"), ("BlockGraph$Power", "java/util/NoSuchElementException"), ("BlockGraph$Hand", "java/util/NoSuchElementException"), ("BlockGraph$Store", "java/util/NoSuchElementException"), ("BlockGraph$Operations", "java/util/NoSuchElementException"), ("BlockGraph$EdgeTable", "java/util/NoSuchElementException"), ("BlockGraph$Ways", "java/util/NoSuchElementException"), ("BlockGraphModel", "java/util/NoSuchElementException"), ("java/lang/IllegalStateException", "java/util/NoSuchElementException"), ("java/lang/IllegalArgumentException", "java/util/NoSuchElementException"), ("java/lang/UnsupportedOperationException", "java/util/NoSuchElementException"), ("java/lang/IndexOutOfBoundsException", "java/util/NoSuchElementException"), ("BlockGraph", "java/lang/IndexOutOfBoundsException"), ("BlockGraph$Power", "java/lang/IndexOutOfBoundsException"), ("BlockGraph$Hand", "java/lang/IndexOutOfBoundsException"), ("BlockGraph$Store", "java/lang/IndexOutOfBoundsException"), ("BlockGraph$Operations", "java/lang/IndexOutOfBoundsException"), ("BlockGraph$EdgeTable", "java/lang/IndexOutOfBoundsException"), ("BlockGraph$Ways", "java/lang/IndexOutOfBoundsException"), ("BlockGraphModel", "java/lang/IndexOutOfBoundsException"), ("java/lang/IllegalStateException", "java/lang/IndexOutOfBoundsException"), ("java/lang/IllegalArgumentException", "java/lang/IndexOutOfBoundsException"), ("java/lang/UnsupportedOperationException", "java/lang/IndexOutOfBoundsException"), ("java/util/NoSuchElementException", "java/lang/IndexOutOfBoundsException")]
theorem bgUn_lays : Cond.laysStatic "java/lang/Throwable" "UNASSIGNED_STACK" "[Ljava/lang/StackTraceElement;" ∈ lw_tbl := List.mem_of_getElem? (i := 366) (by decide +kernel)
theorem bgSe_lays : Cond.laysStatic "java/lang/Throwable" "SUPPRESSED_SENTINEL" "Ljava/util/List;" ∈ lw_tbl := List.mem_of_getElem? (i := 368) (by decide +kernel)
