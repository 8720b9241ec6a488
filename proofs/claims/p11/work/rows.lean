section
-- ===== PART A: goes FIRST, ahead of the names: the tables' words, and 'selects' of the private methods out of them =====
/-- a private method of a class that the tables say can be made, by its rows of tables_1 -/
def lw_okq (q : MethodName × Nat) : Prop := (q.1.cls ≠ "java/lang/invoke/MethodHandle" ∧ q.1.cls ≠ "java/lang/invoke/VarHandle") ∧ Cond.instantiable q.1.cls q.2 ∈ tables_1 ∧ Cond.privateMethod q.1 ∈ tables_1 ∧ Cond.instanceMethod q.1 ∈ tables_1
theorem lw_p0 : lw_okq (⟨"BlockGraph", "startAnew", "()V"⟩, 9) := ⟨⟨by decide +kernel, by decide +kernel⟩, List.mem_of_getElem? (i := 21) (by decide +kernel), List.mem_of_getElem? (i := 203) (by decide +kernel), List.mem_of_getElem? (i := 204) (by decide +kernel)⟩
theorem lw_p1 : lw_okq (⟨"BlockGraph", "closeTransaction", "()V"⟩, 9) := ⟨⟨by decide +kernel, by decide +kernel⟩, List.mem_of_getElem? (i := 21) (by decide +kernel), List.mem_of_getElem? (i := 207) (by decide +kernel), List.mem_of_getElem? (i := 208) (by decide +kernel)⟩
theorem lw_p2 : lw_okq (⟨"BlockGraph$Store", "writeHead", "(Z)Z"⟩, 6) := ⟨⟨by decide +kernel, by decide +kernel⟩, List.mem_of_getElem? (i := 67) (by decide +kernel), List.mem_of_getElem? (i := 226) (by decide +kernel), List.mem_of_getElem? (i := 227) (by decide +kernel)⟩
theorem lw_p3 : lw_okq (⟨"BlockGraph$Store", "writeHome", "(ILBlockGraph$EdgeTable;)Z"⟩, 6) := ⟨⟨by decide +kernel, by decide +kernel⟩, List.mem_of_getElem? (i := 67) (by decide +kernel), List.mem_of_getElem? (i := 234) (by decide +kernel), List.mem_of_getElem? (i := 235) (by decide +kernel)⟩
theorem lw_p4 : lw_okq (⟨"BlockGraph$Hand", "place", "(I)I"⟩, 4) := ⟨⟨by decide +kernel, by decide +kernel⟩, List.mem_of_getElem? (i := 44) (by decide +kernel), List.mem_of_getElem? (i := 250) (by decide +kernel), List.mem_of_getElem? (i := 251) (by decide +kernel)⟩
theorem lw_p5 : lw_okq (⟨"BlockGraph$Store", "writeMark", "(I)Z"⟩, 6) := ⟨⟨by decide +kernel, by decide +kernel⟩, List.mem_of_getElem? (i := 67) (by decide +kernel), List.mem_of_getElem? (i := 260) (by decide +kernel), List.mem_of_getElem? (i := 261) (by decide +kernel)⟩
theorem lw_p6 : lw_okq (⟨"BlockGraph", "settleState", "(Z)V"⟩, 9) := ⟨⟨by decide +kernel, by decide +kernel⟩, List.mem_of_getElem? (i := 21) (by decide +kernel), List.mem_of_getElem? (i := 264) (by decide +kernel), List.mem_of_getElem? (i := 265) (by decide +kernel)⟩
theorem lw_p7 : lw_okq (⟨"BlockGraph$Store", "bringHome", "(LBlockGraph$EdgeTable;)Z"⟩, 6) := ⟨⟨by decide +kernel, by decide +kernel⟩, List.mem_of_getElem? (i := 67) (by decide +kernel), List.mem_of_getElem? (i := 286) (by decide +kernel), List.mem_of_getElem? (i := 287) (by decide +kernel)⟩
theorem lw_p8 : lw_okq (⟨"BlockGraph", "mustBeUp", "()V"⟩, 9) := ⟨⟨by decide +kernel, by decide +kernel⟩, List.mem_of_getElem? (i := 21) (by decide +kernel), List.mem_of_getElem? (i := 302) (by decide +kernel), List.mem_of_getElem? (i := 303) (by decide +kernel)⟩
theorem lw_p9 : lw_okq (⟨"java/lang/Throwable", "fillInStackTrace", "(I)Ljava/lang/Throwable;"⟩, 6) := ⟨⟨by decide +kernel, by decide +kernel⟩, List.mem_of_getElem? (i := 346) (by decide +kernel), List.mem_of_getElem? (i := 344) (by decide +kernel), List.mem_of_getElem? (i := 345) (by decide +kernel)⟩
theorem lw_p10 : lw_okq (⟨"BlockGraph", "mustBeOpen", "()V"⟩, 9) := ⟨⟨by decide +kernel, by decide +kernel⟩, List.mem_of_getElem? (i := 21) (by decide +kernel), List.mem_of_getElem? (i := 386) (by decide +kernel), List.mem_of_getElem? (i := 387) (by decide +kernel)⟩
theorem lw_p11 : lw_okq (⟨"BlockGraph", "mustBeVertex", "(I)V"⟩, 9) := ⟨⟨by decide +kernel, by decide +kernel⟩, List.mem_of_getElem? (i := 21) (by decide +kernel), List.mem_of_getElem? (i := 391) (by decide +kernel), List.mem_of_getElem? (i := 392) (by decide +kernel)⟩
theorem lw_p12 : lw_okq (⟨"BlockGraph", "mustHaveRoomForOperation", "()V"⟩, 9) := ⟨⟨by decide +kernel, by decide +kernel⟩, List.mem_of_getElem? (i := 21) (by decide +kernel), List.mem_of_getElem? (i := 428) (by decide +kernel), List.mem_of_getElem? (i := 429) (by decide +kernel)⟩
theorem lw_p13 : lw_okq (⟨"BlockGraph", "operate", "(IIII)V"⟩, 9) := ⟨⟨by decide +kernel, by decide +kernel⟩, List.mem_of_getElem? (i := 21) (by decide +kernel), List.mem_of_getElem? (i := 437) (by decide +kernel), List.mem_of_getElem? (i := 438) (by decide +kernel)⟩
theorem lw_p14 : lw_okq (⟨"BlockGraph", "mustBeVisible", "(I)V"⟩, 9) := ⟨⟨by decide +kernel, by decide +kernel⟩, List.mem_of_getElem? (i := 21) (by decide +kernel), List.mem_of_getElem? (i := 454) (by decide +kernel), List.mem_of_getElem? (i := 455) (by decide +kernel)⟩
theorem lw_p15 : lw_okq (⟨"BlockGraph$Store", "writeLog", "(LBlockGraph$Operations;I)Z"⟩, 6) := ⟨⟨by decide +kernel, by decide +kernel⟩, List.mem_of_getElem? (i := 67) (by decide +kernel), List.mem_of_getElem? (i := 489) (by decide +kernel), List.mem_of_getElem? (i := 490) (by decide +kernel)⟩
def lw_privs_1 : List (MethodName × Nat) := [(⟨"BlockGraph", "startAnew", "()V"⟩, 9), (⟨"BlockGraph", "closeTransaction", "()V"⟩, 9), (⟨"BlockGraph$Store", "writeHead", "(Z)Z"⟩, 6), (⟨"BlockGraph$Store", "writeHome", "(ILBlockGraph$EdgeTable;)Z"⟩, 6), (⟨"BlockGraph$Hand", "place", "(I)I"⟩, 4), (⟨"BlockGraph$Store", "writeMark", "(I)Z"⟩, 6), (⟨"BlockGraph", "settleState", "(Z)V"⟩, 9), (⟨"BlockGraph$Store", "bringHome", "(LBlockGraph$EdgeTable;)Z"⟩, 6), (⟨"BlockGraph", "mustBeUp", "()V"⟩, 9), (⟨"java/lang/Throwable", "fillInStackTrace", "(I)Ljava/lang/Throwable;"⟩, 6), (⟨"BlockGraph", "mustBeOpen", "()V"⟩, 9), (⟨"BlockGraph", "mustBeVertex", "(I)V"⟩, 9), (⟨"BlockGraph", "mustHaveRoomForOperation", "()V"⟩, 9), (⟨"BlockGraph", "operate", "(IIII)V"⟩, 9), (⟨"BlockGraph", "mustBeVisible", "(I)V"⟩, 9), (⟨"BlockGraph$Store", "writeLog", "(LBlockGraph$Operations;I)Z"⟩, 6)]
theorem lw_r1 : ∀ q ∈ lw_privs_1, lw_okq q := List.forall_mem_cons.mpr ⟨lw_p0, List.forall_mem_cons.mpr ⟨lw_p1, List.forall_mem_cons.mpr ⟨lw_p2, List.forall_mem_cons.mpr ⟨lw_p3, List.forall_mem_cons.mpr ⟨lw_p4, List.forall_mem_cons.mpr ⟨lw_p5, List.forall_mem_cons.mpr ⟨lw_p6, List.forall_mem_cons.mpr ⟨lw_p7, List.forall_mem_cons.mpr ⟨lw_p8, List.forall_mem_cons.mpr ⟨lw_p9, List.forall_mem_cons.mpr ⟨lw_p10, List.forall_mem_cons.mpr ⟨lw_p11, List.forall_mem_cons.mpr ⟨lw_p12, List.forall_mem_cons.mpr ⟨lw_p13, List.forall_mem_cons.mpr ⟨lw_p14, List.forall_mem_cons.mpr ⟨lw_p15, fun _ h => absurd h List.not_mem_nil⟩⟩⟩⟩⟩⟩⟩⟩⟩⟩⟩⟩⟩⟩⟩⟩
theorem lw_p16 : lw_okq (⟨"BlockGraph$Ways", "shorten", "(LBlockGraph$EdgeTable;)Z"⟩, 4) := ⟨⟨by decide +kernel, by decide +kernel⟩, List.mem_of_getElem? (i := 149) (by decide +kernel), List.mem_of_getElem? (i := 550) (by decide +kernel), List.mem_of_getElem? (i := 551) (by decide +kernel)⟩
theorem lw_p17 : lw_okq (⟨"BlockGraph$Ways", "leadsOn", "(LBlockGraph$EdgeTable;I)Z"⟩, 4) := ⟨⟨by decide +kernel, by decide +kernel⟩, List.mem_of_getElem? (i := 149) (by decide +kernel), List.mem_of_getElem? (i := 554) (by decide +kernel), List.mem_of_getElem? (i := 555) (by decide +kernel)⟩
theorem lw_p18 : lw_okq (⟨"BlockGraph$Ways", "chooseParents", "(LBlockGraph$EdgeTable;)V"⟩, 4) := ⟨⟨by decide +kernel, by decide +kernel⟩, List.mem_of_getElem? (i := 149) (by decide +kernel), List.mem_of_getElem? (i := 559) (by decide +kernel), List.mem_of_getElem? (i := 560) (by decide +kernel)⟩
theorem lw_p19 : lw_okq (⟨"BlockGraph$Ways", "countReached", "()I"⟩, 4) := ⟨⟨by decide +kernel, by decide +kernel⟩, List.mem_of_getElem? (i := 149) (by decide +kernel), List.mem_of_getElem? (i := 563) (by decide +kernel), List.mem_of_getElem? (i := 564) (by decide +kernel)⟩
theorem lw_p20 : lw_okq (⟨"BlockGraph", "mustHaveWayTo", "(I)V"⟩, 9) := ⟨⟨by decide +kernel, by decide +kernel⟩, List.mem_of_getElem? (i := 21) (by decide +kernel), List.mem_of_getElem? (i := 574) (by decide +kernel), List.mem_of_getElem? (i := 575) (by decide +kernel)⟩
theorem lw_p21 : lw_okq (⟨"BlockGraphModel", "clear", "()V"⟩, 23) := ⟨⟨by decide +kernel, by decide +kernel⟩, List.mem_of_getElem? (i := 634) (by decide +kernel), List.mem_of_getElem? (i := 640) (by decide +kernel), List.mem_of_getElem? (i := 641) (by decide +kernel)⟩
theorem lw_p22 : lw_okq (⟨"BlockGraphModel", "untouch", "()V"⟩, 23) := ⟨⟨by decide +kernel, by decide +kernel⟩, List.mem_of_getElem? (i := 634) (by decide +kernel), List.mem_of_getElem? (i := 723) (by decide +kernel), List.mem_of_getElem? (i := 724) (by decide +kernel)⟩
theorem lw_p23 : lw_okq (⟨"BlockGraphModel", "isWritten", "()Z"⟩, 23) := ⟨⟨by decide +kernel, by decide +kernel⟩, List.mem_of_getElem? (i := 634) (by decide +kernel), List.mem_of_getElem? (i := 727) (by decide +kernel), List.mem_of_getElem? (i := 728) (by decide +kernel)⟩
theorem lw_p24 : lw_okq (⟨"BlockGraphModel", "isFormatted", "()Z"⟩, 23) := ⟨⟨by decide +kernel, by decide +kernel⟩, List.mem_of_getElem? (i := 634) (by decide +kernel), List.mem_of_getElem? (i := 731) (by decide +kernel), List.mem_of_getElem? (i := 732) (by decide +kernel)⟩
theorem lw_p25 : lw_okq (⟨"BlockGraphModel", "isNew", "(I)Z"⟩, 23) := ⟨⟨by decide +kernel, by decide +kernel⟩, List.mem_of_getElem? (i := 634) (by decide +kernel), List.mem_of_getElem? (i := 735) (by decide +kernel), List.mem_of_getElem? (i := 736) (by decide +kernel)⟩
theorem lw_p26 : lw_okq (⟨"BlockGraphModel", "isDown", "()Z"⟩, 23) := ⟨⟨by decide +kernel, by decide +kernel⟩, List.mem_of_getElem? (i := 634) (by decide +kernel), List.mem_of_getElem? (i := 743) (by decide +kernel), List.mem_of_getElem? (i := 744) (by decide +kernel)⟩
theorem lw_p27 : lw_okq (⟨"BlockGraphModel", "visible", "()I"⟩, 23) := ⟨⟨by decide +kernel, by decide +kernel⟩, List.mem_of_getElem? (i := 634) (by decide +kernel), List.mem_of_getElem? (i := 754) (by decide +kernel), List.mem_of_getElem? (i := 755) (by decide +kernel)⟩
theorem lw_p28 : lw_okq (⟨"BlockGraphModel", "isVisible", "(I)Z"⟩, 23) := ⟨⟨by decide +kernel, by decide +kernel⟩, List.mem_of_getElem? (i := 634) (by decide +kernel), List.mem_of_getElem? (i := 762) (by decide +kernel), List.mem_of_getElem? (i := 763) (by decide +kernel)⟩
theorem lw_p29 : lw_okq (⟨"BlockGraphModel", "copy", "(II)V"⟩, 23) := ⟨⟨by decide +kernel, by decide +kernel⟩, List.mem_of_getElem? (i := 634) (by decide +kernel), List.mem_of_getElem? (i := 770) (by decide +kernel), List.mem_of_getElem? (i := 771) (by decide +kernel)⟩
theorem lw_p30 : lw_okq (⟨"BlockGraphModel", "isHome", "()Z"⟩, 23) := ⟨⟨by decide +kernel, by decide +kernel⟩, List.mem_of_getElem? (i := 634) (by decide +kernel), List.mem_of_getElem? (i := 774) (by decide +kernel), List.mem_of_getElem? (i := 775) (by decide +kernel)⟩
theorem lw_p31 : lw_okq (⟨"BlockGraphModel", "look", "(I)V"⟩, 23) := ⟨⟨by decide +kernel, by decide +kernel⟩, List.mem_of_getElem? (i := 634) (by decide +kernel), List.mem_of_getElem? (i := 794) (by decide +kernel), List.mem_of_getElem? (i := 795) (by decide +kernel)⟩
def lw_privs_2 : List (MethodName × Nat) := [(⟨"BlockGraph$Ways", "shorten", "(LBlockGraph$EdgeTable;)Z"⟩, 4), (⟨"BlockGraph$Ways", "leadsOn", "(LBlockGraph$EdgeTable;I)Z"⟩, 4), (⟨"BlockGraph$Ways", "chooseParents", "(LBlockGraph$EdgeTable;)V"⟩, 4), (⟨"BlockGraph$Ways", "countReached", "()I"⟩, 4), (⟨"BlockGraph", "mustHaveWayTo", "(I)V"⟩, 9), (⟨"BlockGraphModel", "clear", "()V"⟩, 23), (⟨"BlockGraphModel", "untouch", "()V"⟩, 23), (⟨"BlockGraphModel", "isWritten", "()Z"⟩, 23), (⟨"BlockGraphModel", "isFormatted", "()Z"⟩, 23), (⟨"BlockGraphModel", "isNew", "(I)Z"⟩, 23), (⟨"BlockGraphModel", "isDown", "()Z"⟩, 23), (⟨"BlockGraphModel", "visible", "()I"⟩, 23), (⟨"BlockGraphModel", "isVisible", "(I)Z"⟩, 23), (⟨"BlockGraphModel", "copy", "(II)V"⟩, 23), (⟨"BlockGraphModel", "isHome", "()Z"⟩, 23), (⟨"BlockGraphModel", "look", "(I)V"⟩, 23)]
theorem lw_r2 : ∀ q ∈ lw_privs_2, lw_okq q := List.forall_mem_cons.mpr ⟨lw_p16, List.forall_mem_cons.mpr ⟨lw_p17, List.forall_mem_cons.mpr ⟨lw_p18, List.forall_mem_cons.mpr ⟨lw_p19, List.forall_mem_cons.mpr ⟨lw_p20, List.forall_mem_cons.mpr ⟨lw_p21, List.forall_mem_cons.mpr ⟨lw_p22, List.forall_mem_cons.mpr ⟨lw_p23, List.forall_mem_cons.mpr ⟨lw_p24, List.forall_mem_cons.mpr ⟨lw_p25, List.forall_mem_cons.mpr ⟨lw_p26, List.forall_mem_cons.mpr ⟨lw_p27, List.forall_mem_cons.mpr ⟨lw_p28, List.forall_mem_cons.mpr ⟨lw_p29, List.forall_mem_cons.mpr ⟨lw_p30, List.forall_mem_cons.mpr ⟨lw_p31, fun _ h => absurd h List.not_mem_nil⟩⟩⟩⟩⟩⟩⟩⟩⟩⟩⟩⟩⟩⟩⟩⟩
theorem lw_p32 : lw_okq (⟨"BlockGraphModel", "faultOf", "(I)I"⟩, 23) := ⟨⟨by decide +kernel, by decide +kernel⟩, List.mem_of_getElem? (i := 634) (by decide +kernel), List.mem_of_getElem? (i := 810) (by decide +kernel), List.mem_of_getElem? (i := 811) (by decide +kernel)⟩
theorem lw_p33 : lw_okq (⟨"BlockGraphModel", "above", "(I)I"⟩, 23) := ⟨⟨by decide +kernel, by decide +kernel⟩, List.mem_of_getElem? (i := 634) (by decide +kernel), List.mem_of_getElem? (i := 818) (by decide +kernel), List.mem_of_getElem? (i := 819) (by decide +kernel)⟩
def lw_privs_3 : List (MethodName × Nat) := [(⟨"BlockGraphModel", "faultOf", "(I)I"⟩, 23), (⟨"BlockGraphModel", "above", "(I)I"⟩, 23)]
theorem lw_r3 : ∀ q ∈ lw_privs_3, lw_okq q := List.forall_mem_cons.mpr ⟨lw_p32, List.forall_mem_cons.mpr ⟨lw_p33, fun _ h => absurd h List.not_mem_nil⟩⟩
def lw_privs : List (MethodName × Nat) := lw_privs_1 ++ (lw_privs_2 ++ (lw_privs_3))
def lw_tbl : List Cond := k2_sels lw_privs ++ tables_1
theorem lw_privs_ok : ∀ q ∈ lw_privs, lw_okq q := by
  show ∀ q ∈ lw_privs_1 ++ (lw_privs_2 ++ (lw_privs_3)), lw_okq q
  exact List.forall_mem_append.mpr ⟨lw_r1, List.forall_mem_append.mpr ⟨lw_r2, lw_r3⟩⟩
def bgNO : Nat := 37
def bgMo : Nat := 27
def bgKinds : List (Nat ⊕ (Nat × Nat)) := [.inl 0, .inl 1, .inl 2, .inr (50, 0), .inl 3, .inl 4, .inr (20, 0), .inr (20, 0), .inr (20, 0), .inr (20, 0), .inl 5, .inr (200, 0), .inr (200, 0), .inr (200, 0), .inl 5, .inr (200, 0), .inr (200, 0), .inr (200, 0), .inl 4, .inr (20, 0), .inr (20, 0), .inr (20, 0), .inr (20, 0), .inl 6, .inr (64, 0), .inr (64, 0), .inr (64, 0), .inl 7, .inr (400, 0), .inr (400, 0), .inr (400, 0), .inr (50, 1), .inr (50, 1), .inr (51, 0), .inr (64, 0), .inr (64, 0), .inr (1, 2)]
theorem bgKinds_len : bgKinds.length = bgNO := by decide +kernel
theorem bgKinds_all : (bgKinds.all (fun q => match q with | .inl _ => true | .inr p => decide (p.1 ≤ 1000))) = true := by decide +kernel
theorem bgKinds_ok (n t : Nat) (h : (.inr (n, t) : Nat ⊕ (Nat × Nat)) ∈ bgKinds) : n ≤ 1000 := by
  have := List.all_eq_true.mp bgKinds_all _ h
  simpa using this
def bgRefs : List (List (Option Nat)) := [[some 1, some 2, some 4, some 14, some 18, some 23, none, none, none], [none, none], [some 3, none, none, none], [], [some 1, some 2, some 5, some 10, none, none], [some 6, some 7, some 8, some 9, none], [], [], [], [], [some 11, some 12, some 13, none], [], [], [], [some 15, some 16, some 17, none], [], [], [], [some 19, some 20, some 21, some 22, none], [], [], [], [], [some 24, some 25, some 26, none], [], [], [], [none, some 28, some 29, some 30, none, none, none, none, some 31, some 32, none, none, none, none, none, none, some 33, none, none, none, none, some 34, some 35], [], [], [], [], [], [], [], [], []]
def bgRef (k i : Nat) : Option Nat := (((bgRefs[k]?).getD [])[i]?).join
def R_bg : String := "BlockGraph"
def T_bg : u_T := fun k => match k with
  | 0 => ("BlockGraph", "power", "LBlockGraph$Power;", true)
  | 1 => ("BlockGraph", "hand", "LBlockGraph$Hand;", true)
  | 2 => ("BlockGraph", "store", "LBlockGraph$Store;", true)
  | 3 => ("BlockGraph", "visible", "LBlockGraph$EdgeTable;", true)
  | 4 => ("BlockGraph", "pending", "LBlockGraph$Operations;", true)
  | 5 => ("BlockGraph", "ways", "LBlockGraph$Ways;", true)
  | 6 => ("BlockGraph", "up", "Z", false)
  | 7 => ("BlockGraph", "open", "Z", false)
  | _ => ("BlockGraph", "known", "I", false)
def ty_bg : Nat → FieldType := fun k => match k with
  | 0 => .object "BlockGraph$Power"
  | 1 => .object "BlockGraph$Hand"
  | 2 => .object "BlockGraph$Store"
  | 3 => .object "BlockGraph$EdgeTable"
  | 4 => .object "BlockGraph$Operations"
  | 5 => .object "BlockGraph$Ways"
  | 6 => .boolean
  | 7 => .boolean
  | _ => .int
def R_pw : String := "BlockGraph$Power"
def T_pw : u_T := fun k => match k with
  | 0 => ("BlockGraph$Power", "left", "I", false)
  | _ => ("BlockGraph$Power", "writes", "I", false)
def ty_pw : Nat → FieldType := fun k => match k with
  | 0 => .int
  | _ => .int
def R_hd : String := "BlockGraph$Hand"
def T_hd : u_T := fun k => match k with
  | 0 => ("BlockGraph$Hand", "blocks", "[I", true)
  | 1 => ("BlockGraph$Hand", "size", "I", false)
  | 2 => ("BlockGraph$Hand", "reads", "I", false)
  | _ => ("BlockGraph$Hand", "most", "I", false)
def ty_hd : Nat → FieldType := fun k => match k with
  | 0 => .array .int
  | 1 => .int
  | 2 => .int
  | _ => .int
def R_so : String := "BlockGraph$Store"
def T_so : u_T := fun k => match k with
  | 0 => ("BlockGraph$Store", "power", "LBlockGraph$Power;", true)
  | 1 => ("BlockGraph$Store", "hand", "LBlockGraph$Hand;", true)
  | 2 => ("BlockGraph$Store", "log", "LBlockGraph$Operations;", true)
  | 3 => ("BlockGraph$Store", "home", "LBlockGraph$EdgeTable;", true)
  | 4 => ("BlockGraph$Store", "hasGraph", "Z", false)
  | _ => ("BlockGraph$Store", "committed", "I", false)
def ty_so : Nat → FieldType := fun k => match k with
  | 0 => .object "BlockGraph$Power"
  | 1 => .object "BlockGraph$Hand"
  | 2 => .object "BlockGraph$Operations"
  | 3 => .object "BlockGraph$EdgeTable"
  | 4 => .boolean
  | _ => .int
def R_op : String := "BlockGraph$Operations"
def T_op : u_T := fun k => match k with
  | 0 => ("BlockGraph$Operations", "edge", "[I", true)
  | 1 => ("BlockGraph$Operations", "from", "[I", true)
  | 2 => ("BlockGraph$Operations", "to", "[I", true)
  | 3 => ("BlockGraph$Operations", "weight", "[I", true)
  | _ => ("BlockGraph$Operations", "size", "I", false)
def ty_op : Nat → FieldType := fun k => match k with
  | 0 => .array .int
  | 1 => .array .int
  | 2 => .array .int
  | 3 => .array .int
  | _ => .int
def R_et : String := "BlockGraph$EdgeTable"
def T_et : u_T := fun k => match k with
  | 0 => ("BlockGraph$EdgeTable", "from", "[I", true)
  | 1 => ("BlockGraph$EdgeTable", "to", "[I", true)
  | 2 => ("BlockGraph$EdgeTable", "weight", "[I", true)
  | _ => ("BlockGraph$EdgeTable", "size", "I", false)
def ty_et : Nat → FieldType := fun k => match k with
  | 0 => .array .int
  | 1 => .array .int
  | 2 => .array .int
  | _ => .int
def R_wy : String := "BlockGraph$Ways"
def T_wy : u_T := fun k => match k with
  | 0 => ("BlockGraph$Ways", "distances", "[I", true)
  | 1 => ("BlockGraph$Ways", "parents", "[I", true)
  | 2 => ("BlockGraph$Ways", "before", "[I", true)
  | _ => ("BlockGraph$Ways", "fresh", "Z", false)
def ty_wy : Nat → FieldType := fun k => match k with
  | 0 => .array .int
  | 1 => .array .int
  | 2 => .array .int
  | _ => .boolean
def R_mo : String := "BlockGraphModel"
def T_mo : u_T := fun k => match k with
  | 0 => ("BlockGraphModel", "code", "I", false)
  | 1 => ("BlockGraphModel", "froms", "[I", true)
  | 2 => ("BlockGraphModel", "tos", "[I", true)
  | 3 => ("BlockGraphModel", "weights", "[I", true)
  | 4 => ("BlockGraphModel", "graph", "Z", false)
  | 5 => ("BlockGraphModel", "down", "Z", false)
  | 6 => ("BlockGraphModel", "open", "Z", false)
  | 7 => ("BlockGraphModel", "operations", "I", false)
  | 8 => ("BlockGraphModel", "touched", "[Z", true)
  | 9 => ("BlockGraphModel", "logged", "[Z", true)
  | 10 => ("BlockGraphModel", "full", "Z", false)
  | 11 => ("BlockGraphModel", "commits", "I", false)
  | 12 => ("BlockGraphModel", "uncounted", "I", false)
  | 13 => ("BlockGraphModel", "armed", "I", false)
  | 14 => ("BlockGraphModel", "writes", "I", false)
  | 15 => ("BlockGraphModel", "reads", "I", false)
  | 16 => ("BlockGraphModel", "hand", "[I", true)
  | 17 => ("BlockGraphModel", "hands", "I", false)
  | 18 => ("BlockGraphModel", "most", "I", false)
  | 19 => ("BlockGraphModel", "stale", "Z", false)
  | 20 => ("BlockGraphModel", "source", "I", false)
  | 21 => ("BlockGraphModel", "distances", "[I", true)
  | _ => ("BlockGraphModel", "way", "[I", true)
def ty_mo : Nat → FieldType := fun k => match k with
  | 0 => .int
  | 1 => .array .int
  | 2 => .array .int
  | 3 => .array .int
  | 4 => .boolean
  | 5 => .boolean
  | 6 => .boolean
  | 7 => .int
  | 8 => .array .boolean
  | 9 => .array .boolean
  | 10 => .boolean
  | 11 => .int
  | 12 => .int
  | 13 => .int
  | 14 => .int
  | 15 => .int
  | 16 => .array .int
  | 17 => .int
  | 18 => .int
  | 19 => .boolean
  | 20 => .int
  | 21 => .array .int
  | _ => .array .int
abbrev bgCl : List vw_C := [(R_bg, T_bg, 9), (R_pw, T_pw, 2), (R_hd, T_hd, 4), (R_so, T_so, 6), (R_op, T_op, 5), (R_et, T_et, 4), (R_wy, T_wy, 4), (R_mo, T_mo, 23)]
def bgNs (ci : Nat) : Nat := ([9, 2, 4, 6, 5, 4, 4, 23] : List Nat).getD ci 0
def bgRt : List (Option (Int × Int) ⊕ List (Option (Int × Int))) := [.inr [none, none, none, none, none, none, some (0, 1), some (0, 1), none], .inr [none, none], .inr [none, some (0, 50), none, some (1, 50)], .inl none, .inr [none, none, none, none, some (0, 1), none], .inr [none, none, none, none, some (0, 20)], .inl (some (-1, 199)), .inl (some (0, 63)), .inl (some (0, 63)), .inl none, .inr [none, none, none, none], .inl (some (0, 63)), .inl (some (0, 63)), .inl none, .inr [none, none, none, none], .inl (some (0, 63)), .inl (some (0, 63)), .inl none, .inr [none, none, none, none, some (0, 20)], .inl (some (-1, 199)), .inl (some (0, 63)), .inl (some (0, 63)), .inl none, .inr [none, none, none, some (0, 1)], .inl none, .inl none, .inl (some (0, 63))]
def bgXs : List String := ["java/lang/IllegalStateException", "java/lang/IllegalArgumentException", "java/lang/UnsupportedOperationException", "java/util/NoSuchElementException", "java/lang/IndexOutOfBoundsException"]
def bgNC : List (String × String) := [("BlockGraph", "java/lang/IllegalStateException"), ("BlockGraph$Power", "java/lang/IllegalStateException"), ("BlockGraph$Hand", "java/lang/IllegalStateException"), ("BlockGraph$Store", "java/lang/IllegalStateException"), ("BlockGraph$Operations", "java/lang/IllegalStateException"), ("BlockGraph$EdgeTable", "java/lang/IllegalStateException"), ("BlockGraph$Ways", "java/lang/IllegalStateException"), ("BlockGraphModel", "java/lang/IllegalStateException"), ("java/lang/IllegalArgumentException", "java/lang/IllegalStateException"), ("java/lang/UnsupportedOperationException", "java/lang/IllegalStateException"), ("java/util/NoSuchElementException", "java/lang/IllegalStateException"), ("java/lang/IndexOutOfBoundsException", "java/lang/IllegalStateException"), ("BlockGraph", "java/lang/IllegalArgumentException"), ("BlockGraph$Power", "java/lang/IllegalArgumentException"), ("BlockGraph$Hand", "java/lang/IllegalArgumentException"), ("BlockGraph$Store", "java/lang/IllegalArgumentException"), ("BlockGraph$Operations", "java/lang/IllegalArgumentException"), ("BlockGraph$EdgeTable", "java/lang/IllegalArgumentException"), ("BlockGraph$Ways", "java/lang/IllegalArgumentException"), ("BlockGraphModel", "java/lang/IllegalArgumentException"), ("java/lang/IllegalStateException", "java/lang/IllegalArgumentException"), ("java/lang/UnsupportedOperationException", "java/lang/IllegalArgumentException"), ("java/util/NoSuchElementException", "java/lang/IllegalArgumentException"), ("java/lang/IndexOutOfBoundsException", "java/lang/IllegalArgumentException"), ("BlockGraph", "java/lang/UnsupportedOperationException"), ("BlockGraph$Power", "java/lang/UnsupportedOperationException"), ("BlockGraph$Hand", "java/lang/UnsupportedOperationException"), ("BlockGraph$Store", "java/lang/UnsupportedOperationException"), ("BlockGraph$Operations", "java/lang/UnsupportedOperationException"), ("BlockGraph$EdgeTable", "java/lang/UnsupportedOperationException"), ("BlockGraph$Ways", "java/lang/UnsupportedOperationException"), ("BlockGraphModel", "java/lang/UnsupportedOperationException"), ("java/lang/IllegalStateException", "java/lang/UnsupportedOperationException"), ("java/lang/IllegalArgumentException", "java/lang/UnsupportedOperationException"), ("java/util/NoSuchElementException", "java/lang/UnsupportedOperationException"), ("java/lang/IndexOutOfBoundsException", "java/lang/UnsupportedOperationException"), ("BlockGraph", "java/util/NoSuchElementException"), ("BlockGraph$Power", "java/util/NoSuchElementException"), ("BlockGraph$Hand", "java/util/NoSuchElementException"), ("BlockGraph$Store", "java/util/NoSuchElementException"), ("BlockGraph$Operations", "java/util/NoSuchElementException"), ("BlockGraph$EdgeTable", "java/util/NoSuchElementException"), ("BlockGraph$Ways", "java/util/NoSuchElementException"), ("BlockGraphModel", "java/util/NoSuchElementException"), ("java/lang/IllegalStateException", "java/util/NoSuchElementException"), ("java/lang/IllegalArgumentException", "java/util/NoSuchElementException"), ("java/lang/UnsupportedOperationException", "java/util/NoSuchElementException"), ("java/lang/IndexOutOfBoundsException", "java/util/NoSuchElementException"), ("BlockGraph", "java/lang/IndexOutOfBoundsException"), ("BlockGraph$Power", "java/lang/IndexOutOfBoundsException"), ("BlockGraph$Hand", "java/lang/IndexOutOfBoundsException"), ("BlockGraph$Store", "java/lang/IndexOutOfBoundsException"), ("BlockGraph$Operations", "java/lang/IndexOutOfBoundsException"), ("BlockGraph$EdgeTable", "java/lang/IndexOutOfBoundsException"), ("BlockGraph$Ways", "java/lang/IndexOutOfBoundsException"), ("BlockGraphModel", "java/lang/IndexOutOfBoundsException"), ("java/lang/IllegalStateException", "java/lang/IndexOutOfBoundsException"), ("java/lang/IllegalArgumentException", "java/lang/IndexOutOfBoundsException"), ("java/lang/UnsupportedOperationException", "java/lang/IndexOutOfBoundsException"), ("java/util/NoSuchElementException", "java/lang/IndexOutOfBoundsException")]
theorem bgUn_lays : Cond.laysStatic "java/lang/Throwable" "UNASSIGNED_STACK" "[Ljava/lang/StackTraceElement;" ∈ lw_tbl := List.mem_of_getElem? (i := 366) (by decide +kernel)
theorem bgSe_lays : Cond.laysStatic "java/lang/Throwable" "SUPPRESSED_SENTINEL" "Ljava/util/List;" ∈ lw_tbl := List.mem_of_getElem? (i := 368) (by decide +kernel)
end
section
/-! ONE WORLD: all objects that the two constructors make, by number; every int of it by its place -/
abbrev bgV : Type := Int ⊕ (Nat ⊕ Int)
abbrev bi (v : Int) : bgV := Sum.inl v
abbrev br (k : Nat) : bgV := Sum.inr (Sum.inl k)
abbrev bl (v : Int) : bgV := Sum.inr (Sum.inr v)
abbrev bgW : Type := Nat → Int → Int
def bgU (w : bgW) (k : Nat) (i v : Int) : bgW := fun k' i' => if k' = k ∧ i' = i then v else w k' i'
def bgC (ad : Nat → Nat) (v : bgV) : Value := match v with
  | .inl x => .int (Int32.ofInt x)
  | .inr (.inl k) => .ref (ad k)
  | .inr (.inr x) => .long (Int64.ofInt x)
def bgVal (ad : Nat → Nat) (w : bgW) (k i : Nat) : Value := match bgRef k i with
  | some j => .ref (ad j)
  | none => .int (Int32.ofInt (w k (i : Int)))
def bgE (cA : Nat → ClassId) (ad : Nat → Nat) (w : bgW) (k : Nat) : va_E := match bgKinds[k]? with
  | some (.inl ci) => .inr (ci, (List.range (bgNs ci)).map (bgVal ad w k))
  | some (.inr (n, t)) => if t = 2 then .inl (cA 2, n, .inr (.inl (fun j => Int64.ofInt (w k (j : Int))))) else .inl (cA t, n, .inl (fun j => Int32.ofInt (w k (j : Int))))
  | none => .inr (0, [])
section BG1
variable {cA : Nat → ClassId} {ad : Nat → Nat} {w w' : bgW} {k n t ci : Nat}
theorem bgE_obj (hk : bgKinds[k]? = some (.inl ci)) : bgE cA ad w k = .inr (ci, (List.range (bgNs ci)).map (bgVal ad w k)) := by
  unfold bgE; rw [hk]
theorem bgE_arr (hk : bgKinds[k]? = some (.inr (n, t))) (ht : t ≠ 2) : bgE cA ad w k = .inl (cA t, n, .inl (fun j => Int32.ofInt (w k (j : Int)))) := by
  unfold bgE; rw [hk]; exact if_neg ht
theorem bgE_lon (hk : bgKinds[k]? = some (.inr (n, 2))) : bgE cA ad w k = .inl (cA 2, n, .inr (.inl (fun j => Int64.ofInt (w k (j : Int))))) := by
  unfold bgE; rw [hk]; exact if_pos rfl
theorem bgE_same (h : ∀ i, w' k i = w k i) : bgE cA ad w' k = bgE cA ad w k := by
  have e : w' k = w k := funext h
  have hv : bgVal ad w' k = bgVal ad w k := by
    funext i
    unfold bgVal
    rw [e]
  unfold bgE
  rw [hv, e]
end BG1
def bgL (cA : Nat → ClassId) (ad : Nat → Nat) (w : bgW) : va_W := (List.range bgNO).map (fun k => (ad k, bgE cA ad w k))
section BG2
variable {cA : Nat → ClassId} {ad : Nat → Nat} {w w' : bgW} {k : Nat} {A : Nat → Prop}
theorem bgL_at (h : k < bgNO) : (bgL cA ad w)[k]? = some (ad k, bgE cA ad w k) := by
  unfold bgL
  rw [List.getElem?_map, List.getElem?_range h]
  rfl
theorem bgL_len : (bgL cA ad w).length = bgNO := by simp [bgL]
theorem bgL_get {q : Nat × va_E} (h : (bgL cA ad w)[k]? = some q) : k < bgNO ∧ q = (ad k, bgE cA ad w k) := by
  have hk : k < bgNO := by
    have := (List.getElem?_eq_some_iff.mp h).1
    rwa [bgL_len] at this
  refine ⟨hk, ?_⟩
  rw [bgL_at hk] at h
  exact (Option.some.inj h).symm
theorem bgL_set (hk : k < bgNO) (h : ∀ k' i, k' ≠ k → w' k' i = w k' i) : (bgL cA ad w).set k (ad k, bgE cA ad w' k) = bgL cA ad w' := by
  apply List.ext_getElem?
  intro j
  by_cases hj : j = k
  · subst hj
    rw [List.getElem?_set_self (by rw [bgL_len]; exact hk), bgL_at hk]
  · rw [List.getElem?_set_ne (fun q => hj q.symm)]
    by_cases hl : j < bgNO
    · rw [bgL_at hl, bgL_at hl, bgE_same (w := w) (w' := w') (fun i => h j i hj)]
    · rw [List.getElem?_eq_none (by rw [bgL_len]; omega), List.getElem?_eq_none (by rw [bgL_len]; omega)]
/-- the addresses are apart, and of a kind -/
def bgDs (A : Nat → Prop) (ad : Nat → Nat) : Prop := (∀ i j, i < bgNO → j < bgNO → ad i = ad j → i = j) ∧ ∀ k, k < bgNO → A (ad k)
theorem bgDs.to (h : bgDs A ad) : va_D A (bgL cA ad w) := by
  refine ⟨fun i j p q hi hj e => ?_, fun k q hk => ?_⟩
  · obtain ⟨h1, rfl⟩ := bgL_get hi
    obtain ⟨h2, rfl⟩ := bgL_get hj
    exact h.1 i j h1 h2 e
  · obtain ⟨h1, rfl⟩ := bgL_get hk
    exact h.2 k h1
end BG2
theorem bgU_ne {w : bgW} {k k' : Nat} {i v : Int} (j : Int) (h : k' ≠ k) : bgU w k i v k' j = w k' j := by
  unfold bgU
  rw [if_neg (fun q => h q.1)]
theorem bgU_nei {w : bgW} {k k' : Nat} {i v j : Int} (h : j ≠ i) : bgU w k i v k' j = w k' j := by
  unfold bgU
  rw [if_neg (fun q => h q.2)]
theorem bgU_eq {w : bgW} {k : Nat} {i v : Int} : bgU w k i v k i = v := by
  unfold bgU
  rw [if_pos ⟨rfl, rfl⟩]
/-! the context of a method's walk: what is the same in the whole run, then what is the walk's own -/
abbrev bgGl : Type := Launch × (Nat → Nat) × (Nat → ClassId) × va_G × State
abbrev bgK : Type := bgGl × (Program × Env × Room × State × MethodId × Array Value × List Frame × Method × Code)
abbrev kL (K : bgK) : Launch := K.1.1
abbrev kAd (K : bgK) : Nat → Nat := K.1.2.1
abbrev kCA (K : bgK) : Nat → ClassId := K.1.2.2.1
abbrev kD (K : bgK) : va_G := K.1.2.2.2.1
abbrev kZ (K : bgK) : State := K.1.2.2.2.2
abbrev kP (K : bgK) : Program := K.2.1
abbrev kE (K : bgK) : Env := K.2.2.1
abbrev kR (K : bgK) : Room := K.2.2.2.1
abbrev kS (K : bgK) : State := K.2.2.2.2.1
abbrev kM (K : bgK) : MethodId := K.2.2.2.2.2.1
abbrev kA (K : bgK) : Array Value := K.2.2.2.2.2.2.1
abbrev kB (K : bgK) : List Frame := K.2.2.2.2.2.2.2.1
abbrev kMe (K : bgK) : Method := K.2.2.2.2.2.2.2.2.1
abbrev kC (K : bgK) : Code := K.2.2.2.2.2.2.2.2.2
abbrev bgA (G : bgGl) : Nat → Prop := fun q => G.2.2.2.2.heap.size ≤ q
abbrev bgT (cA : Nat → ClassId) : List (ClassId × FieldType) := [(cA 0, .int), (cA 1, .boolean), (cA 2, .long)]
/-! locals by their places -/
def bgLoc (ad : Nat → Nat) (ls : Array Slot) (L : List (Option bgV)) : Prop := ls.size = L.length ∧ lv_wf ls ∧ ∀ (i : Nat) (v : bgV), L[i]? = some (some v) → ls[i]? = some (.val (bgC ad v)) ∧ (bgC ad v).category = 1
def bgAs (ad : Nat → Nat) (L : List (Option bgV)) : List (Nat × Value) := (List.range L.length).filterMap (fun i => match L[i]? with
  | some (some v) => some (i, bgC ad v)
  | _ => none)
theorem bgAs_mem {ad : Nat → Nat} {L : List (Option bgV)} {q : Nat × Value} : q ∈ bgAs ad L ↔ ∃ v, L[q.1]? = some (some v) ∧ q.2 = bgC ad v := by
  constructor
  · intro h
    obtain ⟨i, hi, he⟩ := List.mem_filterMap.mp h
    cases hL : L[i]? with
    | none => exact absurd he (by simp [hL])
    | some o =>
      cases o with
      | none => exact absurd he (by simp [hL])
      | some v =>
        have he' : some (i, bgC ad v) = some q := by simpa [hL] using he
        cases he'
        exact ⟨v, hL, rfl⟩
  · rintro ⟨v, h1, h2⟩
    refine List.mem_filterMap.mpr ⟨q.1, List.mem_range.mpr (List.getElem?_eq_some_iff.mp h1).1, ?_⟩
    obtain ⟨a, b⟩ := q
    dsimp only at h1 h2 ⊢
    rw [h1, h2]
theorem bgLoc.has {ad : Nat → Nat} {ls : Array Slot} {L : List (Option bgV)} (h : bgLoc ad ls L) : lv_has ls L.length (bgAs ad L) := by
  refine ⟨h.1, h.2.1, fun q hq => ?_⟩
  obtain ⟨v, h1, h2⟩ := bgAs_mem.mp hq
  rw [h2]
  exact (h.2.2 q.1 v h1).1
theorem bgLoc.set {ad : Nat → Nat} {ls ls' : Array Slot} {L : List (Option bgV)} (h : bgLoc ad ls L) {i : Nat} (hi : i < L.length) {v : bgV} (hc : (bgC ad v).category = 1)
    (h' : lv_has ls' L.length ((i, bgC ad v) :: (bgAs ad L).filter (fun q => !(q.1 == i) && !(q.1 + 1 == i && q.2.category == 2)))) : bgLoc ad ls' (L.set i (some v)) := by
  refine ⟨by rw [List.length_set]; exact h'.1, h'.2.1, fun j u hu => ?_⟩
  by_cases hj : j = i
  · subst hj
    rw [List.getElem?_set_self hi] at hu
    cases hu
    exact ⟨h'.2.2 _ List.mem_cons_self, hc⟩
  · rw [List.getElem?_set_ne (fun q => hj q.symm)] at hu
    obtain ⟨a, b⟩ := h.2.2 j u hu
    refine ⟨h'.2.2 (j, bgC ad u) (List.mem_cons_of_mem _ (List.mem_filter.mpr ⟨bgAs_mem.mpr ⟨u, hu, rfl⟩, ?_⟩)), b⟩
    simp [hj, b]
theorem bg_args_mem : ∀ (vs : List Value) (i j : Nat) (v : Value), (∀ u ∈ vs, u.category = 1) → vs[j]? = some v → (i + j, v) ∈ lv_args i vs
  | [], _, _, _, _, h => by simp at h
  | u :: vs, i, 0, v, hc, h => by
    have e : u = v := by simpa using h
    subst e
    exact List.mem_cons_self
  | u :: vs, i, j + 1, v, hc, h => by
    have h1 : ¬ u.category = 2 := by
      have := hc u List.mem_cons_self
      omega
    have h2 := bg_args_mem vs (i + 1) j v (fun x hx => hc x (List.mem_cons_of_mem _ hx)) (by simpa using h)
    show (i + (j + 1), v) ∈ (i, u) :: lv_args (if u.category = 2 then i + 2 else i + 1) vs
    rw [if_neg h1, show i + (j + 1) = i + 1 + j by omega]
    exact List.mem_cons_of_mem _ h2
theorem bg_sl : ∀ (vs : List Value), (∀ u ∈ vs, u.category = 1) → (lg_sl vs).length = vs.length
  | [], _ => rfl
  | u :: vs, hc => by
    have h1 : ¬ u.category = 2 := by
      have := hc u List.mem_cons_self
      omega
    have ih := bg_sl vs (fun x hx => hc x (List.mem_cons_of_mem _ hx))
    have e : lg_sl (u :: vs) = [Slot.val u] ++ lg_sl vs := by simp [lg_sl, h1]
    rw [e, List.length_append, ih, List.length_cons, List.length_cons, List.length_nil]
    omega
theorem bgLoc.entry {ad : Nat → Nat} (av : List bgV) (n : Nat) (hc : ∀ v ∈ av, (bgC ad v).category = 1) (hn : av.length ≤ n) :
    bgLoc ad ((lg_sl (av.map (bgC ad)) ++ List.replicate (n - (lg_sl (av.map (bgC ad))).length) Slot.unset).toArray) (av.map some ++ List.replicate (n - av.length) none) := by
  have hc' : ∀ u ∈ av.map (bgC ad), u.category = 1 := by
    intro u hu
    obtain ⟨v, hv, rfl⟩ := List.mem_map.mp hu
    exact hc v hv
  have hb := lv_entry (av.map (bgC ad)) (n := n) (by rw [bg_sl _ hc', List.length_map]; exact hn)
  refine ⟨?_, hb.2.1, fun i v hv => ?_⟩
  · rw [hb.1, List.length_append, List.length_map, List.length_replicate]
    omega
  · rcases Nat.lt_or_ge i av.length with hi | hi
    · rw [List.getElem?_append_left (by rw [List.length_map]; exact hi), List.getElem?_map] at hv
      cases ha : av[i]? with
      | none => rw [ha] at hv; cases hv
      | some u =>
        rw [ha] at hv
        cases hv
        have hm := bg_args_mem (av.map (bgC ad)) 0 i (bgC ad v) hc' (by rw [List.getElem?_map, ha]; rfl)
        have h3 := hb.2.2 _ hm
        rw [show (0 + i, bgC ad v).1 = i by simp] at h3
        exact ⟨h3, hc v (List.mem_of_getElem? ha)⟩
    · rw [List.getElem?_append_right (by rw [List.length_map]; exact hi)] at hv
      have := List.eq_of_mem_replicate (List.mem_of_getElem? hv)
      cases this
/-! words of the tables, as they hold later in the run -/
def bgOkW (w : Cond) : Bool := (w.onTables && w.keeps) || match w with
  | .arrayClass _ => true
  | .methodLinkNest .. => true
  | .declares _ => true
  | .castable .. => true
  | _ => false
theorem bg_word {w : Cond} (hk : bgOkW w = true) {A A' : Array Value} {s U : State} (hW : s.WarmedH U.vm) (h : w.before A s = true) : w.before A' U = true := by
  by_cases hg : (w.onTables && w.keeps) = true
  · exact word_at hW (Or.inl hg) h
  · have hk2 := hk
    unfold bgOkW at hk2
    rw [Bool.not_eq_true] at hg
    rw [hg, Bool.false_or] at hk2
    cases w with
    | arrayClass ty => exact word_at hW (Or.inr ⟨ty, rfl⟩) h
    | methodLinkNest a i x hh => exact va_Nw.use rfl (va_Nw.warmM hW (va_Nw.of rfl h))
    | declares x => exact va_Nw.use rfl (va_Nw.warmD hW (va_Nw.of rfl h))
    | castable a b => exact va_Nw.use rfl (va_Nw.warmC hW (va_Nw.of rfl h))
    | _ => cases hk2
def bgTs : List Cond := lw_tbl.filter bgOkW
theorem bg_tw {w : Cond} (n : Nat) (h : lw_tbl[n]? = some w) (hk : bgOkW w = true) : w ∈ bgTs := List.mem_filter.mpr ⟨List.mem_of_getElem? h, hk⟩
/-- a static's words, as they hold later -/
theorem bg_laysStatic {A A' : Array Value} {s U : State} {o n d : String} (hW : s.WarmedH U.vm) (hh : ∀ q, q < s.heap.size → U.heap[q]? = s.heap[q]?) (h : (Cond.laysStatic o n d).before A s = true) : (Cond.laysStatic o n d).before A' U = true := by
  obtain ⟨c, k, i, f, a, cell, h1, h2, h3, h4, h5, h6, h7, h8, h9⟩ := Cond.laysStatic_spec h
  obtain ⟨k', hi', he⟩ := State.fieldFound?_setVm hW.alike h2
  have hi2 : U.fieldFound? o n d = some (c, k', i, f) := hi'
  have hc2 : U.vm.findClass o = some c := by rw [hW.alike.findClass]; exact h1
  have hs2 : k'.statics = some a := by rw [he]; exact h4
  have ht2 : k'.staticTypes[f.slot]? = some f.type := by rw [he]; exact h9
  have hc5 : U.heap[a]? = some cell := by rw [hh a (Array.getElem?_eq_some_iff.mp h5).1]; exact h5
  simp [Cond.before, Cond.holds, Cond.value, hi2, hc2, hs2, hc5, h3, h6, h7, h8, ht2]
theorem bg_isRef {A A' : Array Value} {s U : State} {o n d : String} (hW : s.WarmedH U.vm) (hh : ∀ q, q < s.heap.size → U.heap[q]? = s.heap[q]?) (hl : (Cond.laysStatic o n d).before A s = true) (h : (Cond.isRef (.static o n d)).before A s = true) : (Cond.isRef (.static o n d)).before A' U = true := by
  obtain ⟨c, k, i, f, a, cell, h1, h2, h3, h4, h5, h6, h7, h8, h9⟩ := Cond.laysStatic_spec hl
  cases hv : (Term.static o n d).eval A s none [] s with
  | none => simp [Cond.before, Cond.holds, Cond.value, hv] at h
  | some v =>
    obtain ⟨-, a', cell', ha', hcell', -, hslot⟩ := Term.static_spec h2 hv
    cases h4.symm.trans ha'
    cases h5.symm.trans hcell'
    obtain ⟨k', hi', he⟩ := State.fieldFound?_setVm hW.alike h2
    have hi2 : U.fieldFound? o n d = some (c, k', i, f) := hi'
    have hs2 : k'.statics = some a := by rw [he]; exact h4
    have hc5 : U.heap[a]? = some cell := by rw [hh a (Array.getElem?_eq_some_iff.mp h5).1]; exact h5
    have hv2 : (Term.static o n d).eval A' U none [] U = some v := by
      simp [Term.eval, State.fieldNamed?, hi2, h3, hs2, hc5, h6, hslot]
    simp only [Cond.before, Cond.holds, Cond.value, hv, hv2] at h ⊢
    exact h
/-! what a state of the run is -/
def bgS (G : bgGl) (w : bgW) (U : State) : Prop := va_P G.2.2.2.1 bgCl (bgL G.2.2.1 G.2.1 w) U.heap ∧ G.2.2.2.2.WarmedH U.vm ∧ G.2.2.2.2.heap.size ≤ U.heap.size ∧ ∀ q, q < G.2.2.2.2.heap.size → U.heap[q]? = G.2.2.2.2.heap[q]?
abbrev bgUn : Cond := .isRef (.static "java/lang/Throwable" "UNASSIGNED_STACK" "[Ljava/lang/StackTraceElement;")
abbrev bgSe : Cond := .isRef (.static "java/lang/Throwable" "SUPPRESSED_SENTINEL" "Ljava/util/List;")
/-- what the run's start gives -/
def bgOk (G : bgGl) : Prop := G.1.stackTraces = false ∧ bgDs (bgA G) G.2.1 ∧ va_K G.2.2.2.1 bgCl (bgT G.2.2.1) G.2.2.2.2 ∧ (∀ w ∈ lw_tbl, w.before #[] G.2.2.2.2 = true) ∧ bgUn.before #[] G.2.2.2.2 = true ∧ bgSe.before #[] G.2.2.2.2 = true ∧ ∀ q ∈ bgNC, va_Nc q.1 q.2 G.2.2.2.2
theorem bgS.calling {G : bgGl} {w : bgW} {U : State} {g : JFrame} {mk : MethodId} {a : Array Value} (h : bgS G w U) : bgS G w (U.calling g mk a) := h
def bgCx (K : bgK) (own : String) (cc : ByteArray) (nL : Nat) (rt : Option FieldType) : Prop :=
  (kP K).tables.exec = Jvm.exec ∧ (kC K).code = cc ∧ (kC K).maxLocals = nL ∧ (kS K).vm.findClass own = some (kM K).cls ∧ (kMe K).sig.returnType = rt ∧ (kMe K).locks = false ∧ bgOk K.1 ∧ (∃ w, bgS K.1 w (kS K)) ∧ ∀ w ∈ bgTs, w.before (kA K) (kS K) = true
section BG3
variable {K : bgK} {own : String} {cc : ByteArray} {nL : Nat} {rt : Option FieldType}
theorem bgCx.hx (C : bgCx K own cc nL rt) : (kP K).tables.exec = Jvm.exec := C.1
theorem bgCx.hb (C : bgCx K own cc nL rt) : (kC K).code = cc := C.2.1
theorem bgCx.hml (C : bgCx K own cc nL rt) : (kC K).maxLocals = nL := C.2.2.1
theorem bgCx.hown (C : bgCx K own cc nL rt) : (kS K).vm.findClass own = some (kM K).cls := C.2.2.2.1
theorem bgCx.hr (C : bgCx K own cc nL rt) : (kMe K).sig.returnType = rt := C.2.2.2.2.1
theorem bgCx.hlk (C : bgCx K own cc nL rt) : (kMe K).locks = false := C.2.2.2.2.2.1
theorem bgCx.ok (C : bgCx K own cc nL rt) : bgOk K.1 := C.2.2.2.2.2.2.1
theorem bgCx.hs (C : bgCx K own cc nL rt) : ∃ w, bgS K.1 w (kS K) := C.2.2.2.2.2.2.2.1
theorem bgCx.hts (C : bgCx K own cc nL rt) : ∀ w ∈ bgTs, w.before (kA K) (kS K) = true := C.2.2.2.2.2.2.2.2
theorem bgCx.hK (C : bgCx K own cc nL rt) : va_K (kD K) bgCl (bgT (kCA K)) (kS K) := by
  obtain ⟨w, -, hW, -⟩ := C.hs
  exact va_K.moved hW.alike C.ok.2.2.1
theorem bgCx.hD (C : bgCx K own cc nL rt) {w : bgW} : va_D (bgA K.1) (bgL (kCA K) (kAd K) w) := C.ok.2.1.to
end BG3
/-! THE JUDGEMENT ('b': nothing that was there at the method's start has been written): at pc, with these locals and this stack, in the world w, the machine comes to Q -/
def bgX (K : bgK) (b : Bool) (n z : Nat) (Q : State → Prop) (w : bgW) (pc : Nat) (L : List (Option bgV)) (st : List bgV) : Prop :=
  ∀ (H : Heap) (locs : List Loc) (ls : Array Slot), (b = true → locs = []) → va_P (kD K) bgCl (bgL (kCA K) (kAd K) w) H → va_S (bgA K.1) (kS K).heap H locs → bgLoc (kAd K) ls L →
    W (kP K) (kL K) (kE K) (kR K) (kS K) (kM K) (kA K) (kB K) (kMe K) (kC K) H locs n z Q (F0 (kM K) pc ls (st.map (bgC (kAd K))))
abbrev bgd (cc : ByteArray) (pc : Nat) (i : Instr) (n pc' : Nat) : Prop := decode cc pc = .ok (i, n) ∧ pc + n = pc'
abbrev bgr (a : Int) : Prop := -2147483648 ≤ a ∧ a ≤ 2147483647
theorem bgr_i {a : Int} (h : bgr a) : (Int32.ofInt a).toInt = a := Int32.toInt_ofInt_of_le (by omega) (by omega)
theorem bgr_eq {a b : Int} (ha : bgr a) (hb : bgr b) : Int32.ofInt a = Int32.ofInt b ↔ a = b := by
  rw [← Int32.toInt_inj, bgr_i ha, bgr_i hb]
theorem bgr_lt {a b : Int} (ha : bgr a) (hb : bgr b) : Int32.ofInt a < Int32.ofInt b ↔ a < b := by
  rw [Int32.lt_iff_toInt_lt, bgr_i ha, bgr_i hb]
theorem bgr_le {a b : Int} (ha : bgr a) (hb : bgr b) : Int32.ofInt a ≤ Int32.ofInt b ↔ a ≤ b := by
  rw [Int32.le_iff_toInt_le, bgr_i ha, bgr_i hb]
theorem bgr_0 : bgr 0 := by omega
theorem bgr_z : Int32.ofInt 0 = 0 := rfl
theorem bgr_nat {a : Int} (h0 : 0 ≤ a) (h : a ≤ 2147483647) : (Int32.ofInt a).toNatClampNeg = a.toNat := by
  show (Int32.ofInt a).toInt.toNat = a.toNat
  rw [bgr_i ⟨by omega, h⟩]
theorem bgr_in {a : Int} {n : Nat} (h0 : 0 ≤ a) (h1 : a < n) (hn : n ≤ 100000) : vp_in (Int32.ofInt a) n := by
  intro q
  rcases q with q | q
  · rw [← bgr_z, bgr_lt ⟨by omega, by omega⟩ bgr_0] at q
    omega
  · rw [bgr_nat h0 (by omega)] at q
    omega
section BGR
variable {K : bgK} {own : String} {cc : ByteArray} {nL : Nat} {rt : Option FieldType} {bb : Bool} {n z : Nat} {Q : State → Prop} {w : bgW} {pc pc' : Nat} {L : List (Option bgV)} {st : List bgV}
theorem bg_iconst (C : bgCx K own cc nL rt) {k : Int} (hd : bgd cc pc (.iconst k) 1 pc') (kk : bgX K bb n z Q w pc' L (bi k :: st)) : bgX K bb n z Q w pc L st := by
  obtain ⟨h1, rfl⟩ := hd
  intro H locs ls hlb hP hS hl
  exact lv_iconst C.hx C.hb h1 rfl (kk H locs ls hlb hP hS hl)
theorem bg_bipush (C : bgCx K own cc nL rt) {k : Int} (hd : bgd cc pc (.bipush k) 2 pc') (hv : (Int8.ofInt k).toInt32 = Int32.ofInt k) (kk : bgX K bb n z Q w pc' L (bi k :: st)) : bgX K bb n z Q w pc L st := by
  obtain ⟨h1, rfl⟩ := hd
  intro H locs ls hlb hP hS hl
  exact lv_bipush C.hx C.hb h1 hv (kk H locs ls hlb hP hS hl)
theorem bg_sipush (C : bgCx K own cc nL rt) {k : Int} (hd : bgd cc pc (.sipush k) 3 pc') (hv : (Int16.ofInt k).toInt32 = Int32.ofInt k) (kk : bgX K bb n z Q w pc' L (bi k :: st)) : bgX K bb n z Q w pc L st := by
  obtain ⟨h1, rfl⟩ := hd
  intro H locs ls hlb hP hS hl
  exact lv_sipush C.hx C.hb h1 hv (kk H locs ls hlb hP hS hl)
theorem bg_lconst (C : bgCx K own cc nL rt) {k : Fin 2} {v : Int} (hd : bgd cc pc (.lconst k) 1 pc') (hv : Int64.ofNat (k : Nat) = Int64.ofInt v) (kk : bgX K bb n z Q w pc' L (bl v :: st)) : bgX K bb n z Q w pc L st := by
  obtain ⟨h1, rfl⟩ := hd
  intro H locs ls hlb hP hS hl
  exact lv_lconst C.hx C.hb h1 hv (kk H locs ls hlb hP hS hl)
theorem bg_iload_n (C : bgCx K own cc nL rt) {k : Fin 4} {i : Nat} {v : Int} (hd : bgd cc pc (.iload_n k) 1 pc') (hi : (k : Nat) = i) (hv : L[i]? = some (some (bi v))) (kk : bgX K bb n z Q w pc' L (bi v :: st)) : bgX K bb n z Q w pc L st := by
  obtain ⟨h1, rfl⟩ := hd
  intro H locs ls hlb hP hS hl
  exact lv_iload_n C.hx C.hb h1 hi (hl.2.2 i _ hv).1 (kk H locs ls hlb hP hS hl)
theorem bg_iload (C : bgCx K own cc nL rt) {i : Nat} {v : Int} (hd : bgd cc pc (.iload i) 2 pc') (hv : L[i]? = some (some (bi v))) (kk : bgX K bb n z Q w pc' L (bi v :: st)) : bgX K bb n z Q w pc L st := by
  obtain ⟨h1, rfl⟩ := hd
  intro H locs ls hlb hP hS hl
  exact lv_iload C.hx C.hb h1 (hl.2.2 i _ hv).1 (kk H locs ls hlb hP hS hl)
theorem bg_aload_n (C : bgCx K own cc nL rt) {k : Fin 4} {i : Nat} {v : Nat} (hd : bgd cc pc (.aload_n k) 1 pc') (hi : (k : Nat) = i) (hv : L[i]? = some (some (br v))) (kk : bgX K bb n z Q w pc' L (br v :: st)) : bgX K bb n z Q w pc L st := by
  obtain ⟨h1, rfl⟩ := hd
  intro H locs ls hlb hP hS hl
  exact lv_aload_n C.hx C.hb h1 hi (hl.2.2 i _ hv).1 (kk H locs ls hlb hP hS hl)
theorem bg_aload (C : bgCx K own cc nL rt) {i : Nat} {v : Nat} (hd : bgd cc pc (.aload i) 2 pc') (hv : L[i]? = some (some (br v))) (kk : bgX K bb n z Q w pc' L (br v :: st)) : bgX K bb n z Q w pc L st := by
  obtain ⟨h1, rfl⟩ := hd
  intro H locs ls hlb hP hS hl
  exact lv_aload C.hx C.hb h1 (hl.2.2 i _ hv).1 (kk H locs ls hlb hP hS hl)
theorem bg_istore_n (C : bgCx K own cc nL rt) {k : Fin 4} {i : Nat} {v : Int} (hd : bgd cc pc (.istore_n k) 1 pc') (hi : (k : Nat) = i) (hL : i < L.length) (kk : bgX K bb n z Q w pc' (L.set i (some (bi v))) st) : bgX K bb n z Q w pc L (bi v :: st) := by
  obtain ⟨h1, rfl⟩ := hd
  intro H locs ls hlb hP hS hl
  exact lv_istore_n C.hx C.hb h1 hi hl.has hL rfl (fun ls' h' => kk H locs ls' hlb hP hS (hl.set hL (v := bi v) rfl h'))
theorem bg_istore (C : bgCx K own cc nL rt) {i : Nat} {v : Int} (hd : bgd cc pc (.istore i) 2 pc') (hL : i < L.length) (kk : bgX K bb n z Q w pc' (L.set i (some (bi v))) st) : bgX K bb n z Q w pc L (bi v :: st) := by
  obtain ⟨h1, rfl⟩ := hd
  intro H locs ls hlb hP hS hl
  exact lv_istore C.hx C.hb h1 hl.has hL rfl (fun ls' h' => kk H locs ls' hlb hP hS (hl.set hL (v := bi v) rfl h'))
theorem bg_astore_n (C : bgCx K own cc nL rt) {k : Fin 4} {i : Nat} {v : Nat} (hd : bgd cc pc (.astore_n k) 1 pc') (hi : (k : Nat) = i) (hL : i < L.length) (kk : bgX K bb n z Q w pc' (L.set i (some (br v))) st) : bgX K bb n z Q w pc L (br v :: st) := by
  obtain ⟨h1, rfl⟩ := hd
  intro H locs ls hlb hP hS hl
  exact lv_astore_n C.hx C.hb h1 hi hl.has hL rfl (fun ls' h' => kk H locs ls' hlb hP hS (hl.set hL (v := br v) rfl h'))
theorem bg_astore (C : bgCx K own cc nL rt) {i : Nat} {v : Nat} (hd : bgd cc pc (.astore i) 2 pc') (hL : i < L.length) (kk : bgX K bb n z Q w pc' (L.set i (some (br v))) st) : bgX K bb n z Q w pc L (br v :: st) := by
  obtain ⟨h1, rfl⟩ := hd
  intro H locs ls hlb hP hS hl
  exact lv_astore C.hx C.hb h1 hl.has hL rfl (fun ls' h' => kk H locs ls' hlb hP hS (hl.set hL (v := br v) rfl h'))
theorem bg_iinc (C : bgCx K own cc nL rt) {i : Nat} {c v : Int} (hd : bgd cc pc (.iinc i c) 3 pc') (hv : L[i]? = some (some (bi v))) (kk : bgX K bb n z Q w pc' (L.set i (some (bi (v + c)))) st) : bgX K bb n z Q w pc L st := by
  obtain ⟨h1, rfl⟩ := hd
  intro H locs ls hlb hP hS hl
  have hL : i < L.length := (List.getElem?_eq_some_iff.mp hv).1
  obtain ⟨j, hj⟩ := List.getElem?_of_mem (bgAs_mem (ad := kAd K) (L := L) (q := (i, bgC (kAd K) (bi v))) |>.mpr ⟨bi v, hv, rfl⟩)
  exact lv_iinc (k := j) C.hx C.hb h1 hl.has hj (v := Int32.ofInt (v + c)) (by rw [Int32.ofInt_add]) hL rfl (fun ls' h' => kk H locs ls' hlb hP hS (hl.set hL (v := bi (v + c)) rfl h'))
theorem bg_iadd (C : bgCx K own cc nL rt) {a b : Int} (hd : bgd cc pc .iadd 1 pc') (kk : bgX K bb n z Q w pc' L (bi (a + b) :: st)) : bgX K bb n z Q w pc L (bi b :: bi a :: st) := by
  obtain ⟨h1, rfl⟩ := hd
  intro H locs ls hlb hP hS hl
  have k1 := kk H locs ls hlb hP hS hl
  refine lv_iadd C.hx C.hb h1 ?_
  rw [← Int32.ofInt_add]
  exact k1
theorem bg_isub (C : bgCx K own cc nL rt) {a b : Int} (hd : bgd cc pc .isub 1 pc') (kk : bgX K bb n z Q w pc' L (bi (a - b) :: st)) : bgX K bb n z Q w pc L (bi b :: bi a :: st) := by
  obtain ⟨h1, rfl⟩ := hd
  intro H locs ls hlb hP hS hl
  have k1 := kk H locs ls hlb hP hS hl
  refine lv_isub C.hx C.hb h1 ?_
  rw [← Int32.ofInt_sub]
  exact k1
theorem bg_imul (C : bgCx K own cc nL rt) {a b : Int} (hd : bgd cc pc .imul 1 pc') (kk : bgX K bb n z Q w pc' L (bi (a * b) :: st)) : bgX K bb n z Q w pc L (bi b :: bi a :: st) := by
  obtain ⟨h1, rfl⟩ := hd
  intro H locs ls hlb hP hS hl
  have k1 := kk H locs ls hlb hP hS hl
  refine lv_imul C.hx C.hb h1 ?_
  rw [← Int32.ofInt_mul]
  exact k1
theorem bg_idiv (C : bgCx K own cc nL rt) {a b : Int} (hd : bgd cc pc .idiv 1 pc') (ha : 0 ≤ a) (ha2 : a ≤ 2147483647) (hb : 0 < b) (hb2 : b ≤ 2147483647) (kk : bgX K bb n z Q w pc' L (bi (a / b) :: st)) : bgX K bb n z Q w pc L (bi b :: bi a :: st) := by
  obtain ⟨h1, rfl⟩ := hd
  intro H locs ls hlb hP hS hl
  have k1 := kk H locs ls hlb hP hS hl
  have e : Int32.ofInt a / Int32.ofInt b = Int32.ofInt (a / b) := by
    have hle : a / b ≤ a := Int.ediv_le_self b ha
    have hge : 0 ≤ a / b := Int.ediv_nonneg ha (by omega)
    apply Int32.toInt_inj.mp
    rw [Int32.toInt_div_of_ne_right _ _ (by
      intro q
      have := congrArg Int32.toInt q
      rw [bgr_i ⟨by omega, by omega⟩] at this
      have h3 : Int32.toInt (-1) = -1 := rfl
      omega), bgr_i ⟨by omega, by omega⟩, bgr_i ⟨by omega, by omega⟩, bgr_i ⟨by omega, by omega⟩, Int.tdiv_eq_ediv_of_nonneg ha]
  refine lv_idiv C.hx C.hb h1 (by
    intro q
    rw [← bgr_z, bgr_eq ⟨by omega, by omega⟩ bgr_0] at q
    omega) ?_
  rw [e]
  exact k1
theorem bg_i2l (C : bgCx K own cc nL rt) {a : Int} (hd : bgd cc pc .i2l 1 pc') (kk : ∀ v : Int, bgX K bb n z Q w pc' L (bl v :: st)) : bgX K bb n z Q w pc L (bi a :: st) := by
  obtain ⟨h1, rfl⟩ := hd
  intro H locs ls hlb hP hS hl
  exact lv_i2l C.hx C.hb h1 (v := Int64.ofInt (Int32.ofInt a).toInt) (by rw [Int64.ofInt_int32ToInt]) (kk (Int32.ofInt a).toInt H locs ls hlb hP hS hl)
theorem bg_dup (C : bgCx K own cc nL rt) {a : bgV} (hd : bgd cc pc .dup 1 pc') (ha : (bgC (kAd K) a).category = 1) (kk : bgX K bb n z Q w pc' L (a :: a :: st)) : bgX K bb n z Q w pc L (a :: st) := by
  obtain ⟨h1, rfl⟩ := hd
  intro H locs ls hlb hP hS hl
  exact lv_dup C.hx C.hb h1 ha (kk H locs ls hlb hP hS hl)
theorem bg_pop (C : bgCx K own cc nL rt) {a : bgV} (hd : bgd cc pc .pop 1 pc') (ha : (bgC (kAd K) a).category = 1) (kk : bgX K bb n z Q w pc' L st) : bgX K bb n z Q w pc L (a :: st) := by
  obtain ⟨h1, rfl⟩ := hd
  intro H locs ls hlb hP hS hl
  exact lv_pop C.hx C.hb h1 ha (kk H locs ls hlb hP hS hl)
theorem bg_dup_x1 (C : bgCx K own cc nL rt) {a b : bgV} (hd : bgd cc pc .dup_x1 1 pc') (ha : (bgC (kAd K) a).category = 1) (hb : (bgC (kAd K) b).category = 1) (kk : bgX K bb n z Q w pc' L (a :: b :: a :: st)) : bgX K bb n z Q w pc L (a :: b :: st) := by
  obtain ⟨h1, rfl⟩ := hd
  intro H locs ls hlb hP hS hl
  exact lv_dup_x1 C.hx C.hb h1 ha hb (kk H locs ls hlb hP hS hl)
theorem bg_dup2 (C : bgCx K own cc nL rt) {a b : bgV} (hd : bgd cc pc .dup2 1 pc') (ha : (bgC (kAd K) a).category = 1) (hb : (bgC (kAd K) b).category = 1) (kk : bgX K bb n z Q w pc' L (a :: b :: a :: b :: st)) : bgX K bb n z Q w pc L (a :: b :: st) := by
  obtain ⟨h1, rfl⟩ := hd
  intro H locs ls hlb hP hS hl
  exact lv_dup2_11 C.hx C.hb h1 ha hb (kk H locs ls hlb hP hS hl)
theorem bg_goto (C : bgCx K own cc nL rt) {off : Int} {l pc'' : Nat} (hd : bgd cc pc (.goto off) 3 pc'') (ht : (pc : Int) + off = (l : Int)) (kk : bgX K bb n z Q w l L st) : bgX K bb n z Q w pc L st := by
  obtain ⟨h1, -⟩ := hd
  intro H locs ls hlb hP hS hl
  exact lv_goto C.hx C.hb h1 ht (kk H locs ls hlb hP hS hl)
theorem bg_icmp_eq (C : bgCx K own cc nL rt) {a b off : Int} {tgt : Nat} (hd : bgd cc pc (.if_icmp .eq off) 3 pc') (ht : (pc : Int) + off = (tgt : Int)) (ha : bgr a) (hb : bgr b) (k1 : a = b → bgX K bb n z Q w tgt L st) (k2 : ¬ a = b → bgX K bb n z Q w pc' L st) : bgX K bb n z Q w pc L (bi b :: bi a :: st) := by
  obtain ⟨h1, rfl⟩ := hd
  intro H locs ls hlb hP hS hl
  exact lv_icmp_eq C.hx C.hb h1 ht (fun q => k1 ((bgr_eq ha hb).mp q) H locs ls hlb hP hS hl) (fun q => k2 (fun e => q ((bgr_eq ha hb).mpr e)) H locs ls hlb hP hS hl)
theorem bg_icmp_eq0 (C : bgCx K own cc nL rt) {a b off : Int} {tgt : Nat} (hd : bgd cc pc (.if_icmp .eq off) 3 pc') (ht : (pc : Int) + off = (tgt : Int)) (k1 : bgX K bb n z Q w tgt L st) (k2 : bgX K bb n z Q w pc' L st) : bgX K bb n z Q w pc L (bi b :: bi a :: st) := by
  obtain ⟨h1, rfl⟩ := hd
  intro H locs ls hlb hP hS hl
  exact lv_icmp_eq C.hx C.hb h1 ht (fun _ => k1 H locs ls hlb hP hS hl) (fun _ => k2 H locs ls hlb hP hS hl)
theorem bg_if_eq (C : bgCx K own cc nL rt) {a off : Int} {tgt : Nat} (hd : bgd cc pc (.ifCond .eq off) 3 pc') (ht : (pc : Int) + off = (tgt : Int)) (ha : bgr a) (k1 : a = 0 → bgX K bb n z Q w tgt L st) (k2 : ¬ a = 0 → bgX K bb n z Q w pc' L st) : bgX K bb n z Q w pc L (bi a :: st) := by
  obtain ⟨h1, rfl⟩ := hd
  intro H locs ls hlb hP hS hl
  exact lv_if_eq C.hx C.hb h1 ht (fun q => k1 ((bgr_eq ha bgr_0).mp q) H locs ls hlb hP hS hl) (fun q => k2 (fun e => q ((bgr_eq ha bgr_0).mpr e)) H locs ls hlb hP hS hl)
theorem bg_if_eq0 (C : bgCx K own cc nL rt) {a off : Int} {tgt : Nat} (hd : bgd cc pc (.ifCond .eq off) 3 pc') (ht : (pc : Int) + off = (tgt : Int)) (k1 : bgX K bb n z Q w tgt L st) (k2 : bgX K bb n z Q w pc' L st) : bgX K bb n z Q w pc L (bi a :: st) := by
  obtain ⟨h1, rfl⟩ := hd
  intro H locs ls hlb hP hS hl
  exact lv_if_eq C.hx C.hb h1 ht (fun _ => k1 H locs ls hlb hP hS hl) (fun _ => k2 H locs ls hlb hP hS hl)
theorem bg_icmp_ne (C : bgCx K own cc nL rt) {a b off : Int} {tgt : Nat} (hd : bgd cc pc (.if_icmp .ne off) 3 pc') (ht : (pc : Int) + off = (tgt : Int)) (ha : bgr a) (hb : bgr b) (k1 : ¬ a = b → bgX K bb n z Q w tgt L st) (k2 : a = b → bgX K bb n z Q w pc' L st) : bgX K bb n z Q w pc L (bi b :: bi a :: st) := by
  obtain ⟨h1, rfl⟩ := hd
  intro H locs ls hlb hP hS hl
  exact lv_icmp_ne C.hx C.hb h1 ht (fun q => k1 (fun e => q ((bgr_eq ha hb).mpr e)) H locs ls hlb hP hS hl) (fun q => k2 ((bgr_eq ha hb).mp q) H locs ls hlb hP hS hl)
theorem bg_icmp_ne0 (C : bgCx K own cc nL rt) {a b off : Int} {tgt : Nat} (hd : bgd cc pc (.if_icmp .ne off) 3 pc') (ht : (pc : Int) + off = (tgt : Int)) (k1 : bgX K bb n z Q w tgt L st) (k2 : bgX K bb n z Q w pc' L st) : bgX K bb n z Q w pc L (bi b :: bi a :: st) := by
  obtain ⟨h1, rfl⟩ := hd
  intro H locs ls hlb hP hS hl
  exact lv_icmp_ne C.hx C.hb h1 ht (fun _ => k1 H locs ls hlb hP hS hl) (fun _ => k2 H locs ls hlb hP hS hl)
theorem bg_if_ne (C : bgCx K own cc nL rt) {a off : Int} {tgt : Nat} (hd : bgd cc pc (.ifCond .ne off) 3 pc') (ht : (pc : Int) + off = (tgt : Int)) (ha : bgr a) (k1 : ¬ a = 0 → bgX K bb n z Q w tgt L st) (k2 : a = 0 → bgX K bb n z Q w pc' L st) : bgX K bb n z Q w pc L (bi a :: st) := by
  obtain ⟨h1, rfl⟩ := hd
  intro H locs ls hlb hP hS hl
  exact lv_if_ne C.hx C.hb h1 ht (fun q => k1 (fun e => q ((bgr_eq ha bgr_0).mpr e)) H locs ls hlb hP hS hl) (fun q => k2 ((bgr_eq ha bgr_0).mp q) H locs ls hlb hP hS hl)
theorem bg_if_ne0 (C : bgCx K own cc nL rt) {a off : Int} {tgt : Nat} (hd : bgd cc pc (.ifCond .ne off) 3 pc') (ht : (pc : Int) + off = (tgt : Int)) (k1 : bgX K bb n z Q w tgt L st) (k2 : bgX K bb n z Q w pc' L st) : bgX K bb n z Q w pc L (bi a :: st) := by
  obtain ⟨h1, rfl⟩ := hd
  intro H locs ls hlb hP hS hl
  exact lv_if_ne C.hx C.hb h1 ht (fun _ => k1 H locs ls hlb hP hS hl) (fun _ => k2 H locs ls hlb hP hS hl)
theorem bg_icmp_lt (C : bgCx K own cc nL rt) {a b off : Int} {tgt : Nat} (hd : bgd cc pc (.if_icmp .lt off) 3 pc') (ht : (pc : Int) + off = (tgt : Int)) (ha : bgr a) (hb : bgr b) (k1 : a < b → bgX K bb n z Q w tgt L st) (k2 : ¬ a < b → bgX K bb n z Q w pc' L st) : bgX K bb n z Q w pc L (bi b :: bi a :: st) := by
  obtain ⟨h1, rfl⟩ := hd
  intro H locs ls hlb hP hS hl
  exact lv_icmp_lt C.hx C.hb h1 ht (fun q => k1 ((bgr_lt ha hb).mp q) H locs ls hlb hP hS hl) (fun q => k2 (fun e => q ((bgr_lt ha hb).mpr e)) H locs ls hlb hP hS hl)
theorem bg_icmp_lt0 (C : bgCx K own cc nL rt) {a b off : Int} {tgt : Nat} (hd : bgd cc pc (.if_icmp .lt off) 3 pc') (ht : (pc : Int) + off = (tgt : Int)) (k1 : bgX K bb n z Q w tgt L st) (k2 : bgX K bb n z Q w pc' L st) : bgX K bb n z Q w pc L (bi b :: bi a :: st) := by
  obtain ⟨h1, rfl⟩ := hd
  intro H locs ls hlb hP hS hl
  exact lv_icmp_lt C.hx C.hb h1 ht (fun _ => k1 H locs ls hlb hP hS hl) (fun _ => k2 H locs ls hlb hP hS hl)
theorem bg_if_lt (C : bgCx K own cc nL rt) {a off : Int} {tgt : Nat} (hd : bgd cc pc (.ifCond .lt off) 3 pc') (ht : (pc : Int) + off = (tgt : Int)) (ha : bgr a) (k1 : a < 0 → bgX K bb n z Q w tgt L st) (k2 : ¬ a < 0 → bgX K bb n z Q w pc' L st) : bgX K bb n z Q w pc L (bi a :: st) := by
  obtain ⟨h1, rfl⟩ := hd
  intro H locs ls hlb hP hS hl
  exact lv_if_lt C.hx C.hb h1 ht (fun q => k1 ((bgr_lt ha bgr_0).mp q) H locs ls hlb hP hS hl) (fun q => k2 (fun e => q ((bgr_lt ha bgr_0).mpr e)) H locs ls hlb hP hS hl)
theorem bg_if_lt0 (C : bgCx K own cc nL rt) {a off : Int} {tgt : Nat} (hd : bgd cc pc (.ifCond .lt off) 3 pc') (ht : (pc : Int) + off = (tgt : Int)) (k1 : bgX K bb n z Q w tgt L st) (k2 : bgX K bb n z Q w pc' L st) : bgX K bb n z Q w pc L (bi a :: st) := by
  obtain ⟨h1, rfl⟩ := hd
  intro H locs ls hlb hP hS hl
  exact lv_if_lt C.hx C.hb h1 ht (fun _ => k1 H locs ls hlb hP hS hl) (fun _ => k2 H locs ls hlb hP hS hl)
theorem bg_icmp_ge (C : bgCx K own cc nL rt) {a b off : Int} {tgt : Nat} (hd : bgd cc pc (.if_icmp .ge off) 3 pc') (ht : (pc : Int) + off = (tgt : Int)) (ha : bgr a) (hb : bgr b) (k1 : b ≤ a → bgX K bb n z Q w tgt L st) (k2 : ¬ b ≤ a → bgX K bb n z Q w pc' L st) : bgX K bb n z Q w pc L (bi b :: bi a :: st) := by
  obtain ⟨h1, rfl⟩ := hd
  intro H locs ls hlb hP hS hl
  exact lv_icmp_ge C.hx C.hb h1 ht (fun q => k1 ((bgr_le hb ha).mp q) H locs ls hlb hP hS hl) (fun q => k2 (fun e => q ((bgr_le hb ha).mpr e)) H locs ls hlb hP hS hl)
theorem bg_icmp_ge0 (C : bgCx K own cc nL rt) {a b off : Int} {tgt : Nat} (hd : bgd cc pc (.if_icmp .ge off) 3 pc') (ht : (pc : Int) + off = (tgt : Int)) (k1 : bgX K bb n z Q w tgt L st) (k2 : bgX K bb n z Q w pc' L st) : bgX K bb n z Q w pc L (bi b :: bi a :: st) := by
  obtain ⟨h1, rfl⟩ := hd
  intro H locs ls hlb hP hS hl
  exact lv_icmp_ge C.hx C.hb h1 ht (fun _ => k1 H locs ls hlb hP hS hl) (fun _ => k2 H locs ls hlb hP hS hl)
theorem bg_if_ge (C : bgCx K own cc nL rt) {a off : Int} {tgt : Nat} (hd : bgd cc pc (.ifCond .ge off) 3 pc') (ht : (pc : Int) + off = (tgt : Int)) (ha : bgr a) (k1 : 0 ≤ a → bgX K bb n z Q w tgt L st) (k2 : ¬ 0 ≤ a → bgX K bb n z Q w pc' L st) : bgX K bb n z Q w pc L (bi a :: st) := by
  obtain ⟨h1, rfl⟩ := hd
  intro H locs ls hlb hP hS hl
  exact lv_if_ge C.hx C.hb h1 ht (fun q => k1 ((bgr_le bgr_0 ha).mp q) H locs ls hlb hP hS hl) (fun q => k2 (fun e => q ((bgr_le bgr_0 ha).mpr e)) H locs ls hlb hP hS hl)
theorem bg_if_ge0 (C : bgCx K own cc nL rt) {a off : Int} {tgt : Nat} (hd : bgd cc pc (.ifCond .ge off) 3 pc') (ht : (pc : Int) + off = (tgt : Int)) (k1 : bgX K bb n z Q w tgt L st) (k2 : bgX K bb n z Q w pc' L st) : bgX K bb n z Q w pc L (bi a :: st) := by
  obtain ⟨h1, rfl⟩ := hd
  intro H locs ls hlb hP hS hl
  exact lv_if_ge C.hx C.hb h1 ht (fun _ => k1 H locs ls hlb hP hS hl) (fun _ => k2 H locs ls hlb hP hS hl)
theorem bg_icmp_gt (C : bgCx K own cc nL rt) {a b off : Int} {tgt : Nat} (hd : bgd cc pc (.if_icmp .gt off) 3 pc') (ht : (pc : Int) + off = (tgt : Int)) (ha : bgr a) (hb : bgr b) (k1 : b < a → bgX K bb n z Q w tgt L st) (k2 : ¬ b < a → bgX K bb n z Q w pc' L st) : bgX K bb n z Q w pc L (bi b :: bi a :: st) := by
  obtain ⟨h1, rfl⟩ := hd
  intro H locs ls hlb hP hS hl
  exact lv_icmp_gt C.hx C.hb h1 ht (fun q => k1 ((bgr_lt hb ha).mp q) H locs ls hlb hP hS hl) (fun q => k2 (fun e => q ((bgr_lt hb ha).mpr e)) H locs ls hlb hP hS hl)
theorem bg_icmp_gt0 (C : bgCx K own cc nL rt) {a b off : Int} {tgt : Nat} (hd : bgd cc pc (.if_icmp .gt off) 3 pc') (ht : (pc : Int) + off = (tgt : Int)) (k1 : bgX K bb n z Q w tgt L st) (k2 : bgX K bb n z Q w pc' L st) : bgX K bb n z Q w pc L (bi b :: bi a :: st) := by
  obtain ⟨h1, rfl⟩ := hd
  intro H locs ls hlb hP hS hl
  exact lv_icmp_gt C.hx C.hb h1 ht (fun _ => k1 H locs ls hlb hP hS hl) (fun _ => k2 H locs ls hlb hP hS hl)
theorem bg_if_gt (C : bgCx K own cc nL rt) {a off : Int} {tgt : Nat} (hd : bgd cc pc (.ifCond .gt off) 3 pc') (ht : (pc : Int) + off = (tgt : Int)) (ha : bgr a) (k1 : 0 < a → bgX K bb n z Q w tgt L st) (k2 : ¬ 0 < a → bgX K bb n z Q w pc' L st) : bgX K bb n z Q w pc L (bi a :: st) := by
  obtain ⟨h1, rfl⟩ := hd
  intro H locs ls hlb hP hS hl
  exact lv_if_gt C.hx C.hb h1 ht (fun q => k1 ((bgr_lt bgr_0 ha).mp q) H locs ls hlb hP hS hl) (fun q => k2 (fun e => q ((bgr_lt bgr_0 ha).mpr e)) H locs ls hlb hP hS hl)
theorem bg_if_gt0 (C : bgCx K own cc nL rt) {a off : Int} {tgt : Nat} (hd : bgd cc pc (.ifCond .gt off) 3 pc') (ht : (pc : Int) + off = (tgt : Int)) (k1 : bgX K bb n z Q w tgt L st) (k2 : bgX K bb n z Q w pc' L st) : bgX K bb n z Q w pc L (bi a :: st) := by
  obtain ⟨h1, rfl⟩ := hd
  intro H locs ls hlb hP hS hl
  exact lv_if_gt C.hx C.hb h1 ht (fun _ => k1 H locs ls hlb hP hS hl) (fun _ => k2 H locs ls hlb hP hS hl)
theorem bg_icmp_le (C : bgCx K own cc nL rt) {a b off : Int} {tgt : Nat} (hd : bgd cc pc (.if_icmp .le off) 3 pc') (ht : (pc : Int) + off = (tgt : Int)) (ha : bgr a) (hb : bgr b) (k1 : a ≤ b → bgX K bb n z Q w tgt L st) (k2 : ¬ a ≤ b → bgX K bb n z Q w pc' L st) : bgX K bb n z Q w pc L (bi b :: bi a :: st) := by
  obtain ⟨h1, rfl⟩ := hd
  intro H locs ls hlb hP hS hl
  exact lv_icmp_le C.hx C.hb h1 ht (fun q => k1 ((bgr_le ha hb).mp q) H locs ls hlb hP hS hl) (fun q => k2 (fun e => q ((bgr_le ha hb).mpr e)) H locs ls hlb hP hS hl)
theorem bg_icmp_le0 (C : bgCx K own cc nL rt) {a b off : Int} {tgt : Nat} (hd : bgd cc pc (.if_icmp .le off) 3 pc') (ht : (pc : Int) + off = (tgt : Int)) (k1 : bgX K bb n z Q w tgt L st) (k2 : bgX K bb n z Q w pc' L st) : bgX K bb n z Q w pc L (bi b :: bi a :: st) := by
  obtain ⟨h1, rfl⟩ := hd
  intro H locs ls hlb hP hS hl
  exact lv_icmp_le C.hx C.hb h1 ht (fun _ => k1 H locs ls hlb hP hS hl) (fun _ => k2 H locs ls hlb hP hS hl)
theorem bg_if_le (C : bgCx K own cc nL rt) {a off : Int} {tgt : Nat} (hd : bgd cc pc (.ifCond .le off) 3 pc') (ht : (pc : Int) + off = (tgt : Int)) (ha : bgr a) (k1 : a ≤ 0 → bgX K bb n z Q w tgt L st) (k2 : ¬ a ≤ 0 → bgX K bb n z Q w pc' L st) : bgX K bb n z Q w pc L (bi a :: st) := by
  obtain ⟨h1, rfl⟩ := hd
  intro H locs ls hlb hP hS hl
  exact lv_if_le C.hx C.hb h1 ht (fun q => k1 ((bgr_le ha bgr_0).mp q) H locs ls hlb hP hS hl) (fun q => k2 (fun e => q ((bgr_le ha bgr_0).mpr e)) H locs ls hlb hP hS hl)
theorem bg_if_le0 (C : bgCx K own cc nL rt) {a off : Int} {tgt : Nat} (hd : bgd cc pc (.ifCond .le off) 3 pc') (ht : (pc : Int) + off = (tgt : Int)) (k1 : bgX K bb n z Q w tgt L st) (k2 : bgX K bb n z Q w pc' L st) : bgX K bb n z Q w pc L (bi a :: st) := by
  obtain ⟨h1, rfl⟩ := hd
  intro H locs ls hlb hP hS hl
  exact lv_if_le C.hx C.hb h1 ht (fun _ => k1 H locs ls hlb hP hS hl) (fun _ => k2 H locs ls hlb hP hS hl)
end BGR
end
section
/-! a class of the world, by its number -/
def bgCF (ci : Nat) (C0 : String) (T : u_T) (ty : Nat → FieldType) (N : Nat) : Prop := bgCl[ci]? = some (C0, T, N) ∧ bgNs ci = N ∧ (∀ w ∈ u_ws C0 T N, w ∈ bgTs) ∧ (∀ k, k < N → parseFieldDescriptor (T k).2.2.1 = some (ty k)) ∧ (∀ a, a < N → ∀ b, b < N → a ≠ b → (T a).2.1 ≠ (T b).2.1) ∧ ∀ k, k < N → (T k).1 = C0
theorem bgK_lt {k : Nat} {x : Nat ⊕ (Nat × Nat)} (h : bgKinds[k]? = some x) : k < bgNO := by
  have := (List.getElem?_eq_some_iff.mp h).1
  rwa [bgKinds_len] at this
theorem bg_len {k n t : Nat} (h : bgKinds[k]? = some (.inr (n, t))) : n ≤ 1000 := bgKinds_ok n t (List.mem_of_getElem? h)
section BGF
variable {K : bgK} {own : String} {cc : ByteArray} {nL : Nat} {rt : Option FieldType} {bb : Bool} {n z : Nat} {Q : State → Prop} {w : bgW} {pc pc' : Nat} {L : List (Option bgV)} {st : List bgV} {k ci i idx N : Nat} {C0 : String} {T : u_T} {ty : Nat → FieldType}
theorem bg_objAt {cA : Nat → ClassId} {ad : Nat → Nat} (hk : bgKinds[k]? = some (.inl ci)) : (bgL cA ad w)[k]? = some (ad k, .inr (ci, (List.range (bgNs ci)).map (bgVal ad w k))) := by
  rw [bgL_at (bgK_lt hk), bgE_obj hk]
theorem bg_geti (C : bgCx K own cc nL rt) (F : bgCF ci C0 T ty N) {j : Int} (hj : (i : Int) = j) (hk : bgKinds[k]? = some (.inl ci)) (hi : i < N) (hr : bgRef k i = none) (hl : Cond.fieldLink own idx C0 (T i).2.1 (T i).2.2.1 ∈ bgTs) (hd : bgd cc pc (.getfield idx) 3 pc') (kk : bgX K bb n z Q w pc' L (bi (w k j) :: st)) : bgX K bb n z Q w pc L (br k :: st) := by
  obtain ⟨h1, rfl⟩ := hd
  subst hj
  intro H locs ls hlb hP hS hlo
  have hv : ((List.range (bgNs ci)).map (bgVal (kAd K) w k))[i]? = some (Value.int (Int32.ofInt (w k (i : Int)))) := by
    rw [List.getElem?_map, List.getElem?_range (by rw [F.2.1]; exact hi)]
    show some (bgVal (kAd K) w k i) = _
    unfold bgVal
    rw [hr]
  exact va_get (C := C0) (T := T) (N := N) (ref := C0) (index := idx) C.hx C.hb C.hts F.2.2.1 C.hown C.hK hP k (bg_objAt hk) F.1 i hi (C.hts _ hl) (fun x h => by rw [F.2.2.2.2.2 i hi] at h; exact h) hv h1 (kk H locs ls hlb hP hS hlo)
theorem bg_getr (C : bgCx K own cc nL rt) (F : bgCF ci C0 T ty N) {j : Nat} (hk : bgKinds[k]? = some (.inl ci)) (hi : i < N) (hr : bgRef k i = some j) (hl : Cond.fieldLink own idx C0 (T i).2.1 (T i).2.2.1 ∈ bgTs) (hd : bgd cc pc (.getfield idx) 3 pc') (kk : bgX K bb n z Q w pc' L (br j :: st)) : bgX K bb n z Q w pc L (br k :: st) := by
  obtain ⟨h1, rfl⟩ := hd
  intro H locs ls hlb hP hS hlo
  have hv : ((List.range (bgNs ci)).map (bgVal (kAd K) w k))[i]? = some (Value.ref (kAd K j)) := by
    rw [List.getElem?_map, List.getElem?_range (by rw [F.2.1]; exact hi)]
    show some (bgVal (kAd K) w k i) = _
    unfold bgVal
    rw [hr]
  exact va_get (C := C0) (T := T) (N := N) (ref := C0) (index := idx) C.hx C.hb C.hts F.2.2.1 C.hown C.hK hP k (bg_objAt hk) F.1 i hi (C.hts _ hl) (fun x h => by rw [F.2.2.2.2.2 i hi] at h; exact h) hv h1 (kk H locs ls hlb hP hS hlo)
theorem bg_setObj {ad : Nat → Nat} {v : Int} (hr : bgRef k i = none) (hi : i < bgNs ci) : ((List.range (bgNs ci)).map (bgVal ad w k)).set i (.int (Int32.ofInt v)) = (List.range (bgNs ci)).map (bgVal ad (bgU w k (i : Int) v) k) := by
  apply List.ext_getElem?
  intro j
  by_cases hj : j = i
  · subst hj
    rw [List.getElem?_set_self (by rw [List.length_map, List.length_range]; exact hi), List.getElem?_map, List.getElem?_range hi]
    show _ = some (bgVal ad (bgU w k (j : Int) v) k j)
    unfold bgVal
    rw [hr, bgU_eq]
  · rw [List.getElem?_set_ne (fun q => hj q.symm), List.getElem?_map, List.getElem?_map]
    have e : bgVal ad (bgU w k (i : Int) v) k j = bgVal ad w k j := by
      unfold bgVal
      rw [bgU_nei (by omega)]
    cases hx : (List.range (bgNs ci))[j]? with
    | none => rfl
    | some x =>
      have hxj : x = j := by
        have h2 := List.getElem?_eq_some_iff.mp hx
        obtain ⟨h3, h4⟩ := h2
        rw [List.getElem_range] at h4
        exact h4.symm
      subst hxj
      show some (bgVal ad w k x) = some (bgVal ad (bgU w k (i : Int) v) k x)
      rw [e]
theorem bg_puti (C : bgCx K own cc nL rt) (F : bgCF ci C0 T ty N) {j v : Int} (hj : (i : Int) = j) (hk : bgKinds[k]? = some (.inl ci)) (hi : i < N) (hr : bgRef k i = none) (hfin : (T i).2.2.2 = false) (hty : ty i = .int ∨ (ty i = .boolean ∧ (v = 0 ∨ v = 1))) (hl : Cond.fieldLink own idx C0 (T i).2.1 (T i).2.2.1 ∈ bgTs) (hd : bgd cc pc (.putfield idx) 3 pc') (kk : ∀ w', w' = bgU w k j v → bgX K false n z Q w' pc' L st) : bgX K bb n z Q w pc L (bi v :: br k :: st) := by
  obtain ⟨h1, rfl⟩ := hd
  subst hj
  intro H locs ls hlb hP hS hlo
  have hnar : narrow (ty i) (.int (Int32.ofInt v)) = .int (Int32.ofInt v) ∧ fits (ty i) (.int (Int32.ofInt v)) = true := by
    rcases hty with h | ⟨h, hv | hv⟩
    · rw [h]; exact ⟨rfl, rfl⟩
    · rw [h, hv]; exact ⟨rfl, rfl⟩
    · rw [h, hv]; exact ⟨rfl, rfl⟩
  refine va_put (C := C0) (T := T) (N := N) (ref := C0) (index := idx) C.hx C.hb C.hts F.2.2.1 ty F.2.2.2.1 F.2.2.2.2.1 C.hown C.hK hP C.hD hS k (bg_objAt hk) F.1 i hi (C.hts _ hl) (fun x h => by rw [F.2.2.2.2.2 i hi] at h; exact h) hfin (F.2.2.2.1 i hi) hnar.1 hnar.2 (by rw [List.length_map, List.length_range, F.2.1]; exact hi) h1 (fun H1 locs1 hP1 hD1 hS1 => ?_)
  have e : (bgL (kCA K) (kAd K) w).set k (kAd K k, .inr (ci, ((List.range (bgNs ci)).map (bgVal (kAd K) w k)).set i (bgC (kAd K) (bi v)))) = bgL (kCA K) (kAd K) (bgU w k (i : Int) v) := by
    rw [show bgC (kAd K) (bi v) = Value.int (Int32.ofInt v) from rfl, bg_setObj hr (by rw [F.2.1]; exact hi), ← bgE_obj (cA := kCA K) hk]
    exact bgL_set (bgK_lt hk) (fun k' i' h => bgU_ne i' h)
  rw [e] at hP1
  exact kk _ rfl H1 locs1 ls (fun h => by cases h) hP1 hS1 hlo
end BGF
section BGA
variable {K : bgK} {own : String} {cc : ByteArray} {nL : Nat} {rt : Option FieldType} {bb : Bool} {n z : Nat} {Q : State → Prop} {w : bgW} {pc pc' : Nat} {L : List (Option bgV)} {st : List bgV} {k len : Nat} {i v : Int}
theorem bg_clampI (h0 : 0 ≤ i) (h1 : i ≤ 2147483647) : (((Int32.ofInt i).toNatClampNeg : Nat) : Int) = i := by
  rw [bgr_nat h0 h1]
  omega
theorem bg_iald (C : bgCx K own cc nL rt) (hk : bgKinds[k]? = some (.inr (len, 0))) (h0 : 0 ≤ i) (h1 : i < (len : Int)) (hd : bgd cc pc .iaload 1 pc') (kk : bgX K bb n z Q w pc' L (bi (w k i) :: st)) : bgX K bb n z Q w pc L (bi i :: br k :: st) := by
  obtain ⟨h2, rfl⟩ := hd
  intro H locs ls hlb hP hS hlo
  have hle := bg_len hk
  have he : (bgL (kCA K) (kAd K) w)[k]? = some (kAd K k, .inl (kCA K 0, len, .inl (fun j => Int32.ofInt (w k (j : Int))))) := by rw [bgL_at (bgK_lt hk), bgE_arr hk (by decide)]
  have k1 := kk H locs ls hlb hP hS hlo
  refine va_iald C.hx C.hb C.hK hP k 0 he rfl (bgr_in h0 h1 (by omega)) h2 ?_
  rw [bg_clampI h0 (by omega)]
  exact k1
theorem bg_zald (C : bgCx K own cc nL rt) (hk : bgKinds[k]? = some (.inr (len, 1))) (h0 : 0 ≤ i) (h1 : i < (len : Int)) (hd : bgd cc pc .baload 1 pc') (kk : bgX K bb n z Q w pc' L (bi (w k i) :: st)) : bgX K bb n z Q w pc L (bi i :: br k :: st) := by
  obtain ⟨h2, rfl⟩ := hd
  intro H locs ls hlb hP hS hlo
  have hle := bg_len hk
  have he : (bgL (kCA K) (kAd K) w)[k]? = some (kAd K k, .inl (kCA K 1, len, .inl (fun j => Int32.ofInt (w k (j : Int))))) := by rw [bgL_at (bgK_lt hk), bgE_arr hk (by decide)]
  have k1 := kk H locs ls hlb hP hS hlo
  refine va_zald C.hx C.hb C.hK hP k 1 he rfl (bgr_in h0 h1 (by omega)) h2 ?_
  rw [bg_clampI h0 (by omega)]
  exact k1
theorem bg_updA (h0 : 0 ≤ i) (h1 : i ≤ 2147483647) : upd (fun j : Nat => Int32.ofInt (w k (j : Int))) (Int32.ofInt i).toNatClampNeg (Int32.ofInt v) = fun j : Nat => Int32.ofInt (bgU w k i v k (j : Int)) := by
  funext j
  have e := bg_clampI h0 h1
  by_cases hj : j = (Int32.ofInt i).toNatClampNeg
  · subst hj
    rw [e, bgU_eq]
    simp [upd]
  · rw [bgU_nei (by omega)]
    simp [upd, hj]
theorem bg_setArr {cA : Nat → ClassId} {ad : Nat → Nat} {t : Nat} (hk : bgKinds[k]? = some (.inr (len, t))) (ht : t ≠ 2) (h0 : 0 ≤ i) (h1 : i ≤ 2147483647) :
    (bgL cA ad w).set k (ad k, .inl (cA t, len, .inl (upd (fun j : Nat => Int32.ofInt (w k (j : Int))) (Int32.ofInt i).toNatClampNeg (Int32.ofInt v)))) = bgL cA ad (bgU w k i v) := by
  rw [bg_updA h0 h1, ← bgE_arr (cA := cA) (ad := ad) hk ht]
  exact bgL_set (bgK_lt hk) (fun k' i' h => bgU_ne i' h)
theorem bg_iast (C : bgCx K own cc nL rt) (hk : bgKinds[k]? = some (.inr (len, 0))) (h0 : 0 ≤ i) (h1 : i < (len : Int)) (hd : bgd cc pc .iastore 1 pc') (kk : ∀ w', w' = bgU w k i v → bgX K false n z Q w' pc' L st) : bgX K bb n z Q w pc L (bi v :: bi i :: br k :: st) := by
  obtain ⟨h2, rfl⟩ := hd
  intro H locs ls hlb hP hS hlo
  have hle := bg_len hk
  have he : (bgL (kCA K) (kAd K) w)[k]? = some (kAd K k, .inl (kCA K 0, len, .inl (fun j => Int32.ofInt (w k (j : Int))))) := by rw [bgL_at (bgK_lt hk), bgE_arr hk (by decide)]
  refine va_iast C.hx C.hb C.hK hP C.hD hS k 0 he rfl (bgr_in h0 h1 (by omega)) h2 (fun H1 locs1 hP1 hD1 hS1 => ?_)
  rw [bg_setArr hk (by decide) h0 (by omega)] at hP1
  exact kk _ rfl H1 locs1 ls (fun h => by cases h) hP1 hS1 hlo
theorem bg_zast (C : bgCx K own cc nL rt) (hk : bgKinds[k]? = some (.inr (len, 1))) (h0 : 0 ≤ i) (h1 : i < (len : Int)) (hv : v = 0 ∨ v = 1) (hd : bgd cc pc .bastore 1 pc') (kk : ∀ w', w' = bgU w k i v → bgX K false n z Q w' pc' L st) : bgX K bb n z Q w pc L (bi v :: bi i :: br k :: st) := by
  obtain ⟨h2, rfl⟩ := hd
  intro H locs ls hlb hP hS hlo
  have hle := bg_len hk
  have he : (bgL (kCA K) (kAd K) w)[k]? = some (kAd K k, .inl (kCA K 1, len, .inl (fun j => Int32.ofInt (w k (j : Int))))) := by rw [bgL_at (bgK_lt hk), bgE_arr hk (by decide)]
  refine va_zast C.hx C.hb C.hK hP C.hD hS k 1 he rfl (bgr_in h0 h1 (by omega)) h2 (fun H1 locs1 hP1 hD1 hS1 => ?_)
  have hn : vp_nar .boolean (Int32.ofInt v) = Int32.ofInt v := by
    rcases hv with rfl | rfl <;> rfl
  rw [hn, bg_setArr hk (by decide) h0 (by omega)] at hP1
  exact kk _ rfl H1 locs1 ls (fun h => by cases h) hP1 hS1 hlo
theorem bg_last (C : bgCx K own cc nL rt) (hk : bgKinds[k]? = some (.inr (len, 2))) (h0 : 0 ≤ i) (h1 : i < (len : Int)) (hd : bgd cc pc .lastore 1 pc') (kk : ∀ w', w' = bgU w k i v → bgX K false n z Q w' pc' L st) : bgX K bb n z Q w pc L (bl v :: bi i :: br k :: st) := by
  obtain ⟨h2, rfl⟩ := hd
  intro H locs ls hlb hP hS hlo
  have hle := bg_len hk
  have he : (bgL (kCA K) (kAd K) w)[k]? = some (kAd K k, .inl (kCA K 2, len, .inr (.inl (fun j => Int64.ofInt (w k (j : Int)))))) := by rw [bgL_at (bgK_lt hk), bgE_lon hk]
  refine va_last C.hx C.hb C.hK hP C.hD hS k 2 he rfl (bgr_in h0 h1 (by omega)) h2 (fun H1 locs1 hP1 hD1 hS1 => ?_)
  have e := bg_clampI h0 (show i ≤ 2147483647 by omega)
  have eu : vp_updL (fun j : Nat => Int64.ofInt (w k (j : Int))) (Int32.ofInt i).toNatClampNeg (Int64.ofInt v) = fun j : Nat => Int64.ofInt (bgU w k i v k (j : Int)) := by
    funext j
    by_cases hj : j = (Int32.ofInt i).toNatClampNeg
    · subst hj
      rw [e, bgU_eq]
      simp [vp_updL]
    · rw [bgU_nei (by omega)]
      simp [vp_updL, hj]
  rw [eu, ← bgE_lon (cA := kCA K) (ad := kAd K) hk, bgL_set (bgK_lt hk) (fun k' i' h => bgU_ne i' h)] at hP1
  exact kk _ rfl H1 locs1 ls (fun h => by cases h) hP1 hS1 hlo
theorem bg_alen (C : bgCx K own cc nL rt) (hk : bgKinds[k]? = some (.inr (len, 0))) (hv : (len : Int) = v) (hd : bgd cc pc .arraylength 1 pc') (kk : bgX K bb n z Q w pc' L (bi v :: st)) : bgX K bb n z Q w pc L (br k :: st) := by
  obtain ⟨h2, rfl⟩ := hd
  subst hv
  intro H locs ls hlb hP hS hlo
  have he : (bgL (kCA K) (kAd K) w)[k]? = some (kAd K k, .inl (kCA K 0, len, .inl (fun j => Int32.ofInt (w k (j : Int))))) := by rw [bgL_at (bgK_lt hk), bgE_arr hk (by decide)]
  exact va_alen C.hx C.hb C.hK hP k 0 he (ty := .int) rfl (by rw [Int32.ofInt_eq_ofNat]) h2 (kk H locs ls hlb hP hS hlo)
end BGA
def bgCp (w : bgW) (k1 k0 : Nat) (sp dp m : Int) : bgW := fun k' i' => if k' = k1 ∧ dp ≤ i' ∧ i' < dp + m then w k0 (sp + (i' - dp)) else w k' i'
theorem bg_copyi {K : bgK} {own : String} {cc : ByteArray} {nL : Nat} {rt : Option FieldType} {bb : Bool} {n z : Nat} {Q : State → Prop} {w : bgW} {pc pc' : Nat} {L : List (Option bgV)} {st : List bgV} {k0 k1 n0 n1 idx : Nat} {sp dp m : Int} (C : bgCx K own cc nL rt)
    (hl : Cond.methodLink own idx arraycopyName ∈ bgTs) (hnat : Cond.native arraycopyName ∈ bgTs) (hsta : Cond.static arraycopyName ∈ bgTs) (hini : Cond.initialized "java/lang/System" ∈ bgTs)
    (hk0 : bgKinds[k0]? = some (.inr (n0, 0))) (hk1 : bgKinds[k1]? = some (.inr (n1, 0))) (a1 : 0 ≤ sp) (a2 : 0 ≤ dp) (a3 : 0 ≤ m) (a4 : sp + m ≤ (n0 : Int)) (a5 : dp + m ≤ (n1 : Int)) (hL : L.length = nL)
    (hf : 1 ≤ (kR K).frames) (hlo : ((st.map (bgC (kAd K))).map fun v => v.category).sum + (nativeFrameWords "java/lang/System" "arraycopy" 5 + 11) ≤ (kR K).locals) (hd : bgd cc pc (.invokestatic idx) 3 pc')
    (kk : ∀ w', w' = bgCp w k1 k0 sp dp m → bgX K false n z Q w' pc' L st) : bgX K bb n z Q w pc L (bi m :: bi dp :: br k1 :: bi sp :: br k0 :: st) := by
  obtain ⟨h2, rfl⟩ := hd
  intro H locs ls hlb hP hS hlo2
  have hle0 := bg_len hk0
  have hle1 := bg_len hk1
  have he0 : (bgL (kCA K) (kAd K) w)[k0]? = some (kAd K k0, .inl (kCA K 0, n0, .inl (fun j => Int32.ofInt (w k0 (j : Int))))) := by rw [bgL_at (bgK_lt hk0), bgE_arr hk0 (by decide)]
  have he1 : (bgL (kCA K) (kAd K) w)[k1]? = some (kAd K k1, .inl (kCA K 0, n1, .inl (fun j => Int32.ofInt (w k1 (j : Int))))) := by rw [bgL_at (bgK_lt hk1), bgE_arr hk1 (by decide)]
  have nl : ∀ a : Int, 0 ≤ a → a ≤ 2147483647 → ¬ Int32.ofInt a < 0 := by
    intro a h0 h1 q
    rw [← bgr_z, bgr_lt ⟨by omega, by omega⟩ bgr_0] at q
    omega
  have c1 := bgr_nat a1 (show sp ≤ 2147483647 by omega)
  have c2 := bgr_nat a2 (show dp ≤ 2147483647 by omega)
  have c3 := bgr_nat a3 (show m ≤ 2147483647 by omega)
  refine va_copyi (ty := .int) C.hx C.hb (by rw [C.hml, hlo2.1]; exact hL.symm) C.hown (C.hts _ hl) (C.hts _ hnat) (C.hts _ hsta) (C.hts _ hini) C.hK hP C.hD hS k0 k1 0 0 he0 he1 rfl rfl rfl (nl sp a1 (by omega)) (nl dp a2 (by omega)) (nl m a3 (by omega)) (by rw [c1, c3]; omega) (by rw [c2, c3]; omega) (fun _ _ => rfl) hf hlo h2 (fun H1 locs1 hP1 hD1 hS1 => ?_)
  have eu : va_cpy (fun j : Nat => Int32.ofInt (w k0 (j : Int))) (fun j : Nat => Int32.ofInt (w k1 (j : Int))) (Int32.ofInt sp).toNatClampNeg (Int32.ofInt dp).toNatClampNeg (Int32.ofInt m).toNatClampNeg = fun j : Nat => Int32.ofInt (bgCp w k1 k0 sp dp m k1 (j : Int)) := by
    funext j
    rw [c1, c2, c3]
    unfold va_cpy bgCp
    by_cases hj : dp.toNat ≤ j ∧ j < dp.toNat + m.toNat
    · rw [if_pos hj, if_pos ⟨rfl, by omega, by omega⟩]
      have e : ((sp.toNat + (j - dp.toNat) : Nat) : Int) = sp + ((j : Int) - dp) := by omega
      show Int32.ofInt (w k0 ((sp.toNat + (j - dp.toNat) : Nat) : Int)) = _
      rw [e]
    · rw [if_neg hj, if_neg (fun q => hj (by omega))]
  rw [eu, ← bgE_arr (cA := kCA K) (ad := kAd K) hk1 (by decide), bgL_set (bgK_lt hk1) (fun k' i' h => by
    unfold bgCp
    rw [if_neg (fun q => h q.1)])] at hP1
  exact kk _ rfl H1 locs1 ls (fun h => by cases h) hP1 hS1 hlo2
theorem bg_min {K : bgK} {own : String} {cc : ByteArray} {nL : Nat} {rt : Option FieldType} {bb : Bool} {n z : Nat} {Q : State → Prop} {w : bgW} {pc pc' : Nat} {L : List (Option bgV)} {st : List bgV} {idx : Nat} {a b : Int} (C : bgCx K own cc nL rt)
    (hl : Cond.methodLink own idx Lib.Math.min.name ∈ bgTs) (hsta : Cond.static Lib.Math.min.name ∈ bgTs) (hini : Cond.initialized "java/lang/Math" ∈ bgTs) (hco : Cond.code Lib.Math.min.name Lib.Math.min.code 2 (some .int) ∈ bgTs) (hL : L.length = nL) (ha : bgr a) (hb : bgr b)
    (hf : 1 ≤ (kR K).frames) (hlo : ((st.map (bgC (kAd K))).map fun v => v.category).sum + 13 ≤ (kR K).locals) (hn : n ≤ (kR K).cells) (hz : z ≤ (kR K).slots) (hd : bgd cc pc (.invokestatic idx) 3 pc')
    (k1 : b < a → bgX K bb n z Q w pc' L (bi b :: st)) (k2 : ¬ b < a → bgX K bb n z Q w pc' L (bi a :: st)) : bgX K bb n z Q w pc L (bi b :: bi a :: st) := by
  obtain ⟨h2, rfl⟩ := hd
  intro H locs ls hlb hP hS hlo2
  refine va_mmin C.hx C.hb (by rw [C.hml, hlo2.1]; exact hL.symm) C.hown (C.hts _ hl) (C.hts _ hsta) (C.hts _ hini) (C.hts _ hco) hf hlo hn hz h2 ?_
  by_cases h : b < a
  · rw [if_pos ((bgr_lt hb ha).mpr h)]
    exact k1 h H locs ls hlb hP hS hlo2
  · rw [if_neg (fun q => h ((bgr_lt hb ha).mp q))]
    exact k2 h H locs ls hlb hP hS hlo2
theorem bg_weak {K : bgK} {bb : Bool} {n z : Nat} {Q : State → Prop} {w : bgW} {pc : Nat} {L : List (Option bgV)} {st : List bgV} (h : bgX K false n z Q w pc L st) : bgX K bb n z Q w pc L st := fun H locs ls _ => h H locs ls (fun e => by cases e)
theorem bg_idiv0 {K : bgK} {own : String} {cc : ByteArray} {nL : Nat} {rt : Option FieldType} {bb : Bool} {n z : Nat} {Q : State → Prop} {w : bgW} {pc pc' : Nat} {L : List (Option bgV)} {st : List bgV} (C : bgCx K own cc nL rt) {a b : Int} (hd : bgd cc pc .idiv 1 pc') (hb : ¬ Int32.ofInt b = 0) (kk : ∀ v : Int, bgX K bb n z Q w pc' L (bi v :: st)) : bgX K bb n z Q w pc L (bi b :: bi a :: st) := by
  obtain ⟨h1, rfl⟩ := hd
  intro H locs ls hlb hP hS hl
  have k1 := kk (Int32.ofInt a / Int32.ofInt b).toInt H locs ls hlb hP hS hl
  refine lv_idiv C.hx C.hb h1 hb ?_
  have e : Value.int (Int32.ofInt a / Int32.ofInt b) = bgC (kAd K) (bi (Int32.ofInt a / Int32.ofInt b).toInt) := by
    show _ = Value.int (Int32.ofInt (Int32.ofInt a / Int32.ofInt b).toInt)
    rw [Int32.ofInt_toInt]
  rw [e]
  exact k1
/-! fewer known locals -/
def bgMask : List (Option bgV) → List Bool → List (Option bgV)
  | x :: a, b :: m => (if b then x else none) :: bgMask a m
  | _, _ => []
theorem bgMask_len : ∀ (L : List (Option bgV)) (m : List Bool), m.length = L.length → (bgMask L m).length = L.length
  | [], [], _ => rfl
  | [], _ :: _, h => by cases h
  | _ :: _, [], h => by cases h
  | x :: a, b :: m, h => by
    show (bgMask a m).length + 1 = a.length + 1
    rw [bgMask_len a m (by simpa using h)]
theorem bgMask_get : ∀ (L : List (Option bgV)) (m : List Bool) (i : Nat) (v : bgV), (bgMask L m)[i]? = some (some v) → L[i]? = some (some v)
  | [], [], i, v, h => by simp [bgMask] at h
  | [], _ :: _, i, v, h => by simp [bgMask] at h
  | _ :: _, [], i, v, h => by simp [bgMask] at h
  | x :: a, b :: m, 0, v, h => by
    have h1 : some (if b then x else none) = some (some v) := h
    cases b with
    | true => exact h1
    | false => cases h1
  | x :: a, b :: m, i + 1, v, h => bgMask_get a m i v h
theorem bg_wl {K : bgK} {bb : Bool} {n z : Nat} {Q : State → Prop} {w : bgW} {pc : Nat} {L : List (Option bgV)} {st : List bgV} (m : List Bool) (hm : m.length = L.length) (h : bgX K bb n z Q w pc (bgMask L m) st) : bgX K bb n z Q w pc L st :=
  fun H locs ls hb hP hS hl => h H locs ls hb hP hS ⟨by rw [bgMask_len L m hm]; exact hl.1, hl.2.1, fun i v hv => hl.2.2 i v (bgMask_get L m i v hv)⟩
/-! a loop: a measure that falls -/
theorem bg_loop {K : bgK} {bb : Bool} {n z : Nat} {Q : State → Prop} {pc : Nat} {α : Type} (μ : α → Nat) (P : α → Prop) (S : α → bgW × List (Option bgV) × List bgV)
    (step : ∀ a, P a → (∀ a', P a' → μ a' < μ a → bgX K bb n z Q (S a').1 pc (S a').2.1 (S a').2.2) → bgX K bb n z Q (S a).1 pc (S a).2.1 (S a).2.2) : ∀ a, P a → bgX K bb n z Q (S a).1 pc (S a).2.1 (S a).2.2 := by
  have key : ∀ m a, μ a < m → P a → bgX K bb n z Q (S a).1 pc (S a).2.1 (S a).2.2 := by
    intro m
    induction m with
    | zero => intro a h; omega
    | succ m ih => exact fun a h hp => step a hp (fun a' hp' h' => ih a' (by omega) hp')
  exact fun a hp => key (μ a + 1) a (by omega) hp
end
section
/-! how a method ends: it returned (nothing, or an int), or it threw (an exception of the class number X) -/
abbrev bgRes : Type := Option Int ⊕ Nat
def bgXn (X : Nat) : String := bgXs.getD X ""
def bgRs (st t : State) (r : bgRes) (o : Outcome) : Prop := match r with
  | .inl none => o = .returned none
  | .inl (some v) => o = .returned (some (.int (Int32.ofInt v)))
  | .inr X => ∃ (a : Addr) (ce : Cell), o = .threw a ∧ t.heap[a]? = some ce ∧ st.vm.findClass (bgXn X) = some ce.cls ∧ ce.vm = .none
def bgFe (G : bgGl) (pu : Bool) (st t : State) (mc ms : Nat) : Prop := ∃ L : List Loc, (pu = true → L = []) ∧ (st.WarmedH t.vm ∧ st.sameButNew ({ t with vm := st.vm } : State) L mc ms) ∧ ∀ q ∈ L, bgA G q.base
/-- the cells (and slots) that it made: c0 if it returned, one exception (of six slots) if it threw -/
def bgCe (c0 : Nat) (r : bgRes) : Nat := match r with
  | .inl _ => c0
  | .inr _ => 1
def bgSl (z0 : Nat) (r : bgRes) : Nat := match r with
  | .inl _ => z0
  | .inr _ => 6
def bgO (G : bgGl) (pu : Bool) (c0 z0 : Nat) (post : bgRes → bgW → Prop) (st : State) (o : Outcome) (t : State) : Prop := ∃ (r : bgRes) (w : bgW), bgRs st t r o ∧ post r w ∧ va_P G.2.2.2.1 bgCl (bgL G.2.2.1 G.2.1 w) t.heap ∧ va_F (bgA G) st t ∧ bgFe G pu st t (bgCe c0 r) (bgSl z0 r)
def bgQ (K : bgK) (pu : Bool) (c0 z0 : Nat) (post : bgRes → bgW → Prop) : State → Prop := fun t => ∃ o, t.status = .running ∧ Ended t (kB K) o ∧ bgO K.1 pu c0 z0 post (kS K) o t
/-- A CONTRACT: method y with the arguments av in the world w ends, and 'post' says how -/
def bgM (G : bgGl) (pu : Bool) (c0 z0 : Nat) (y : MethodName) (cw : Cond) (rm : Room) (av : List bgV) (w : bgW) (post : bgRes → bgW → Prop) : Prop :=
  MetFree G.1 y (headSpec [cw] rm) (va_Pc (av.map (bgC G.2.1)) (bgS G w)) (fun _ _ _ _ _ => True) (fun _ st o t => bgO G pu c0 z0 post st o t)
theorem bg_met {G : bgGl} {pu : Bool} {c0 z0 : Nat} {y : MethodName} {cc : ByteArray} {nL : Nat} {rt : Option FieldType} {rm : Room} {av : List bgV} {w : bgW} {post : bgRes → bgW → Prop} (hG : bgOk G) (hy : plainName y.cls = true) (hc : ∀ v ∈ av, (bgC G.2.1 v).category = 1) (hn : av.length ≤ nL)
    (body : ∀ K : bgK, K.1 = G → kR K = rm → (kC K).exceptionTable.isEmpty = true → bgCx K y.cls cc nL rt → bgX K true 0 0 (bgQ K pu c0 z0 post) w 0 (av.map some ++ List.replicate (nL - av.length) none) []) : bgM G pu c0 z0 y (.code y cc nL rt) rm av w post := by
  refine MetFree.of_bodyS (code := cc) (maxLocals := nL) (ret := rt) hy ?_ ?_
  · intro args s m h hn
    obtain ⟨meth, c, h1, h2, h3, h4, h5, h6, -, -⟩ := Cond.code_spec hn (atoms_spec (ws := [Cond.code y cc nL rt]) h _ List.mem_cons_self)
    exact ⟨meth, c, h1, h2, h3, h4, h5, h6⟩
  · intro p e s m args below meth c s₁ B hml hP _
    obtain ⟨rfl, hS⟩ := hP
    have hcode := atoms_spec (ws := [Cond.code y cc nL rt]) B.pre _ List.mem_cons_self
    have hex := B.noHandlers hcode
    have hh0 : s₁.heap = s.heap := by rw [B.state]; rfl
    obtain ⟨hP0, hW0, hz0, hq0⟩ := id hS
    have C : bgCx (G, p, e, rm, s, m, (av.map (bgC G.2.1)).toArray, below, meth, c) y.cls cc nL rt := ⟨B.exec, B.bytes, hml, findClass_of_methodNamed B.named, B.returns, B.notSynchronized, hG, ⟨w, hS⟩, fun x hx => bg_word (List.mem_filter.mp hx).2 hW0 (hG.2.2.2.1 x (List.mem_filter.mp hx).1)⟩
    have k1 := body (G, p, e, rm, s, m, (av.map (bgC G.2.1)).toArray, below, meth, c) rfl rfl hex C s.heap [] _ (fun _ => rfl) hP0 va_S.rf (bgLoc.entry av nL hc hn)
    have k2 : W p G.1 e rm s m (av.map (bgC G.2.1)).toArray below meth c s.heap [] 0 0 (bgQ (G, p, e, rm, s, m, (av.map (bgC G.2.1)).toArray, below, meth, c) pu c0 z0 post) (entryFrame m (av.map (bgC G.2.1)).toArray nL) := by
      rw [lg_entry_eq]
      exact k1
    obtain ⟨t, a1, o, b1, b2, b3⟩ := k2 s₁ hh0 (Stand.of_body B)
    exact ⟨t, o, a1, b1, b2, b3⟩
section BGE
variable {K : bgK} {own : String} {cc : ByteArray} {nL : Nat} {rt : Option FieldType} {bb pu : Bool} {n z c0 z0 : Nat} {w : bgW} {pc pc' : Nat} {L : List (Option bgV)} {post : bgRes → bgW → Prop}
theorem bg_ofMQ {t : State} {locs : List Loc} {H : Heap} {r : Option Int} {o0 : Outcome} (ho : ∀ t : State, bgRs (kS K) t (.inl r) o0) (hpu : pu = true → locs = []) (hP : va_P (kD K) bgCl (bgL (kCA K) (kAd K) w) H) (hS : va_S (bgA K.1) (kS K).heap H locs) (hn : n ≤ c0) (hz : z ≤ z0) (hp : post (.inl r) w)
    (h : MQ (kB K) (fun _ _ o t => o = o0 ∧ t.heap = H) (kA K) (kS K) n z (fun q => ∃ l ∈ locs, l.base = q) t) : bgQ K pu c0 z0 post t := by
  obtain ⟨o, h1, h2, ⟨rfl, ht⟩, L, hF, hL⟩ := h
  refine ⟨o, h1, h2, .inl r, w, ho t, hp, by rw [ht]; exact hP, hS.F ht, L, fun hp => ?_, ⟨hF.2.1, hF.2.2.mono hn hz⟩, fun q hq => ?_⟩
  · cases L with
    | nil => rfl
    | cons q L =>
      obtain ⟨l, hl, -⟩ := hL q List.mem_cons_self
      rw [hpu hp] at hl
      cases hl
  · obtain ⟨l, hl, e⟩ := hL q hq
    have := hS.2.2 l hl
    rw [e] at this
    exact this
theorem bg_iret (C : bgCx K own cc nL rt) {v : Int} (hd : bgd cc pc .ireturn 1 pc') (hpu : pu = true → bb = true) (hrt : rt = some .int ∨ (rt = some .boolean ∧ (v = 0 ∨ v = 1))) (hn : n ≤ c0) (hz : z ≤ z0) (hp : post (.inl (some v)) w) : bgX K bb n z (bgQ K pu c0 z0 post) w pc L [bi v] := by
  obtain ⟨h1, -⟩ := hd
  intro H locs ls hlb hP hS hlo T hT X
  rcases hrt with h | ⟨h, hv⟩
  · obtain ⟨t, a, b⟩ := W.iret (Qc := fun _ _ o t => o = .returned (some (.int (Int32.ofInt v))) ∧ t.heap = H) (free := fun q => ∃ l ∈ locs, l.base = q) C.hx C.hb (C.hr.trans h) (fun t ht _ => ⟨rfl, ht⟩) (fun q hq => ⟨q, hq, rfl⟩) h1 (hlocks := C.hlk) T hT X
    exact ⟨t, a, bg_ofMQ (r := some v) (fun _ => rfl) (fun e => hlb (hpu e)) hP hS hn hz hp b⟩
  · have hna : narrow .boolean (.int (Int32.ofInt v)) = .int (Int32.ofInt v) := by
      rcases hv with rfl | rfl <;> rfl
    obtain ⟨t, a, b⟩ := W.zret (Qc := fun _ _ o t => o = .returned (some (.int (Int32.ofInt v))) ∧ t.heap = H) (free := fun q => ∃ l ∈ locs, l.base = q) C.hx C.hb (C.hr.trans h) hna (fun t ht _ => ⟨rfl, ht⟩) (fun q hq => ⟨q, hq, rfl⟩) h1 (hlocks := C.hlk) T hT X
    exact ⟨t, a, bg_ofMQ (r := some v) (fun _ => rfl) (fun e => hlb (hpu e)) hP hS hn hz hp b⟩
theorem bg_ret (C : bgCx K own cc nL rt) (hd : bgd cc pc .return_ 1 pc') (hpu : pu = true → bb = true) (hrt : rt = none) (hn : n ≤ c0) (hz : z ≤ z0) (hp : post (.inl none) w) : bgX K bb n z (bgQ K pu c0 z0 post) w pc L [] := by
  obtain ⟨h1, -⟩ := hd
  intro H locs ls hlb hP hS hlo T hT X
  obtain ⟨t, a, b⟩ := W.vret (Qc := fun _ _ o t => o = .returned none ∧ t.heap = H) (free := fun q => ∃ l ∈ locs, l.base = q) C.hx C.hb (C.hr.trans hrt) (fun t ht _ => ⟨rfl, ht⟩) (fun q hq => ⟨q, hq, rfl⟩) h1 (hlocks := C.hlk) T hT X
  exact ⟨t, a, bg_ofMQ (r := none) (fun _ => rfl) (fun e => hlb (hpu e)) hP hS hn hz hp b⟩
end BGE
/-! calls -/
/-- the step into a call: from the stack stk, with the arguments av taken, st left; y is the method, nL its locals -/
def bgInv (K : bgK) (y : MethodName) (cw : Cond) (nY : Nat) (w : bgW) (pc : Nat) (L : List (Option bgV)) (stk av st : List bgV) : Prop :=
  ∀ (H : Heap) (locs : List Loc) (ls : Array Slot), va_P (kD K) bgCl (bgL (kCA K) (kAd K) w) H → va_S (bgA K.1) (kS K).heap H locs → bgLoc (kAd K) ls L → ∀ (n z : Nat) (T : State), T.heap = H →
    Stand (kP K) (kL K) (kE K) (kR K) (kS K) (kM K) (kA K) (kB K) (kMe K) (kC K) T locs n z →
    ∃ (vm₁ : Vm) (mk : MethodId) (ig : Instr), Stand (kP K) (kL K) (kE K) (kR K) (kS K) (kM K) (kA K) (kB K) (kMe K) (kC K) (T.setVm vm₁) locs n z ∧ decode (kC K).code pc = .ok (ig, 3) ∧
      (T.setVm vm₁).methodNamed? y = some mk ∧ cw.before (av.map (bgC (kAd K))).toArray (T.setVm vm₁) = true ∧ (Cond.initialized y.cls).before (av.map (bgC (kAd K))).toArray (T.setVm vm₁) = true ∧
      (∃ (me : Method) (cY : Code), (T.setVm vm₁).vm.method? mk = some me ∧ me.code = some cY ∧ cY.maxLocals = nY) ∧
      ∀ target, (∀ acts, Steps (kP K).tables (kE K) (kB K) (doInvoke (kE K) ((T.setVm vm₁).setTop (F0 (kM K) pc ls (st.map (bgC (kAd K))))) acts mk (av.map (bgC (kAd K))).toArray).1 target) →
        Steps (kP K).tables (kE K) (kB K) (T.setTop (F0 (kM K) pc ls (stk.map (bgC (kAd K))))) target
section BGI
variable {K : bgK} {own : String} {cc : ByteArray} {nL : Nat} {rt : Option FieldType} {w : bgW} {pc pc' : Nat} {L : List (Option bgV)} {stk st av : List bgV} {y : MethodName} {bytes : ByteArray} {nY k ci idx N : Nat} {rY : Option FieldType} {C0 : String} {T : u_T} {ty : Nat → FieldType}
theorem bg_word1 (C : bgCx K own cc nL rt) {x : Cond} (hx : x ∈ bgTs) {U : State} (hW : (kS K).WarmedH U.vm) (A : Array Value) : x.before A U = true := bg_word (List.mem_filter.mp hx).2 hW (C.hts x hx)
theorem bg_invV (C : bgCx K own cc nL rt) (F : bgCF ci C0 T ty N) (hk : bgKinds[k]? = some (.inl ci)) (hl : Cond.methodLink own idx y ∈ bgTs) (hin : Cond.instanceMethod y ∈ bgTs) (hse : Cond.selects C0 y y ∈ bgTs) (hco : Cond.code y bytes nY rY ∈ bgTs) (hini : Cond.initialized y.cls ∈ bgTs)
    (hy : y.cls ≠ "java/lang/invoke/MethodHandle" ∧ y.cls ≠ "java/lang/invoke/VarHandle") {nA : Nat} (ha : (parseMethodDescriptor y.desc).map (fun d => d.parameters.length) = some nA) (hA : nA = av.length) (hd : bgd cc pc (.invokevirtual idx) 3 pc') (hst : stk = av.reverse ++ br k :: st) :
    bgInv K y (.code y bytes nY rY) nY w pc L stk (br k :: av) st := by
  obtain ⟨h1, -⟩ := hd
  subst hst
  intro H locs ls hP hS hlo n z U hU X
  obtain ⟨mk, methM, hnamed, hmethM, hstM, habM⟩ := Cond.instanceMethod_spec (C.hts _ hin)
  obtain ⟨methM', cM, hmethM', hcM, -, hlM, -, -, -, hsigM⟩ := Cond.code_spec hnamed (C.hts _ hco)
  cases hmethM.symm.trans hmethM'
  obtain ⟨c2, r2, m2, q1, q2, q3, q4, kP, hkP, hkPi⟩ := Cond.selects_spec (C.hts _ hse)
  obtain ⟨cellB, hcB, hoB, hclB⟩ := va_recv C.hK hP F.1 (bg_objAt hk)
  cases hclB.symm.trans q1
  cases (State.methodFound?_of_named hnamed hy).symm.trans q2
  cases hnamed.symm.trans q3
  have hselP : selectMethod (kE K).platform (kS K).vm cellB.cls mk = .method mk := by rw [Launch.admits_selectMethod X.admits]; exact q4
  have hlen : (av.map (bgC (kAd K))).length = methM.sig.parameters.length := by
    rw [hsigM] at ha
    rw [List.length_map, ← hA]
    exact (Option.some.inj ha).symm
  obtain ⟨vm₁, X₁, hstep₁⟩ := X.invokevirtual C.hx C.hown (C.hts _ hl) hnamed hmethM hstM hkP hkPi hy (a := kAd K k) (cell := cellB) (by rw [hU]; exact hcB)
    (fun z h => by rw [h] at hoB; cases hoB) hselP hmethM habM hkP hkPi (g := F0 (kM K) pc ls ((av.reverse ++ br k :: st).map (bgC (kAd K)))) rfl (argsL := av.map (bgC (kAd K))) (rest := st.map (bgC (kAd K))) hlen (by rw [List.map_append, List.map_reverse]; rfl) (by rw [C.hb]; exact h1)
  have hm1 : (U.setVm vm₁).vm.method? mk = some methM := by rw [X₁.warmed.alike.method?]; exact hmethM
  exact ⟨vm₁, mk, _, X₁, by rw [C.hb]; exact h1, X₁.named hnamed, bg_word1 C hco X₁.warmed _, bg_word1 C hini X₁.warmed _, ⟨methM, cM, hm1, hcM, hlM⟩, hstep₁⟩
theorem bg_invVN (C : bgCx K own cc nL rt) {host : String} (F : bgCF ci C0 T ty N) (hk : bgKinds[k]? = some (.inl ci)) (hl : Cond.methodLinkNest own idx y host ∈ bgTs) (hin : Cond.instanceMethod y ∈ bgTs) (hse : Cond.selects C0 y y ∈ bgTs) (hco : Cond.code y bytes nY rY ∈ bgTs) (hini : Cond.initialized y.cls ∈ bgTs)
    (hy : y.cls ≠ "java/lang/invoke/MethodHandle" ∧ y.cls ≠ "java/lang/invoke/VarHandle") {nA : Nat} (ha : (parseMethodDescriptor y.desc).map (fun d => d.parameters.length) = some nA) (hA : nA = av.length) (hd : bgd cc pc (.invokevirtual idx) 3 pc') (hst : stk = av.reverse ++ br k :: st) :
    bgInv K y (.code y bytes nY rY) nY w pc L stk (br k :: av) st := by
  obtain ⟨h1, -⟩ := hd
  subst hst
  intro H locs ls hP hS hlo n z U hU X
  obtain ⟨mk, methM, hnamed, hmethM, hstM, habM⟩ := Cond.instanceMethod_spec (C.hts _ hin)
  obtain ⟨methM', cM, hmethM', hcM, -, hlM, -, -, -, hsigM⟩ := Cond.code_spec hnamed (C.hts _ hco)
  cases hmethM.symm.trans hmethM'
  obtain ⟨c2, r2, m2, q1, q2, q3, q4, kP, hkP, hkPi⟩ := Cond.selects_spec (C.hts _ hse)
  obtain ⟨cellB, hcB, hoB, hclB⟩ := va_recv C.hK hP F.1 (bg_objAt hk)
  cases hclB.symm.trans q1
  cases (State.methodFound?_of_named hnamed hy).symm.trans q2
  cases hnamed.symm.trans q3
  have hselP : selectMethod (kE K).platform (kS K).vm cellB.cls mk = .method mk := by rw [Launch.admits_selectMethod X.admits]; exact q4
  have hlen : (av.map (bgC (kAd K))).length = methM.sig.parameters.length := by
    rw [hsigM] at ha
    rw [List.length_map, ← hA]
    exact (Option.some.inj ha).symm
  obtain ⟨vm₁, X₁, hstep₁⟩ := X.invokevirtualNest C.hx C.hown (C.hts _ hl) hnamed hmethM hstM hkP hkPi hy (a := kAd K k) (cell := cellB) (by rw [hU]; exact hcB)
    (fun z h => by rw [h] at hoB; cases hoB) hselP hmethM habM hkP hkPi (g := F0 (kM K) pc ls ((av.reverse ++ br k :: st).map (bgC (kAd K)))) rfl (argsL := av.map (bgC (kAd K))) (rest := st.map (bgC (kAd K))) hlen (by rw [List.map_append, List.map_reverse]; rfl) (by rw [C.hb]; exact h1)
  have hm1 : (U.setVm vm₁).vm.method? mk = some methM := by rw [X₁.warmed.alike.method?]; exact hmethM
  exact ⟨vm₁, mk, _, X₁, by rw [C.hb]; exact h1, X₁.named hnamed, bg_word1 C hco X₁.warmed _, bg_word1 C hini X₁.warmed _, ⟨methM, cM, hm1, hcM, hlM⟩, hstep₁⟩
theorem bg_invS (C : bgCx K own cc nL rt) (hl : Cond.methodLink own idx y ∈ bgTs) (hsta : Cond.static y ∈ bgTs) (hco : Cond.code y bytes nY rY ∈ bgTs) (hini : Cond.initialized y.cls ∈ bgTs)
    (hy : y.cls ≠ "java/lang/invoke/MethodHandle" ∧ y.cls ≠ "java/lang/invoke/VarHandle") {nA : Nat} (ha : (parseMethodDescriptor y.desc).map (fun d => d.parameters.length) = some nA) (hA : nA = av.length) (hd : bgd cc pc (.invokestatic idx) 3 pc') (hst : stk = av.reverse ++ st) :
    bgInv K y (.code y bytes nY rY) nY w pc L stk av st := by
  obtain ⟨h1, -⟩ := hd
  subst hst
  intro H locs ls hP hS hlo n z U hU X
  obtain ⟨mk, hnamed⟩ := Cond.code_named (C.hts _ hco)
  obtain ⟨methM, cM, hmethM, hcM, -, hlM, -, -, -, hsigM⟩ := Cond.code_spec hnamed (C.hts _ hco)
  have hstatic : methM.isStatic = true := Cond.static_spec hnamed hmethM (C.hts _ hsta)
  obtain ⟨kP, hkP, -⟩ := className_of_methodNamed hnamed
  have hinitP : kP.init = .initialized := Cond.initialized_spec (findClass_of_methodNamed hnamed) hkP (C.hts _ hini)
  have hlen : (av.map (bgC (kAd K))).length = methM.sig.parameters.length := by
    rw [hsigM] at ha
    rw [List.length_map, ← hA]
    exact (Option.some.inj ha).symm
  obtain ⟨vm₁, X₁, hstep₁⟩ := X.invokestatic C.hx C.hown (C.hts _ hl) hnamed hmethM hstatic hkP hinitP hy (g := F0 (kM K) pc ls ((av.reverse ++ st).map (bgC (kAd K)))) rfl (argsL := av.map (bgC (kAd K))) (rest := st.map (bgC (kAd K))) hlen (by rw [List.map_append, List.map_reverse]) (by rw [C.hb]; exact h1)
  have hm1 : (U.setVm vm₁).vm.method? mk = some methM := by rw [X₁.warmed.alike.method?]; exact hmethM
  exact ⟨vm₁, mk, _, X₁, by rw [C.hb]; exact h1, X₁.named hnamed, bg_word1 C hco X₁.warmed _, bg_word1 C hini X₁.warmed _, ⟨methM, cM, hm1, hcM, hlM⟩, hstep₁⟩
end BGI
/-- what a throw in flight must come to: the exception of the class X lies at a, the walk's frame at pc below it -/
def bgXt (K : bgK) (bb : Bool) (n z : Nat) (Q : State → Prop) (w : bgW) (X pc : Nat) (L : List (Option bgV)) : Prop :=
  ∀ (H : Heap) (locs : List Loc) (ls : Array Slot) (a : Addr) (ce : Cell) (stk : List Value), (bb = true → locs = []) → va_P (kD K) bgCl (bgL (kCA K) (kAd K) w) H → va_S (bgA K.1) (kS K).heap H locs → bgLoc (kAd K) ls L → H[a]? = some ce → (kS K).vm.findClass (bgXn X) = some ce.cls → ce.vm = .none →
    ∀ T : State, T.heap = H → Stand (kP K) (kL K) (kE K) (kR K) (kS K) (kM K) (kA K) (kB K) (kMe K) (kC K) T locs n z → ∃ t, Steps (kP K).tables (kE K) (kB K) ((T.setTop (F0 (kM K) pc ls stk)).pushFrame (.throwing a)) t ∧ Q t
def bgPush (r : Option Int) : List bgV := match r with
  | none => []
  | some v => [bi v]
section BGC
variable {K : bgK} {own : String} {cc : ByteArray} {nL : Nat} {rt : Option FieldType} {bb pu : Bool} {n z c0 z0 c1 z1 : Nat} {Q : State → Prop} {w : bgW} {pc : Nat} {L : List (Option bgV)} {stk st av : List bgV} {y : MethodName} {cw : Cond} {nY : Nat} {rm : Room} {post : bgRes → bgW → Prop}
theorem bg_now (C : bgCx K own cc nL rt) {H : Heap} {locs : List Loc} {U : State} (hP : va_P (kD K) bgCl (bgL (kCA K) (kAd K) w) H) (hS : va_S (bgA K.1) (kS K).heap H locs) (hU : U.heap = H) (hW : (kS K).WarmedH U.vm) : bgS K.1 w U := by
  obtain ⟨w0, -, hW0, hz0, hq0⟩ := C.hs
  refine ⟨by rw [hU]; exact hP, State.WarmedH.trans hW0 hW, by rw [hU]; exact Nat.le_trans hz0 hS.1, fun q hq => ?_⟩
  rw [hU, hS.2.1 q (Nat.lt_of_lt_of_le hq hz0) (fun h => Nat.not_le.mpr hq h)]
  exact hq0 q hq
set_option maxHeartbeats 1000000 in
theorem bg_call (C : bgCx K own cc nL rt) (M : bgM K.1 pu c0 z0 y cw rm av w post) (I : bgInv K y cw nY w pc L stk av st) (hL : L.length = nL) (hrm : rm.frames + 1 ≤ (kR K).frames ∧ 8 + (nY + 11) + rm.locals ≤ (kR K).locals) (hcs : n + rm.cells ≤ (kR K).cells ∧ z + rm.slots ≤ (kR K).slots) (hst : ((st.map (bgC (kAd K))).map fun v => v.category).sum ≤ 8)
    (kr : ∀ r w', post (.inl r) w' → bgX K (pu && bb) (n + c0) (z + z0) Q w' (pc + 3) L (bgPush r ++ st)) (kt : ∀ X w', post (.inr X) w' → bgXt K (pu && bb) (n + 1) (z + 6) Q w' X pc L) : bgX K bb n z Q w pc L stk := by
  intro H locs ls hlb hP hS hlo T hT X0
  obtain ⟨vm₁, mk, ig, X, hdg, hn, hcw, hini, ⟨me, cY, hmY, hcY, hlY⟩, hstep⟩ := I H locs ls hP hS hlo n z T hT X0
  have hnow : bgS K.1 w (T.setVm vm₁) := bg_now C hP hS hT X.warmed
  generalize hUe : T.setVm vm₁ = U at X hn hcw hini hmY hstep hnow
  have hUH : U.heap = H := by rw [← hUe]; exact hT
  generalize hae : (av.map (bgC (kAd K))).toArray = a at hcw hini hstep
  generalize hge : F0 (kM K) pc ls (st.map (bgC (kAd K))) = g at hstep
  have hgm : g.method = kM K := by rw [← hge]
  have hgp : g.pc = pc := by rw [← hge]
  have hsize : g.locals.size = (kC K).maxLocals := by rw [← hge, C.hml]; exact hlo.1.trans hL
  have hW : 2 * g.monitorRoom + (g.stack.map fun v => v.category).sum ≤ 8 := by rw [← hge]; exact lv_room hst
  obtain ⟨kY, hkY, -⟩ := className_of_methodNamed hn
  have hinitY : kY.init = .initialized := Cond.initialized_spec (findClass_of_methodNamed hn) hkY hini
  have h : At U g.method (kC K) (kB K) := by rw [hgm]; exact X.here
  have hdg' : decode (kC K).code g.pc = .ok (ig, 3) := by rw [hgp]; exact hdg
  have happ : (headSpec [cw] rm).appliesLoose y (kE K).platform (U.calling g mk a) = true :=
    Spec.appliesLoose_calling (g := g) h hdg' hn hkY hinitY
      (X.room_calling (g := g) (R' := rm) hsize hmY hcY hrm.1 (by rw [hlY]; omega) hcs.1 hcs.2) (atoms_intro fun x hx => by
        rw [List.mem_singleton.mp hx]
        exact hcw)
  obtain ⟨mid, hmid⟩ := h.above
  have hfr : (U.setTop g).frames = (.java g :: mid) ++ (kB K) := by rw [State.frames_setTop' g h.top, hmid]; rfl
  obtain ⟨o, s₂, hsteps, -, hend, hq⟩ := Steps.callFree M (kP K) X.admits X.cas X.clock (acts := []) hfr happ ⟨hae.symm, hnow⟩ trivial
  have hq' : bgO K.1 pu c0 z0 post (U.calling g mk a) o s₂ := hq
  rw [State.frames_setTop' g h.top] at hend
  obtain ⟨r, w', hrs, hpo, hP2, hF2, Lc, hpu, ⟨hW₂, e2, q2, q3, q4, q5, q6⟩, hLc⟩ := hq'
  have hlb2 : (pu && bb) = true → locs ++ Lc = [] := by
    intro h
    rw [Bool.and_eq_true] at h
    rw [hlb h.2, hpu h.1]
    rfl
  have e3 : s₂ = ({ (U.calling g mk a).setFrames s₂.frames with heap := s₂.heap, slotsUsed := s₂.slotsUsed } : State).setVm s₂.vm := by
    have : s₂ = ({ s₂ with vm := (U.calling g mk a).vm } : State).setVm s₂.vm := rfl
    rw [e2] at this
    exact this
  have hW' : U.WarmedH s₂.vm := hW₂
  obtain ⟨g₀, hg0⟩ := Option.isSome_iff_exists.mp h.top
  obtain ⟨rr, hr⟩ := State.topJava?_eq_some.mp hg0
  have hsame : U.sameButNew ({ U with heap := s₂.heap, slotsUsed := s₂.slotsUsed } : State) Lc (bgCe c0 r) (bgSl z0 r) := by
    refine ⟨?_, q2, q3, q4, q5, q6⟩
    obtain ⟨t, ht, -⟩ := State.frames_cons hr
    show ({ U with heap := s₂.heap, slotsUsed := s₂.slotsUsed } : State) = { U.setFrames U.frames with heap := s₂.heap, slotsUsed := s₂.slotsUsed }
    rw [State.setFrames_self ht]
  have X2 : Stand (kP K) (kL K) (kE K) (kR K) (kS K) (kM K) (kA K) (kB K) (kMe K) (kC K) (({ U with heap := s₂.heap, slotsUsed := s₂.slotsUsed } : State).setVm s₂.vm) (locs ++ Lc) (n + bgCe c0 r) (z + bgSl z0 r) :=
    ⟨X.admits, X.cas, X.clock, X.frames, X.room, X.hears, X.method, X.code, (X.here.setHeapUsed s₂.heap s₂.slotsUsed).setVm hW'.alike, X.tail, State.WarmedH.trans X.warmed hW', X.limits, X.bytes, X.same.trans (hsame.setVm (kS K).vm)⟩
  have hr' : (({ U with heap := s₂.heap, slotsUsed := s₂.slotsUsed } : State).setVm s₂.vm).frames = .java g₀ :: rr := hr
  have hS2 : va_S (bgA K.1) (kS K).heap s₂.heap (locs ++ Lc) := by
    have hFz : U.heap.size ≤ s₂.heap.size := hF2.1
    have hFq : ∀ q : Nat, q < U.heap.size → ¬ bgA K.1 q → s₂.heap[q]? = U.heap[q]? := hF2.2
    rw [hUH] at hFz hFq
    refine ⟨Nat.le_trans hS.1 hFz, fun q h1 h2 => (hFq q (Nat.lt_of_lt_of_le h1 hS.1) h2).trans (hS.2.1 q h1 h2), fun q hq => ?_⟩
    rcases List.mem_append.mp hq with h | h
    · exact hS.2.2 q h
    · exact hLc q h
  have hfin : ∀ tg, Steps (kP K).tables (kE K) (kB K) s₂ tg → Steps (kP K).tables (kE K) (kB K) (T.setTop (F0 (kM K) pc ls (stk.map (bgC (kAd K))))) tg := fun tg hh => hstep tg (fun acts => by
    rw [doInvoke_state]
    exact hsteps.trans hh)
  have retd : ∀ v : Option Value, o = .returned v → s₂ = (({ U with heap := s₂.heap, slotsUsed := s₂.slotsUsed } : State).setVm s₂.vm).setTop { g with pc := g.pc + 3, stack := v.toList ++ g.stack } := by
    intro v hv
    subst hv
    obtain ⟨c₂, i₂, len₂, hc₂, hd₂, hf₂⟩ := hend
    have hcc : c₂ = kC K := by
      have h1 : s₂.code? g.method = U.code? g.method := by
        rw [State.code?_eq, State.code?_eq, hW'.alike.method?]
      exact Option.some.inj (hc₂.symm.trans (h1.trans h.code))
    subst hcc
    have hlen : len₂ = 3 := by rw [hdg'] at hd₂; cases hd₂; rfl
    subst hlen
    refine e3.trans ?_
    rw [hf₂, State.calling_eq h.top, State.setFrames_setFrames, State.setTop_of_frames _ hr', hr]
    rfl
  cases r with
  | inl rv =>
    have hk := kr rv w' hpo s₂.heap (locs ++ Lc) ls hlb2 hP2 hS2 hlo (({ U with heap := s₂.heap, slotsUsed := s₂.slotsUsed } : State).setVm s₂.vm) rfl X2
    obtain ⟨t, a1, b1⟩ := hk
    refine ⟨t, hfin t ?_, b1⟩
    cases rv with
    | none =>
      have e4 := retd none hrs
      rw [e4, ← hge]
      exact a1
    | some v =>
      have e4 := retd (some (.int (Int32.ofInt v))) hrs
      rw [e4, ← hge]
      exact a1
  | inr Xn =>
    obtain ⟨x, ce, ho, hce, hcl, hvm⟩ := hrs
    subst ho
    have hf₂ : s₂.frames = .throwing x :: .java g :: U.frames.tail := hend
    have e4 : s₂ = ((({ U with heap := s₂.heap, slotsUsed := s₂.slotsUsed } : State).setVm s₂.vm).setTop g).pushFrame (.throwing x) := by
      refine e3.trans ?_
      rw [hf₂, State.calling_eq h.top, State.setFrames_setFrames, State.pushFrame, State.frames_setTop _ hr', State.setTop_of_frames _ hr', State.setFrames_setFrames, hr]
      rfl
    have hcl' : (kS K).vm.findClass (bgXn Xn) = some ce.cls := by
      have : U.vm.findClass (bgXn Xn) = some ce.cls := hcl
      rw [X.warmed.alike.findClass] at this
      exact this
    obtain ⟨t, a1, b1⟩ := kt Xn w' hpo s₂.heap (locs ++ Lc) ls x ce (st.map (bgC (kAd K))) hlb2 hP2 hS2 hlo hce hcl' hvm (({ U with heap := s₂.heap, slotsUsed := s₂.slotsUsed } : State).setVm s₂.vm) rfl X2
    refine ⟨t, hfin t ?_, b1⟩
    rw [e4, ← hge]
    exact a1
/-! the four kinds of end -/
abbrev bgPv (φ : bgW → Prop) : bgRes → bgW → Prop := fun r w => r = .inl none ∧ φ w
abbrev bgPi (φ : Int → bgW → Prop) : bgRes → bgW → Prop := fun r w => ∃ v, r = .inl (some v) ∧ φ v w
abbrev bgPvt (φ : bgW → Prop) (ψ : Nat → bgW → Prop) : bgRes → bgW → Prop := fun r w => (r = .inl none ∧ φ w) ∨ ∃ X, r = .inr X ∧ ψ X w
abbrev bgPit (φ : Int → bgW → Prop) (ψ : Nat → bgW → Prop) : bgRes → bgW → Prop := fun r w => (∃ v, r = .inl (some v) ∧ φ v w) ∨ ∃ X, r = .inr X ∧ ψ X w
variable {φ : bgW → Prop} {φi : Int → bgW → Prop} {ψ : Nat → bgW → Prop} {pc' : Nat}
theorem bg_cv (C : bgCx K own cc nL rt) (M : bgM K.1 pu 0 0 y cw rm av w (bgPv φ)) (I : bgInv K y cw nY w pc L stk av st) (hL : L.length = nL) (hrm : rm.frames + 1 ≤ (kR K).frames ∧ 8 + (nY + 11) + rm.locals ≤ (kR K).locals) (hcs : n + rm.cells ≤ (kR K).cells ∧ z + rm.slots ≤ (kR K).slots) (hst : ((st.map (bgC (kAd K))).map fun v => v.category).sum ≤ 8) (hpc : pc + 3 = pc')
    (kr : ∀ w', φ w' → bgX K (pu && bb) n z Q w' pc' L st) : bgX K bb n z Q w pc L stk := by
  subst hpc
  refine bg_call C M I hL hrm hcs hst (fun r w' hp => ?_) (fun X w' hp => ?_)
  · obtain ⟨e, h⟩ := hp
    cases e
    exact kr w' h
  · obtain ⟨e, -⟩ := hp
    cases e
theorem bg_ci (C : bgCx K own cc nL rt) (M : bgM K.1 pu 0 0 y cw rm av w (bgPi φi)) (I : bgInv K y cw nY w pc L stk av st) (hL : L.length = nL) (hrm : rm.frames + 1 ≤ (kR K).frames ∧ 8 + (nY + 11) + rm.locals ≤ (kR K).locals) (hcs : n + rm.cells ≤ (kR K).cells ∧ z + rm.slots ≤ (kR K).slots) (hst : ((st.map (bgC (kAd K))).map fun v => v.category).sum ≤ 8) (hpc : pc + 3 = pc')
    (kr : ∀ v w', φi v w' → bgX K (pu && bb) n z Q w' pc' L (bi v :: st)) : bgX K bb n z Q w pc L stk := by
  subst hpc
  refine bg_call C M I hL hrm hcs hst (fun r w' hp => ?_) (fun X w' hp => ?_)
  · obtain ⟨v, e, h⟩ := hp
    cases e
    exact kr v w' h
  · obtain ⟨v, e, -⟩ := hp
    cases e
theorem bg_cvt (C : bgCx K own cc nL rt) (M : bgM K.1 pu c0 z0 y cw rm av w (bgPvt φ ψ)) (I : bgInv K y cw nY w pc L stk av st) (hL : L.length = nL) (hrm : rm.frames + 1 ≤ (kR K).frames ∧ 8 + (nY + 11) + rm.locals ≤ (kR K).locals) (hcs : n + rm.cells ≤ (kR K).cells ∧ z + rm.slots ≤ (kR K).slots) (hst : ((st.map (bgC (kAd K))).map fun v => v.category).sum ≤ 8) (hpc : pc + 3 = pc')
    (kr : ∀ w', φ w' → bgX K (pu && bb) (n + c0) (z + z0) Q w' pc' L st) (kt : ∀ X w', ψ X w' → bgXt K (pu && bb) (n + 1) (z + 6) Q w' X pc L) : bgX K bb n z Q w pc L stk := by
  subst hpc
  refine bg_call C M I hL hrm hcs hst (fun r w' hp => ?_) (fun X w' hp => ?_)
  · rcases hp with ⟨e, h⟩ | ⟨X, e, -⟩
    · cases e
      exact kr w' h
    · cases e
  · rcases hp with ⟨e, -⟩ | ⟨X', e, h⟩
    · cases e
    · cases e
      exact kt X w' h
theorem bg_cit (C : bgCx K own cc nL rt) (M : bgM K.1 pu c0 z0 y cw rm av w (bgPit φi ψ)) (I : bgInv K y cw nY w pc L stk av st) (hL : L.length = nL) (hrm : rm.frames + 1 ≤ (kR K).frames ∧ 8 + (nY + 11) + rm.locals ≤ (kR K).locals) (hcs : n + rm.cells ≤ (kR K).cells ∧ z + rm.slots ≤ (kR K).slots) (hst : ((st.map (bgC (kAd K))).map fun v => v.category).sum ≤ 8) (hpc : pc + 3 = pc')
    (kr : ∀ v w', φi v w' → bgX K (pu && bb) (n + c0) (z + z0) Q w' pc' L (bi v :: st)) (kt : ∀ X w', ψ X w' → bgXt K (pu && bb) (n + 1) (z + 6) Q w' X pc L) : bgX K bb n z Q w pc L stk := by
  subst hpc
  refine bg_call C M I hL hrm hcs hst (fun r w' hp => ?_) (fun X w' hp => ?_)
  · rcases hp with ⟨v, e, h⟩ | ⟨X, e, -⟩
    · cases e
      exact kr v w' h
    · cases e
  · rcases hp with ⟨v, e, -⟩ | ⟨X', e, h⟩
    · cases e
    · cases e
      exact kt X w' h
/-- no handler here: the throw goes on to the caller -/
theorem bg_thru (C : bgCx K own cc nL rt) {X : Nat} (hpu : pu = true → bb = true) (hex : (kC K).exceptionTable.isEmpty = true) (hn : n ≤ 1) (hz : z ≤ 6) (hp : post (.inr X) w) : bgXt K bb n z (bgQ K pu c1 z1 post) w X pc L := by
  intro H locs ls a ce stk hlb hP hS hlo hce hcl hvm T hT XX
  obtain ⟨hsteps, hrun, hend, hW, hsame⟩ := XX.leaveThrown a (g := F0 (kM K) pc ls stk) rfl rfl rfl (fun x hx => by
    rw [Array.isEmpty_iff.mp hex] at hx
    cases hx) (hlocks := C.hlk)
  refine ⟨_, hsteps, .threw a, hrun, hend, .inr X, w, ⟨a, ce, rfl, ?_, hcl, hvm⟩, hp, ?_, ?_, locs, fun e => hlb (hpu e), ⟨hW, hsame.mono hn hz⟩, hS.2.2⟩
  · show T.heap[a]? = some ce
    rw [hT]; exact hce
  · show va_P _ _ _ T.heap
    rw [hT]; exact hP
  · exact hS.F (t := T.setFrames (.throwing a :: kB K)) hT
end BGC
/-! a throw: new, dup, ldc, the constructor, athrow, in one -/
theorem bg_strRef {A : Array Value} {s U : State} {own tx : String} {k : Nat} (h : (Cond.stringRef own k tx).before A s = true) (hW : s.WarmedH U.vm) : ∃ q, vk_R own k tx q U := by
  cases hc : s.vm.findClass own with
  | none => simp [Cond.before, Cond.holds, Cond.value, hc] at h
  | some cur =>
    obtain ⟨_, _, _, a, -, -, -, -, -, hev⟩ := Cond.stringRef_spec hc h
    exact ⟨a, vk_R.warm hW (vk_R.of (A := A) h hev)⟩
def bgAt (own : String) (ic : Nat) (X : String) (names : List String) : Prop := ∀ a ∈ Bundle.ownAtoms own ic X names, a ∈ bgTs ∨ (a ∈ lw_tbl ∧ ∃ o n d, a = Cond.laysStatic o n d) ∨ a = bgUn ∨ a = bgSe
section BGT
variable {K : bgK} {own : String} {cc : ByteArray} {nL : Nat} {rt : Option FieldType} {bb pu : Bool} {n z c0 z0 : Nat} {w : bgW} {L : List (Option bgV)} {post : bgRes → bgW → Prop}
theorem bg_atoms (C : bgCx K own cc nL rt) {own2 X : String} {ic : Nat} {names : List String} (h : bgAt own2 ic X names) : ∀ a ∈ Bundle.ownAtoms own2 ic X names, a.before (kA K) (kS K) = true := by
  intro a ha
  obtain ⟨w0, -, hW0, -, hq0⟩ := C.hs
  rcases h a ha with h | ⟨h, o, n, d, rfl⟩ | rfl | rfl
  · exact C.hts a h
  · exact bg_laysStatic hW0 hq0 (C.ok.2.2.2.1 _ h)
  · exact bg_isRef hW0 hq0 (C.ok.2.2.2.1 _ bgUn_lays) C.ok.2.2.2.2.1
  · exact bg_isRef hW0 hq0 (C.ok.2.2.2.1 _ bgSe_lays) C.ok.2.2.2.2.2.1
theorem bg_keep {s t : State} {c n : Nat} (h : s.sameButNew t [] c n) {a : Nat} {cell : Cell} (hc : s.heap[a]? = some cell) : t.heap[a]? = some cell := by
  obtain ⟨c', h1, h2, h3, h4⟩ := h.2.2.2.2.2 a cell hc
  rw [h1, h2]
  have e : c'.slots = cell.slots := by
    apply Array.ext_getElem?
    intro i
    exact h4 i (fun q => by cases q)
  rw [e]
set_option maxHeartbeats 1000000 in
theorem bg_throw (C : bgCx K own cc nL rt) {X : Nat} {names : List String} {idx sidx ic p0 p1 p2 p3 p4 p5 : Nat} {tx : String} (hex : (kC K).exceptionTable.isEmpty = true) (hbb : bb = true)
    (hd0 : bgd cc p0 (.new idx) 3 p1) (hd1 : bgd cc p1 .dup 1 p2) (hd2 : bgd cc p2 (.ldc sidx) 2 p3) (hd3 : bgd cc p3 (.invokespecial ic) 3 p4) (hd4 : bgd cc p4 .athrow 1 p5)
    (hcl : Cond.classLink own idx (bgXn X) ∈ bgTs) (hins : Cond.instantiable (bgXn X) 6 ∈ bgTs) (hini : Cond.initialized (bgXn X) ∈ bgTs) (hsr : Cond.stringRef own sidx tx ∈ lw_tbl) (hat : bgAt own ic (bgXn X) names)
    (hfit : Bundle.fit (bgXn X) = true) (hnames : ∀ n ∈ names, Bundle.fit n = true) (hR : names.length + 3 < (kR K).frames) (hRl : 13 * (names.length + 1) + 43 ≤ (kR K).locals) (hL : L.length = nL)
    (hc1 : n + 1 ≤ (kR K).cells) (hs1 : z + 6 ≤ (kR K).slots) (hmc : n + 1 ≤ 1) (hms : z + 6 ≤ 6) (hp : post (.inr X) w) : bgX K bb n z (bgQ K pu c0 z0 post) w p0 L [] := by
  obtain ⟨e0, rfl⟩ := hd0
  obtain ⟨e1, rfl⟩ := hd1
  obtain ⟨e2, rfl⟩ := hd2
  obtain ⟨e3, rfl⟩ := hd3
  obtain ⟨e4, -⟩ := hd4
  intro H locs ls hlb hP hS hlo
  have hl0 := hlb hbb
  subst hl0
  obtain ⟨w0, hP0, hW0, hz0, hq0⟩ := C.hs
  obtain ⟨q, hq⟩ := bg_strRef (C.ok.2.2.2.1 _ hsr) hW0
  refine W.newc (C := bgXn X) (n := 6) C.hx C.hb C.hown (C.hts _ hcl) (C.hts _ hins) (C.hts _ hini) (g := F0 (kM K) p0 ls []) rfl e0 hc1 hs1 (fun cX kX f1 f2 f3 f4 => ?_)
  refine lv_dup (pc := p0 + 3) (rest := []) (va := .ref H.size) C.hx C.hb e1 rfl ?_
  refine va_ldcS C.hx C.hb C.hown hq e2 ?_
  intro T hT XX
  have hsz : ls.size = (kC K).maxLocals := by rw [C.hml]; exact hlo.1.trans hL
  have htr : (kE K).platform.stackTraces = false := by
    rw [XX.admits.platform]
    exact C.ok.1
  obtain ⟨U, hst, hrun, hend, hW, hsame, ce, hce, hoc⟩ := XX.ctorThrowS C.hx htr C.hown hfit hnames (bg_atoms C hat) (fun x hx => by cases hx) f1 f2 (a := H.size) (by rw [hT]; simp) hS.1 (msg := .ref q) rfl (g := F0 (kM K) (p0 + 3 + 1 + 2) ls [.ref q, .ref H.size, .ref H.size]) rfl hsz rfl rfl (rest := []) rfl (by rw [C.hb]; exact e3) (by rw [C.hb]; exact e4) (fun x hx => by
    rw [Array.isEmpty_iff.mp hex] at hx
    cases hx) hR (by show 2 * 0 + 1 + (13 * (names.length + 1) + 42) ≤ _; omega) (hlocks := C.hlk)
  have hk1 : ∀ (a : Nat) (cell : Cell), (kS K).heap[a]? = some cell → U.heap[a]? = some cell := fun a cell h => bg_keep hsame h
  have hk2 : ∀ (a : Nat) (cell : Cell), (kS K).heap[a]? = some cell → T.heap[a]? = some cell := fun a cell h => bg_keep XX.same h
  refine ⟨U, hst, .threw H.size, hrun, hend, .inr X, w, ⟨H.size, ce, rfl, hce, hoc.cls, hoc.vm⟩, hp, ?_, ?_, [], fun _ => rfl, ⟨hW, hsame.mono hmc hms⟩, fun q hq => by cases hq⟩
  · refine hP.kept (fun k x hx => ?_)
    obtain ⟨hk, rfl⟩ := bgL_get hx
    have hlt := (hP0 k _ (bgL_at hk)).lt
    have hlt2 : kAd K k < (kS K).heap.size := hlt
    have hsome : (kS K).heap[kAd K k]? = some (kS K).heap[kAd K k] := Array.getElem?_eq_getElem hlt2
    have h1 := hk1 _ _ hsome
    have h2 := hk2 _ _ hsome
    rw [hT, Array.getElem?_push, if_neg (by have := hS.1; omega)] at h2
    show U.heap[kAd K k]? = H[kAd K k]?
    rw [h1, h2]
  · refine ⟨hsame.2.1, fun a ha _ => ?_⟩
    have hsome : (kS K).heap[a]? = some (kS K).heap[a] := Array.getElem?_eq_getElem ha
    rw [hk1 _ _ hsome, hsome]
end BGT
end
section
/-! names for what the walks want often -/
theorem bg_cat {ad : Nat → Nat} {av : List bgV} (h : av.all (fun v => match v with | .inr (.inr _) => false | _ => true) = true) : ∀ v ∈ av, (bgC ad v).category = 1 := by
  intro v hv
  have h1 := List.all_eq_true.mp h v hv
  match v, h1 with
  | .inl _, _ => rfl
  | .inr (.inl _), _ => rfl
theorem bg_in {ws : List Cond} (is : List Nat) (h : is.map (fun i => lw_tbl[i]?) = ws.map some) (hk : ws.all bgOkW = true) : ∀ w ∈ ws, w ∈ bgTs := by
  intro w hw
  obtain ⟨k, hk2⟩ := List.getElem?_of_mem hw
  have h1 : (is.map (fun i => lw_tbl[i]?))[k]? = some (some w) := by rw [h, List.getElem?_map, hk2]; rfl
  rw [List.getElem?_map] at h1
  cases hi : is[k]? with
  | none => rw [hi] at h1; cases h1
  | some i =>
    rw [hi] at h1
    exact bg_tw i (Option.some.inj h1) (List.all_eq_true.mp hk w hw)
def bgIsLS (w : Cond) : Bool := match w with
  | .laysStatic .. => true
  | _ => false
def bgChk (q : Cond × Option Nat) : Bool := match q.2 with
  | some i => decide (lw_tbl[i]? = some q.1) && (bgOkW q.1 || bgIsLS q.1)
  | none => decide (q.1 = bgUn) || decide (q.1 = bgSe)
theorem bg_atOf {own X : String} {ic : Nat} {names : List String} (is : List (Option Nat)) (h : ((Bundle.ownAtoms own ic X names).zip is).all bgChk = true) (hl : (Bundle.ownAtoms own ic X names).length = is.length) : bgAt own ic X names := by
  intro a ha
  obtain ⟨k, hk⟩ := List.getElem?_of_mem ha
  have hlt : k < is.length := by rw [← hl]; exact (List.getElem?_eq_some_iff.mp hk).1
  have hz : ((Bundle.ownAtoms own ic X names).zip is)[k]? = some (a, is[k]) := by
    rw [List.getElem?_zip_eq_some]
    exact ⟨hk, List.getElem?_eq_getElem hlt⟩
  have h1 := List.all_eq_true.mp h _ (List.mem_of_getElem? hz)
  generalize is[k] = o at h1
  cases o with
  | none =>
    simp only [bgChk, Bool.or_eq_true, decide_eq_true_eq] at h1
    exact Or.inr (Or.inr h1)
  | some i =>
    simp only [bgChk, Bool.and_eq_true, Bool.or_eq_true, decide_eq_true_eq] at h1
    rcases h1.2 with h2 | h2
    · exact Or.inl (bg_tw i h1.1 h2)
    · refine Or.inr (Or.inl ⟨List.mem_of_getElem? h1.1, ?_⟩)
      cases a with
      | laysStatic o n d => exact ⟨o, n, d, rfl⟩
      | _ => cases h2
section BGS
variable {K : bgK} {own : String} {cc : ByteArray} {nL : Nat} {rt : Option FieldType} {bb : Bool} {n z : Nat} {Q : State → Prop} {w : bgW} {pc : Nat} {L : List (Option bgV)} {st : List bgV} {a k dflt lo hi off : Int} {offs : Array Int} {len tgt : Nat}
theorem bg_tabOut (C : bgCx K own cc nL rt) (hd : decode cc pc = .ok (.tableswitch dflt lo hi offs, len)) (hr : bgr a) (h : a < lo ∨ hi < a) (ht : (pc : Int) + dflt = (tgt : Int)) (kk : bgX K bb n z Q w tgt L st) : bgX K bb n z Q w pc L (bi a :: st) := by
  intro H locs ls hlb hP hS hl
  exact lv_tableOut C.hx C.hb hd (by rw [bgr_i hr]; exact h) ht (kk H locs ls hlb hP hS hl)
theorem bg_tabIn (C : bgCx K own cc nL rt) (hd : decode cc pc = .ok (.tableswitch dflt lo hi offs, len)) (e : a = k) (hr : bgr k) (h1 : ¬ k < lo) (h2 : ¬ hi < k) (ho : offs[(k - lo).toNat]? = some off) (ht : (pc : Int) + off = (tgt : Int)) (kk : bgX K bb n z Q w tgt L st) : bgX K bb n z Q w pc L (bi a :: st) := by
  subst e
  intro H locs ls hlb hP hS hl
  exact lv_tableIn C.hx C.hb hd (by rw [bgr_i hr]; exact h1) (by rw [bgr_i hr]; exact h2) (by rw [bgr_i hr]; exact ho) ht (kk H locs ls hlb hP hS hl)
end BGS
/-! the class's side: ranges alone. bgMo: the first number of the reference's objects -/
def bgRg (k : Nat) (i : Int) : Option (Int × Int) := match bgRt[k]? with
  | some (.inl r) => r
  | some (.inr l) => (l[i.toNat]?).join
  | none => none
def bgRgOk (k : Nat) (i v : Int) : Prop := ∀ lo hi, bgRg k i = some (lo, hi) → lo ≤ v ∧ v ≤ hi
def bgN (w : bgW) : Prop := ∀ k i, k < bgMo → bgRgOk k i (w k i)
def bgRel (w0 w : bgW) : Prop := bgN w ∧ ∀ k i, bgMo ≤ k → w k i = w0 k i
theorem bgRel.rfl {w : bgW} (h : bgN w) : bgRel w w := ⟨h, fun _ _ _ => Eq.refl _⟩
theorem bgRel.trans {a b c : bgW} (h1 : bgRel a b) (h2 : bgRel b c) : bgRel a c := ⟨h2.1, fun k i h => (h2.2 k i h).trans (h1.2 k i h)⟩
theorem bgRel.up {w0 w : bgW} {k : Nat} {i v : Int} (h : bgRel w0 w) (hk : k < bgMo) (hv : bgRgOk k i v) : bgRel w0 (bgU w k i v) := by
  refine ⟨fun k' i' hk' => ?_, fun k' i' hk' => ?_⟩
  · by_cases hc : k' = k ∧ i' = i
    · obtain ⟨rfl, rfl⟩ := hc
      rw [bgU_eq]
      exact hv
    · have e : bgU w k i v k' i' = w k' i' := by
        unfold bgU
        rw [if_neg hc]
      rw [e]
      exact h.1 k' i' hk'
  · rw [bgU_ne i' (by omega)]
    exact h.2 k' i' hk'
theorem bgRgOk.of {k : Nat} {i v lo hi : Int} (hr : bgRg k i = some (lo, hi)) (h1 : lo ≤ v) (h2 : v ≤ hi) : bgRgOk k i v := by
  intro lo' hi' h
  rw [hr] at h
  cases h
  exact ⟨h1, h2⟩
theorem bgRgOk.none {k : Nat} {i v : Int} (hr : bgRg k i = none) : bgRgOk k i v := by
  intro lo' hi' h
  rw [hr] at h
  cases h
theorem bgRel.cp {w0 w : bgW} {k1 k0 : Nat} {sp dp m : Int} (h : bgRel w0 w) (hk : k1 < bgMo) (hk0 : k0 < bgMo) (hs : ∀ i j, bgRg k1 i = bgRg k0 j) : bgRel w0 (bgCp w k1 k0 sp dp m) := by
  refine ⟨fun k' i' hk' => ?_, fun k' i' hk' => ?_⟩
  · by_cases hc : k' = k1 ∧ dp ≤ i' ∧ i' < dp + m
    · have e : bgCp w k1 k0 sp dp m k' i' = w k0 (sp + (i' - dp)) := by
        unfold bgCp
        rw [if_pos hc]
      rw [e]
      intro lo hi hr
      rw [hc.1, hs i' (sp + (i' - dp))] at hr
      exact h.1 k0 _ hk0 lo hi hr
    · have e : bgCp w k1 k0 sp dp m k' i' = w k' i' := by
        unfold bgCp
        rw [if_neg hc]
      rw [e]
      exact h.1 k' i' hk'
  · have e : bgCp w k1 k0 sp dp m k' i' = w k' i' := by
      unfold bgCp
      rw [if_neg (fun q => by omega)]
    rw [e]
    exact h.2 k' i' hk'
section BGQ
variable {K : bgK} {own : String} {cc : ByteArray} {nL : Nat} {rt : Option FieldType} {bb : Bool} {n z : Nat} {Q : State → Prop} {w0 w : bgW} {pc pc' : Nat} {L : List (Option bgV)} {st : List bgV} {k ci i idx N len : Nat} {C0 : String} {T : u_T} {ty : Nat → FieldType} {j v lo hi : Int}
theorem bq_geti (C : bgCx K own cc nL rt) (F : bgCF ci C0 T ty N) (hI : bgRel w0 w) (i : Nat) (j : Int) (hj : (i : Int) = j) (hk : bgKinds[k]? = some (.inl ci)) (hiN : i < N) (hr : bgRef k i = none) (hkm : k < bgMo) (hg : bgRg k j = some (lo, hi)) (hl : Cond.fieldLink own idx C0 (T i).2.1 (T i).2.2.1 ∈ bgTs) (hd : bgd cc pc (.getfield idx) 3 pc') (kk : ∀ v, v = w k j → lo ≤ v → v ≤ hi → bgX K bb n z Q w pc' L (bi v :: st)) : bgX K bb n z Q w pc L (br k :: st) :=
  bg_geti C F hj hk hiN hr hl hd (kk _ (Eq.refl _) (hI.1 k j hkm lo _ hg).1 (hI.1 k j hkm lo _ hg).2)
theorem bq_get0 (C : bgCx K own cc nL rt) (F : bgCF ci C0 T ty N) (i : Nat) (j : Int) (hj : (i : Int) = j) (hk : bgKinds[k]? = some (.inl ci)) (hiN : i < N) (hr : bgRef k i = none) (hl : Cond.fieldLink own idx C0 (T i).2.1 (T i).2.2.1 ∈ bgTs) (hd : bgd cc pc (.getfield idx) 3 pc') (kk : ∀ v, v = w k j → bgX K bb n z Q w pc' L (bi v :: st)) : bgX K bb n z Q w pc L (br k :: st) :=
  bg_geti C F hj hk hiN hr hl hd (kk _ (Eq.refl _))
theorem bq_puti (C : bgCx K own cc nL rt) (F : bgCF ci C0 T ty N) (hI : bgRel w0 w) (i : Nat) (j : Int) (hj : (i : Int) = j) (hk : bgKinds[k]? = some (.inl ci)) (hiN : i < N) (hr : bgRef k i = none) (hkm : k < bgMo) (hg : bgRg k j = some (lo, hi)) (h1 : lo ≤ v) (h2 : v ≤ hi) (hfin : (T i).2.2.2 = false) (hty : ty i = .int ∨ (ty i = .boolean ∧ (v = 0 ∨ v = 1))) (hl : Cond.fieldLink own idx C0 (T i).2.1 (T i).2.2.1 ∈ bgTs) (hd : bgd cc pc (.putfield idx) 3 pc') (kk : ∀ w', bgRel w0 w' → w' = bgU w k j v → bgX K false n z Q w' pc' L st) : bgX K bb n z Q w pc L (bi v :: br k :: st) :=
  bg_puti C F hj hk hiN hr hfin hty hl hd (fun w' e => kk w' (by rw [e]; exact hI.up hkm (bgRgOk.of hg h1 h2)) e)
theorem bq_put0 (C : bgCx K own cc nL rt) (F : bgCF ci C0 T ty N) (hI : bgRel w0 w) (i : Nat) (j : Int) (hj : (i : Int) = j) (hk : bgKinds[k]? = some (.inl ci)) (hiN : i < N) (hr : bgRef k i = none) (hkm : k < bgMo) (hg : bgRg k j = none) (hfin : (T i).2.2.2 = false) (hty : ty i = .int) (hl : Cond.fieldLink own idx C0 (T i).2.1 (T i).2.2.1 ∈ bgTs) (hd : bgd cc pc (.putfield idx) 3 pc') (kk : ∀ w', bgRel w0 w' → w' = bgU w k j v → bgX K false n z Q w' pc' L st) : bgX K bb n z Q w pc L (bi v :: br k :: st) :=
  bg_puti C F hj hk hiN hr hfin (Or.inl hty) hl hd (fun w' e => kk w' (by rw [e]; exact hI.up hkm (bgRgOk.none hg)) e)
theorem bq_iald (C : bgCx K own cc nL rt) (hI : bgRel w0 w) (hk : bgKinds[k]? = some (.inr (len, 0))) (hkm : k < bgMo) (hg : bgRg k j = some (lo, hi)) (h0 : 0 ≤ j) (h1 : j < (len : Int)) (hd : bgd cc pc .iaload 1 pc') (kk : ∀ v, v = w k j → lo ≤ v → v ≤ hi → bgX K bb n z Q w pc' L (bi v :: st)) : bgX K bb n z Q w pc L (bi j :: br k :: st) :=
  bg_iald C hk h0 h1 hd (kk _ (Eq.refl _) (hI.1 k j hkm lo _ hg).1 (hI.1 k j hkm lo _ hg).2)
theorem bq_iald0 (C : bgCx K own cc nL rt) (hk : bgKinds[k]? = some (.inr (len, 0))) (h0 : 0 ≤ j) (h1 : j < (len : Int)) (hd : bgd cc pc .iaload 1 pc') (kk : ∀ v, v = w k j → bgX K bb n z Q w pc' L (bi v :: st)) : bgX K bb n z Q w pc L (bi j :: br k :: st) :=
  bg_iald C hk h0 h1 hd (kk _ (Eq.refl _))
theorem bq_iast (C : bgCx K own cc nL rt) (hI : bgRel w0 w) (hk : bgKinds[k]? = some (.inr (len, 0))) (hkm : k < bgMo) (hg : bgRg k j = some (lo, hi)) (h0 : 0 ≤ j) (h1 : j < (len : Int)) (h2 : lo ≤ v) (h3 : v ≤ hi) (hd : bgd cc pc .iastore 1 pc') (kk : ∀ w', bgRel w0 w' → w' = bgU w k j v → bgX K false n z Q w' pc' L st) : bgX K bb n z Q w pc L (bi v :: bi j :: br k :: st) :=
  bg_iast C hk h0 h1 hd (fun w' e => kk w' (by rw [e]; exact hI.up hkm (bgRgOk.of hg h2 h3)) e)
theorem bq_iast0 (C : bgCx K own cc nL rt) (hI : bgRel w0 w) (hk : bgKinds[k]? = some (.inr (len, 0))) (hkm : k < bgMo) (hg : bgRg k j = none) (h0 : 0 ≤ j) (h1 : j < (len : Int)) (hd : bgd cc pc .iastore 1 pc') (kk : ∀ w', bgRel w0 w' → w' = bgU w k j v → bgX K false n z Q w' pc' L st) : bgX K bb n z Q w pc L (bi v :: bi j :: br k :: st) :=
  bg_iast C hk h0 h1 hd (fun w' e => kk w' (by rw [e]; exact hI.up hkm (bgRgOk.none hg)) e)
end BGQ
end
section
abbrev co_bg_abort : ByteArray := prog_1_method_7_code
def y_bg_abort : MethodName := ⟨"BlockGraph", "abort", "()I"⟩
abbrev co_bg_add : ByteArray := prog_1_method_4_code
def y_bg_add : MethodName := ⟨"BlockGraph", "add", "(III)I"⟩
abbrev co_bg_arm : ByteArray := prog_1_method_8_code
def y_bg_arm : MethodName := ⟨"BlockGraph", "arm", "(I)V"⟩
abbrev co_bg_atHand : ByteArray := prog_1_method_16_code
def y_bg_atHand : MethodName := ⟨"BlockGraph", "atHand", "(I)I"⟩
abbrev co_bg_begin : ByteArray := prog_1_method_3_code
def y_bg_begin : MethodName := ⟨"BlockGraph", "begin", "()V"⟩
abbrev co_bg_closeTransaction : ByteArray := prog_1_method_25_code
def y_bg_closeTransaction : MethodName := ⟨"BlockGraph", "closeTransaction", "()V"⟩
abbrev co_bg_commit : ByteArray := prog_1_method_6_code
def y_bg_commit : MethodName := ⟨"BlockGraph", "commit", "()Z"⟩
abbrev co_bg_count : ByteArray := prog_1_method_17_code
def y_bg_count : MethodName := ⟨"BlockGraph", "count", "(I)I"⟩
abbrev co_bg_distance : ByteArray := prog_1_method_13_code
def y_bg_distance : MethodName := ⟨"BlockGraph", "distance", "(I)I"⟩
abbrev co_bg_format : ByteArray := prog_1_method_2_code
def y_bg_format : MethodName := ⟨"BlockGraph", "format", "()Z"⟩
abbrev co_bg_mustBeOpen : ByteArray := prog_1_method_19_code
def y_bg_mustBeOpen : MethodName := ⟨"BlockGraph", "mustBeOpen", "()V"⟩
abbrev co_bg_mustBeUp : ByteArray := prog_1_method_18_code
def y_bg_mustBeUp : MethodName := ⟨"BlockGraph", "mustBeUp", "()V"⟩
abbrev co_bg_mustBeVertex : ByteArray := prog_1_method_20_code
def y_bg_mustBeVertex : MethodName := ⟨"BlockGraph", "mustBeVertex", "(I)V"⟩
abbrev co_bg_mustHaveRoomForOperation : ByteArray := prog_1_method_22_code
def y_bg_mustHaveRoomForOperation : MethodName := ⟨"BlockGraph", "mustHaveRoomForOperation", "()V"⟩
abbrev co_bg_mustHaveWayTo : ByteArray := prog_1_method_23_code
def y_bg_mustHaveWayTo : MethodName := ⟨"BlockGraph", "mustHaveWayTo", "(I)V"⟩
abbrev co_bg_operate : ByteArray := prog_1_method_24_code
def y_bg_operate : MethodName := ⟨"BlockGraph", "operate", "(IIII)V"⟩
abbrev co_bg_parent : ByteArray := prog_1_method_14_code
def y_bg_parent : MethodName := ⟨"BlockGraph", "parent", "(I)I"⟩
abbrev co_bg_recover : ByteArray := prog_1_method_9_code
def y_bg_recover : MethodName := ⟨"BlockGraph", "recover", "()I"⟩
abbrev co_bg_room : ByteArray := prog_1_method_11_code
def y_bg_room : MethodName := ⟨"BlockGraph", "room", "(I)V"⟩
abbrev co_bg_run : ByteArray := prog_1_method_12_code
def y_bg_run : MethodName := ⟨"BlockGraph", "run", "(I)I"⟩
abbrev co_bg_settleState : ByteArray := prog_1_method_27_code
def y_bg_settleState : MethodName := ⟨"BlockGraph", "settleState", "(Z)V"⟩
abbrev co_bg_startAnew : ByteArray := prog_1_method_26_code
def y_bg_startAnew : MethodName := ⟨"BlockGraph", "startAnew", "()V"⟩
abbrev co_bg_way : ByteArray := prog_1_method_15_code
def y_bg_way : MethodName := ⟨"BlockGraph", "way", "(II)I"⟩
abbrev co_et_copyAll : ByteArray := prog_2_method_7_code
def y_et_copyAll : MethodName := ⟨"BlockGraph$EdgeTable", "copyAll", "(LBlockGraph$EdgeTable;)V"⟩
abbrev co_et_copyBlock : ByteArray := prog_2_method_6_code
def y_et_copyBlock : MethodName := ⟨"BlockGraph$EdgeTable", "copyBlock", "(LBlockGraph$EdgeTable;I)V"⟩
abbrev co_et_erase : ByteArray := prog_2_method_5_code
def y_et_erase : MethodName := ⟨"BlockGraph$EdgeTable", "erase", "()V"⟩
abbrev co_et_has : ByteArray := prog_2_method_2_code
def y_et_has : MethodName := ⟨"BlockGraph$EdgeTable", "has", "(I)Z"⟩
abbrev co_et_leastFree : ByteArray := prog_2_method_3_code
def y_et_leastFree : MethodName := ⟨"BlockGraph$EdgeTable", "leastFree", "()I"⟩
abbrev co_et_put : ByteArray := prog_2_method_4_code
def y_et_put : MethodName := ⟨"BlockGraph$EdgeTable", "put", "(IIII)V"⟩
abbrev co_hd_limit : ByteArray := prog_3_method_2_code
def y_hd_limit : MethodName := ⟨"BlockGraph$Hand", "limit", "(I)V"⟩
abbrev co_hd_look : ByteArray := prog_3_method_3_code
def y_hd_look : MethodName := ⟨"BlockGraph$Hand", "look", "(I)V"⟩
abbrev co_hd_place : ByteArray := prog_3_method_5_code
def y_hd_place : MethodName := ⟨"BlockGraph$Hand", "place", "(I)I"⟩
abbrev co_hd_putFirst : ByteArray := prog_3_method_4_code
def y_hd_putFirst : MethodName := ⟨"BlockGraph$Hand", "putFirst", "(I)V"⟩
abbrev co_ja_fill : ByteArray := prog_20_method_103_code
def y_ja_fill : MethodName := ⟨"java/util/Arrays", "fill", "([II)V"⟩
abbrev co_op_append : ByteArray := prog_4_method_2_code
def y_op_append : MethodName := ⟨"BlockGraph$Operations", "append", "(IIII)V"⟩
abbrev co_op_areAbout : ByteArray := prog_4_method_5_code
def y_op_areAbout : MethodName := ⟨"BlockGraph$Operations", "areAbout", "(I)Z"⟩
abbrev co_op_copyOne : ByteArray := prog_4_method_3_code
def y_op_copyOne : MethodName := ⟨"BlockGraph$Operations", "copyOne", "(LBlockGraph$Operations;I)V"⟩
abbrev co_op_doAll : ByteArray := prog_4_method_4_code
def y_op_doAll : MethodName := ⟨"BlockGraph$Operations", "doAll", "(LBlockGraph$EdgeTable;)V"⟩
abbrev co_pw_holds : ByteArray := prog_5_method_2_code
def y_pw_holds : MethodName := ⟨"BlockGraph$Power", "holds", "()Z"⟩
abbrev co_so_bringHome : ByteArray := prog_6_method_5_code
def y_so_bringHome : MethodName := ⟨"BlockGraph$Store", "bringHome", "(LBlockGraph$EdgeTable;)Z"⟩
abbrev co_so_layOut : ByteArray := prog_6_method_2_code
def y_so_layOut : MethodName := ⟨"BlockGraph$Store", "layOut", "(LBlockGraph$EdgeTable;)Z"⟩
abbrev co_so_replay : ByteArray := prog_6_method_4_code
def y_so_replay : MethodName := ⟨"BlockGraph$Store", "replay", "(LBlockGraph$EdgeTable;)Z"⟩
abbrev co_so_save : ByteArray := prog_6_method_3_code
def y_so_save : MethodName := ⟨"BlockGraph$Store", "save", "(LBlockGraph$Operations;LBlockGraph$EdgeTable;)Z"⟩
abbrev co_so_writeHead : ByteArray := prog_6_method_6_code
def y_so_writeHead : MethodName := ⟨"BlockGraph$Store", "writeHead", "(Z)Z"⟩
abbrev co_so_writeHome : ByteArray := prog_6_method_7_code
def y_so_writeHome : MethodName := ⟨"BlockGraph$Store", "writeHome", "(ILBlockGraph$EdgeTable;)Z"⟩
abbrev co_so_writeLog : ByteArray := prog_6_method_8_code
def y_so_writeLog : MethodName := ⟨"BlockGraph$Store", "writeLog", "(LBlockGraph$Operations;I)Z"⟩
abbrev co_so_writeMark : ByteArray := prog_6_method_9_code
def y_so_writeMark : MethodName := ⟨"BlockGraph$Store", "writeMark", "(I)Z"⟩
abbrev co_wy_chooseParents : ByteArray := prog_7_method_5_code
def y_wy_chooseParents : MethodName := ⟨"BlockGraph$Ways", "chooseParents", "(LBlockGraph$EdgeTable;)V"⟩
abbrev co_wy_countReached : ByteArray := prog_7_method_7_code
def y_wy_countReached : MethodName := ⟨"BlockGraph$Ways", "countReached", "()I"⟩
abbrev co_wy_forget : ByteArray := prog_7_method_2_code
def y_wy_forget : MethodName := ⟨"BlockGraph$Ways", "forget", "()V"⟩
abbrev co_wy_goBack : ByteArray := prog_7_method_9_code
def y_wy_goBack : MethodName := ⟨"BlockGraph$Ways", "goBack", "(II)I"⟩
abbrev co_wy_leadsOn : ByteArray := prog_7_method_6_code
def y_wy_leadsOn : MethodName := ⟨"BlockGraph$Ways", "leadsOn", "(LBlockGraph$EdgeTable;I)Z"⟩
abbrev co_wy_length : ByteArray := prog_7_method_8_code
def y_wy_length : MethodName := ⟨"BlockGraph$Ways", "length", "(I)I"⟩
abbrev co_wy_measure : ByteArray := prog_7_method_3_code
def y_wy_measure : MethodName := ⟨"BlockGraph$Ways", "measure", "(LBlockGraph$EdgeTable;I)I"⟩
abbrev co_wy_shorten : ByteArray := prog_7_method_4_code
def y_wy_shorten : MethodName := ⟨"BlockGraph$Ways", "shorten", "(LBlockGraph$EdgeTable;)Z"⟩
theorem d_bg_abort_0 : bgd co_bg_abort 0 (.aload_n 0) 1 1 := ⟨by decide +kernel, rfl⟩
theorem d_bg_abort_1 : bgd co_bg_abort 1 (.invokevirtual 88) 3 4 := ⟨by decide +kernel, rfl⟩
theorem d_bg_abort_4 : bgd co_bg_abort 4 (.aload_n 0) 1 5 := ⟨by decide +kernel, rfl⟩
theorem d_bg_abort_5 : bgd co_bg_abort 5 (.getfield 42) 3 8 := ⟨by decide +kernel, rfl⟩
theorem d_bg_abort_8 : bgd co_bg_abort 8 (.getfield 122) 3 11 := ⟨by decide +kernel, rfl⟩
theorem d_bg_abort_11 : bgd co_bg_abort 11 (.istore_n 1) 1 12 := ⟨by decide +kernel, rfl⟩
theorem d_bg_abort_12 : bgd co_bg_abort 12 (.aload_n 0) 1 13 := ⟨by decide +kernel, rfl⟩
theorem d_bg_abort_13 : bgd co_bg_abort 13 (.invokevirtual 127) 3 16 := ⟨by decide +kernel, rfl⟩
theorem d_bg_abort_16 : bgd co_bg_abort 16 (.iload_n 1) 1 17 := ⟨by decide +kernel, rfl⟩
theorem d_bg_abort_17 : bgd co_bg_abort 17 (.ifCond .le 24) 3 20 := ⟨by decide +kernel, rfl⟩
theorem d_bg_abort_20 : bgd co_bg_abort 20 (.aload_n 0) 1 21 := ⟨by decide +kernel, rfl⟩
theorem d_bg_abort_21 : bgd co_bg_abort 21 (.getfield 35) 3 24 := ⟨by decide +kernel, rfl⟩
theorem d_bg_abort_24 : bgd co_bg_abort 24 (.aload_n 0) 1 25 := ⟨by decide +kernel, rfl⟩
theorem d_bg_abort_25 : bgd co_bg_abort 25 (.getfield 28) 3 28 := ⟨by decide +kernel, rfl⟩
theorem d_bg_abort_28 : bgd co_bg_abort 28 (.getfield 130) 3 31 := ⟨by decide +kernel, rfl⟩
theorem d_bg_abort_31 : bgd co_bg_abort 31 (.invokevirtual 133) 3 34 := ⟨by decide +kernel, rfl⟩
theorem d_bg_abort_34 : bgd co_bg_abort 34 (.aload_n 0) 1 35 := ⟨by decide +kernel, rfl⟩
theorem d_bg_abort_35 : bgd co_bg_abort 35 (.getfield 49) 3 38 := ⟨by decide +kernel, rfl⟩
theorem d_bg_abort_38 : bgd co_bg_abort 38 (.invokevirtual 137) 3 41 := ⟨by decide +kernel, rfl⟩
theorem d_bg_abort_41 : bgd co_bg_abort 41 (.iload_n 1) 1 42 := ⟨by decide +kernel, rfl⟩
theorem d_bg_abort_42 : bgd co_bg_abort 42 (.ireturn) 1 43 := ⟨by decide +kernel, rfl⟩
theorem d_bg_add_0 : bgd co_bg_add 0 (.aload_n 0) 1 1 := ⟨by decide +kernel, rfl⟩
theorem d_bg_add_1 : bgd co_bg_add 1 (.invokevirtual 88) 3 4 := ⟨by decide +kernel, rfl⟩
theorem d_bg_add_4 : bgd co_bg_add 4 (.aload_n 0) 1 5 := ⟨by decide +kernel, rfl⟩
theorem d_bg_add_5 : bgd co_bg_add 5 (.iload_n 1) 1 6 := ⟨by decide +kernel, rfl⟩
theorem d_bg_add_6 : bgd co_bg_add 6 (.invokevirtual 91) 3 9 := ⟨by decide +kernel, rfl⟩
theorem d_bg_add_9 : bgd co_bg_add 9 (.aload_n 0) 1 10 := ⟨by decide +kernel, rfl⟩
theorem d_bg_add_10 : bgd co_bg_add 10 (.iload_n 2) 1 11 := ⟨by decide +kernel, rfl⟩
theorem d_bg_add_11 : bgd co_bg_add 11 (.invokevirtual 91) 3 14 := ⟨by decide +kernel, rfl⟩
theorem d_bg_add_14 : bgd co_bg_add 14 (.iload_n 3) 1 15 := ⟨by decide +kernel, rfl⟩
theorem d_bg_add_15 : bgd co_bg_add 15 (.iconst 1) 1 16 := ⟨by decide +kernel, rfl⟩
theorem d_bg_add_16 : bgd co_bg_add 16 (.if_icmp .lt 10) 3 19 := ⟨by decide +kernel, rfl⟩
theorem d_bg_add_19 : bgd co_bg_add 19 (.iload_n 3) 1 20 := ⟨by decide +kernel, rfl⟩
theorem d_bg_add_20 : bgd co_bg_add 20 (.sipush 32767) 3 23 := ⟨by decide +kernel, rfl⟩
theorem d_bg_add_23 : bgd co_bg_add 23 (.if_icmp .le 13) 3 26 := ⟨by decide +kernel, rfl⟩
theorem d_bg_add_26 : bgd co_bg_add 26 (.new 95) 3 29 := ⟨by decide +kernel, rfl⟩
theorem d_bg_add_29 : bgd co_bg_add 29 (.dup) 1 30 := ⟨by decide +kernel, rfl⟩
theorem d_bg_add_30 : bgd co_bg_add 30 (.ldc 97) 2 32 := ⟨by decide +kernel, rfl⟩
theorem d_bg_add_32 : bgd co_bg_add 32 (.invokespecial 99) 3 35 := ⟨by decide +kernel, rfl⟩
theorem d_bg_add_35 : bgd co_bg_add 35 (.athrow) 1 36 := ⟨by decide +kernel, rfl⟩
theorem d_bg_add_36 : bgd co_bg_add 36 (.aload_n 0) 1 37 := ⟨by decide +kernel, rfl⟩
theorem d_bg_add_37 : bgd co_bg_add 37 (.getfield 35) 3 40 := ⟨by decide +kernel, rfl⟩
theorem d_bg_add_40 : bgd co_bg_add 40 (.getfield 100) 3 43 := ⟨by decide +kernel, rfl⟩
theorem d_bg_add_43 : bgd co_bg_add 43 (.sipush 200) 3 46 := ⟨by decide +kernel, rfl⟩
theorem d_bg_add_46 : bgd co_bg_add 46 (.if_icmp .ne 13) 3 49 := ⟨by decide +kernel, rfl⟩
theorem d_bg_add_49 : bgd co_bg_add 49 (.new 103) 3 52 := ⟨by decide +kernel, rfl⟩
theorem d_bg_add_52 : bgd co_bg_add 52 (.dup) 1 53 := ⟨by decide +kernel, rfl⟩
theorem d_bg_add_53 : bgd co_bg_add 53 (.ldc 105) 2 55 := ⟨by decide +kernel, rfl⟩
theorem d_bg_add_55 : bgd co_bg_add 55 (.invokespecial 107) 3 58 := ⟨by decide +kernel, rfl⟩
theorem d_bg_add_58 : bgd co_bg_add 58 (.athrow) 1 59 := ⟨by decide +kernel, rfl⟩
theorem d_bg_add_59 : bgd co_bg_add 59 (.aload_n 0) 1 60 := ⟨by decide +kernel, rfl⟩
theorem d_bg_add_60 : bgd co_bg_add 60 (.invokevirtual 108) 3 63 := ⟨by decide +kernel, rfl⟩
theorem d_bg_add_63 : bgd co_bg_add 63 (.aload_n 0) 1 64 := ⟨by decide +kernel, rfl⟩
theorem d_bg_add_64 : bgd co_bg_add 64 (.getfield 35) 3 67 := ⟨by decide +kernel, rfl⟩
theorem d_bg_add_67 : bgd co_bg_add 67 (.invokevirtual 111) 3 70 := ⟨by decide +kernel, rfl⟩
theorem d_bg_add_70 : bgd co_bg_add 70 (.istore 4) 2 72 := ⟨by decide +kernel, rfl⟩
theorem d_bg_add_72 : bgd co_bg_add 72 (.aload_n 0) 1 73 := ⟨by decide +kernel, rfl⟩
theorem d_bg_add_73 : bgd co_bg_add 73 (.iload 4) 2 75 := ⟨by decide +kernel, rfl⟩
theorem d_bg_add_75 : bgd co_bg_add 75 (.iload_n 1) 1 76 := ⟨by decide +kernel, rfl⟩
theorem d_bg_add_76 : bgd co_bg_add 76 (.iload_n 2) 1 77 := ⟨by decide +kernel, rfl⟩
theorem d_bg_add_77 : bgd co_bg_add 77 (.iload_n 3) 1 78 := ⟨by decide +kernel, rfl⟩
theorem d_bg_add_78 : bgd co_bg_add 78 (.invokevirtual 115) 3 81 := ⟨by decide +kernel, rfl⟩
theorem d_bg_add_81 : bgd co_bg_add 81 (.iload 4) 2 83 := ⟨by decide +kernel, rfl⟩
theorem d_bg_add_83 : bgd co_bg_add 83 (.ireturn) 1 84 := ⟨by decide +kernel, rfl⟩
theorem d_bg_arm_0 : bgd co_bg_arm 0 (.iload_n 1) 1 1 := ⟨by decide +kernel, rfl⟩
theorem d_bg_arm_1 : bgd co_bg_arm 1 (.iconst (-1)) 1 2 := ⟨by decide +kernel, rfl⟩
theorem d_bg_arm_2 : bgd co_bg_arm 2 (.if_icmp .ge 13) 3 5 := ⟨by decide +kernel, rfl⟩
theorem d_bg_arm_5 : bgd co_bg_arm 5 (.new 95) 3 8 := ⟨by decide +kernel, rfl⟩
theorem d_bg_arm_8 : bgd co_bg_arm 8 (.dup) 1 9 := ⟨by decide +kernel, rfl⟩
theorem d_bg_arm_9 : bgd co_bg_arm 9 (.ldc 140) 2 11 := ⟨by decide +kernel, rfl⟩
theorem d_bg_arm_11 : bgd co_bg_arm 11 (.invokespecial 99) 3 14 := ⟨by decide +kernel, rfl⟩
theorem d_bg_arm_14 : bgd co_bg_arm 14 (.athrow) 1 15 := ⟨by decide +kernel, rfl⟩
theorem d_bg_arm_15 : bgd co_bg_arm 15 (.aload_n 0) 1 16 := ⟨by decide +kernel, rfl⟩
theorem d_bg_arm_16 : bgd co_bg_arm 16 (.getfield 10) 3 19 := ⟨by decide +kernel, rfl⟩
theorem d_bg_arm_19 : bgd co_bg_arm 19 (.iload_n 1) 1 20 := ⟨by decide +kernel, rfl⟩
theorem d_bg_arm_20 : bgd co_bg_arm 20 (.putfield 142) 3 23 := ⟨by decide +kernel, rfl⟩
theorem d_bg_arm_23 : bgd co_bg_arm 23 (.return_) 1 24 := ⟨by decide +kernel, rfl⟩
theorem d_bg_atHand_0 : bgd co_bg_atHand 0 (.iload_n 1) 1 1 := ⟨by decide +kernel, rfl⟩
theorem d_bg_atHand_1 : bgd co_bg_atHand 1 (.ifCond .lt 14) 3 4 := ⟨by decide +kernel, rfl⟩
theorem d_bg_atHand_4 : bgd co_bg_atHand 4 (.iload_n 1) 1 5 := ⟨by decide +kernel, rfl⟩
theorem d_bg_atHand_5 : bgd co_bg_atHand 5 (.aload_n 0) 1 6 := ⟨by decide +kernel, rfl⟩
theorem d_bg_atHand_6 : bgd co_bg_atHand 6 (.getfield 19) 3 9 := ⟨by decide +kernel, rfl⟩
theorem d_bg_atHand_9 : bgd co_bg_atHand 9 (.getfield 197) 3 12 := ⟨by decide +kernel, rfl⟩
theorem d_bg_atHand_12 : bgd co_bg_atHand 12 (.if_icmp .lt 13) 3 15 := ⟨by decide +kernel, rfl⟩
theorem d_bg_atHand_15 : bgd co_bg_atHand 15 (.new 188) 3 18 := ⟨by decide +kernel, rfl⟩
theorem d_bg_atHand_18 : bgd co_bg_atHand 18 (.dup) 1 19 := ⟨by decide +kernel, rfl⟩
theorem d_bg_atHand_19 : bgd co_bg_atHand 19 (.ldc 198) 2 21 := ⟨by decide +kernel, rfl⟩
theorem d_bg_atHand_21 : bgd co_bg_atHand 21 (.invokespecial 192) 3 24 := ⟨by decide +kernel, rfl⟩
theorem d_bg_atHand_24 : bgd co_bg_atHand 24 (.athrow) 1 25 := ⟨by decide +kernel, rfl⟩
theorem d_bg_atHand_25 : bgd co_bg_atHand 25 (.aload_n 0) 1 26 := ⟨by decide +kernel, rfl⟩
theorem d_bg_atHand_26 : bgd co_bg_atHand 26 (.getfield 19) 3 29 := ⟨by decide +kernel, rfl⟩
theorem d_bg_atHand_29 : bgd co_bg_atHand 29 (.getfield 200) 3 32 := ⟨by decide +kernel, rfl⟩
theorem d_bg_atHand_32 : bgd co_bg_atHand 32 (.iload_n 1) 1 33 := ⟨by decide +kernel, rfl⟩
theorem d_bg_atHand_33 : bgd co_bg_atHand 33 (.iaload) 1 34 := ⟨by decide +kernel, rfl⟩
theorem d_bg_atHand_34 : bgd co_bg_atHand 34 (.ireturn) 1 35 := ⟨by decide +kernel, rfl⟩
theorem d_bg_begin_0 : bgd co_bg_begin 0 (.aload_n 0) 1 1 := ⟨by decide +kernel, rfl⟩
theorem d_bg_begin_1 : bgd co_bg_begin 1 (.invokevirtual 78) 3 4 := ⟨by decide +kernel, rfl⟩
theorem d_bg_begin_4 : bgd co_bg_begin 4 (.aload_n 0) 1 5 := ⟨by decide +kernel, rfl⟩
theorem d_bg_begin_5 : bgd co_bg_begin 5 (.getfield 57) 3 8 := ⟨by decide +kernel, rfl⟩
theorem d_bg_begin_8 : bgd co_bg_begin 8 (.ifCond .eq 13) 3 11 := ⟨by decide +kernel, rfl⟩
theorem d_bg_begin_11 : bgd co_bg_begin 11 (.new 81) 3 14 := ⟨by decide +kernel, rfl⟩
theorem d_bg_begin_14 : bgd co_bg_begin 14 (.dup) 1 15 := ⟨by decide +kernel, rfl⟩
theorem d_bg_begin_15 : bgd co_bg_begin 15 (.ldc 83) 2 17 := ⟨by decide +kernel, rfl⟩
theorem d_bg_begin_17 : bgd co_bg_begin 17 (.invokespecial 85) 3 20 := ⟨by decide +kernel, rfl⟩
theorem d_bg_begin_20 : bgd co_bg_begin 20 (.athrow) 1 21 := ⟨by decide +kernel, rfl⟩
theorem d_bg_begin_21 : bgd co_bg_begin 21 (.aload_n 0) 1 22 := ⟨by decide +kernel, rfl⟩
theorem d_bg_begin_22 : bgd co_bg_begin 22 (.iconst 1) 1 23 := ⟨by decide +kernel, rfl⟩
theorem d_bg_begin_23 : bgd co_bg_begin 23 (.putfield 57) 3 26 := ⟨by decide +kernel, rfl⟩
theorem d_bg_begin_26 : bgd co_bg_begin 26 (.return_) 1 27 := ⟨by decide +kernel, rfl⟩
theorem d_bg_closeTransaction_0 : bgd co_bg_closeTransaction 0 (.aload_n 0) 1 1 := ⟨by decide +kernel, rfl⟩
theorem d_bg_closeTransaction_1 : bgd co_bg_closeTransaction 1 (.iconst 0) 1 2 := ⟨by decide +kernel, rfl⟩
theorem d_bg_closeTransaction_2 : bgd co_bg_closeTransaction 2 (.putfield 57) 3 5 := ⟨by decide +kernel, rfl⟩
theorem d_bg_closeTransaction_5 : bgd co_bg_closeTransaction 5 (.aload_n 0) 1 6 := ⟨by decide +kernel, rfl⟩
theorem d_bg_closeTransaction_6 : bgd co_bg_closeTransaction 6 (.getfield 42) 3 9 := ⟨by decide +kernel, rfl⟩
theorem d_bg_closeTransaction_9 : bgd co_bg_closeTransaction 9 (.iconst 0) 1 10 := ⟨by decide +kernel, rfl⟩
theorem d_bg_closeTransaction_10 : bgd co_bg_closeTransaction 10 (.putfield 122) 3 13 := ⟨by decide +kernel, rfl⟩
theorem d_bg_closeTransaction_13 : bgd co_bg_closeTransaction 13 (.return_) 1 14 := ⟨by decide +kernel, rfl⟩
theorem d_bg_commit_0 : bgd co_bg_commit 0 (.aload_n 0) 1 1 := ⟨by decide +kernel, rfl⟩
theorem d_bg_commit_1 : bgd co_bg_commit 1 (.invokevirtual 88) 3 4 := ⟨by decide +kernel, rfl⟩
theorem d_bg_commit_4 : bgd co_bg_commit 4 (.aload_n 0) 1 5 := ⟨by decide +kernel, rfl⟩
theorem d_bg_commit_5 : bgd co_bg_commit 5 (.getfield 42) 3 8 := ⟨by decide +kernel, rfl⟩
theorem d_bg_commit_8 : bgd co_bg_commit 8 (.getfield 122) 3 11 := ⟨by decide +kernel, rfl⟩
theorem d_bg_commit_11 : bgd co_bg_commit 11 (.ifCond .eq 21) 3 14 := ⟨by decide +kernel, rfl⟩
theorem d_bg_commit_14 : bgd co_bg_commit 14 (.aload_n 0) 1 15 := ⟨by decide +kernel, rfl⟩
theorem d_bg_commit_15 : bgd co_bg_commit 15 (.getfield 28) 3 18 := ⟨by decide +kernel, rfl⟩
theorem d_bg_commit_18 : bgd co_bg_commit 18 (.aload_n 0) 1 19 := ⟨by decide +kernel, rfl⟩
theorem d_bg_commit_19 : bgd co_bg_commit 19 (.getfield 42) 3 22 := ⟨by decide +kernel, rfl⟩
theorem d_bg_commit_22 : bgd co_bg_commit 22 (.aload_n 0) 1 23 := ⟨by decide +kernel, rfl⟩
theorem d_bg_commit_23 : bgd co_bg_commit 23 (.getfield 35) 3 26 := ⟨by decide +kernel, rfl⟩
theorem d_bg_commit_26 : bgd co_bg_commit 26 (.invokevirtual 123) 3 29 := ⟨by decide +kernel, rfl⟩
theorem d_bg_commit_29 : bgd co_bg_commit 29 (.ifCond .eq 7) 3 32 := ⟨by decide +kernel, rfl⟩
theorem d_bg_commit_32 : bgd co_bg_commit 32 (.iconst 1) 1 33 := ⟨by decide +kernel, rfl⟩
theorem d_bg_commit_33 : bgd co_bg_commit 33 (.goto 4) 3 36 := ⟨by decide +kernel, rfl⟩
theorem d_bg_commit_36 : bgd co_bg_commit 36 (.iconst 0) 1 37 := ⟨by decide +kernel, rfl⟩
theorem d_bg_commit_37 : bgd co_bg_commit 37 (.istore_n 1) 1 38 := ⟨by decide +kernel, rfl⟩
theorem d_bg_commit_38 : bgd co_bg_commit 38 (.aload_n 0) 1 39 := ⟨by decide +kernel, rfl⟩
theorem d_bg_commit_39 : bgd co_bg_commit 39 (.invokevirtual 127) 3 42 := ⟨by decide +kernel, rfl⟩
theorem d_bg_commit_42 : bgd co_bg_commit 42 (.aload_n 0) 1 43 := ⟨by decide +kernel, rfl⟩
theorem d_bg_commit_43 : bgd co_bg_commit 43 (.iload_n 1) 1 44 := ⟨by decide +kernel, rfl⟩
theorem d_bg_commit_44 : bgd co_bg_commit 44 (.invokevirtual 74) 3 47 := ⟨by decide +kernel, rfl⟩
theorem d_bg_commit_47 : bgd co_bg_commit 47 (.iload_n 1) 1 48 := ⟨by decide +kernel, rfl⟩
theorem d_bg_commit_48 : bgd co_bg_commit 48 (.ireturn) 1 49 := ⟨by decide +kernel, rfl⟩
theorem d_bg_count_0 : bgd co_bg_count 0 (.iload_n 1) 1 1 := ⟨by decide +kernel, rfl⟩
theorem d_bg_count_1 : decode co_bg_count 1 = .ok (.tableswitch 156 0 7 #[47, 66, 74, 82, 108, 116, 124, 143], 47) := by decide +kernel
theorem d_bg_count_48 : bgd co_bg_count 48 (.aload_n 0) 1 49 := ⟨by decide +kernel, rfl⟩
theorem d_bg_count_49 : bgd co_bg_count 49 (.getfield 53) 3 52 := ⟨by decide +kernel, rfl⟩
theorem d_bg_count_52 : bgd co_bg_count 52 (.ifCond .eq 13) 3 55 := ⟨by decide +kernel, rfl⟩
theorem d_bg_count_55 : bgd co_bg_count 55 (.aload_n 0) 1 56 := ⟨by decide +kernel, rfl⟩
theorem d_bg_count_56 : bgd co_bg_count 56 (.getfield 35) 3 59 := ⟨by decide +kernel, rfl⟩
theorem d_bg_count_59 : bgd co_bg_count 59 (.getfield 100) 3 62 := ⟨by decide +kernel, rfl⟩
theorem d_bg_count_62 : bgd co_bg_count 62 (.goto 4) 3 65 := ⟨by decide +kernel, rfl⟩
theorem d_bg_count_65 : bgd co_bg_count 65 (.iconst (-1)) 1 66 := ⟨by decide +kernel, rfl⟩
theorem d_bg_count_66 : bgd co_bg_count 66 (.ireturn) 1 67 := ⟨by decide +kernel, rfl⟩
theorem d_bg_count_67 : bgd co_bg_count 67 (.aload_n 0) 1 68 := ⟨by decide +kernel, rfl⟩
theorem d_bg_count_68 : bgd co_bg_count 68 (.getfield 10) 3 71 := ⟨by decide +kernel, rfl⟩
theorem d_bg_count_71 : bgd co_bg_count 71 (.getfield 203) 3 74 := ⟨by decide +kernel, rfl⟩
theorem d_bg_count_74 : bgd co_bg_count 74 (.ireturn) 1 75 := ⟨by decide +kernel, rfl⟩
theorem d_bg_count_75 : bgd co_bg_count 75 (.aload_n 0) 1 76 := ⟨by decide +kernel, rfl⟩
theorem d_bg_count_76 : bgd co_bg_count 76 (.getfield 19) 3 79 := ⟨by decide +kernel, rfl⟩
theorem d_bg_count_79 : bgd co_bg_count 79 (.getfield 206) 3 82 := ⟨by decide +kernel, rfl⟩
theorem d_bg_count_82 : bgd co_bg_count 82 (.ireturn) 1 83 := ⟨by decide +kernel, rfl⟩
theorem d_bg_count_83 : bgd co_bg_count 83 (.aload_n 0) 1 84 := ⟨by decide +kernel, rfl⟩
theorem d_bg_count_84 : bgd co_bg_count 84 (.getfield 53) 3 87 := ⟨by decide +kernel, rfl⟩
theorem d_bg_count_87 : bgd co_bg_count 87 (.ifCond .eq 20) 3 90 := ⟨by decide +kernel, rfl⟩
theorem d_bg_count_90 : bgd co_bg_count 90 (.aload_n 0) 1 91 := ⟨by decide +kernel, rfl⟩
theorem d_bg_count_91 : bgd co_bg_count 91 (.getfield 57) 3 94 := ⟨by decide +kernel, rfl⟩
theorem d_bg_count_94 : bgd co_bg_count 94 (.ifCond .eq 13) 3 97 := ⟨by decide +kernel, rfl⟩
theorem d_bg_count_97 : bgd co_bg_count 97 (.aload_n 0) 1 98 := ⟨by decide +kernel, rfl⟩
theorem d_bg_count_98 : bgd co_bg_count 98 (.getfield 42) 3 101 := ⟨by decide +kernel, rfl⟩
theorem d_bg_count_101 : bgd co_bg_count 101 (.getfield 122) 3 104 := ⟨by decide +kernel, rfl⟩
theorem d_bg_count_104 : bgd co_bg_count 104 (.goto 4) 3 107 := ⟨by decide +kernel, rfl⟩
theorem d_bg_count_107 : bgd co_bg_count 107 (.iconst (-1)) 1 108 := ⟨by decide +kernel, rfl⟩
theorem d_bg_count_108 : bgd co_bg_count 108 (.ireturn) 1 109 := ⟨by decide +kernel, rfl⟩
theorem d_bg_count_109 : bgd co_bg_count 109 (.aload_n 0) 1 110 := ⟨by decide +kernel, rfl⟩
theorem d_bg_count_110 : bgd co_bg_count 110 (.getfield 19) 3 113 := ⟨by decide +kernel, rfl⟩
theorem d_bg_count_113 : bgd co_bg_count 113 (.getfield 197) 3 116 := ⟨by decide +kernel, rfl⟩
theorem d_bg_count_116 : bgd co_bg_count 116 (.ireturn) 1 117 := ⟨by decide +kernel, rfl⟩
theorem d_bg_count_117 : bgd co_bg_count 117 (.aload_n 0) 1 118 := ⟨by decide +kernel, rfl⟩
theorem d_bg_count_118 : bgd co_bg_count 118 (.getfield 10) 3 121 := ⟨by decide +kernel, rfl⟩
theorem d_bg_count_121 : bgd co_bg_count 121 (.getfield 142) 3 124 := ⟨by decide +kernel, rfl⟩
theorem d_bg_count_124 : bgd co_bg_count 124 (.ireturn) 1 125 := ⟨by decide +kernel, rfl⟩
theorem d_bg_count_125 : bgd co_bg_count 125 (.aload_n 0) 1 126 := ⟨by decide +kernel, rfl⟩
theorem d_bg_count_126 : bgd co_bg_count 126 (.getfield 28) 3 129 := ⟨by decide +kernel, rfl⟩
theorem d_bg_count_129 : bgd co_bg_count 129 (.getfield 148) 3 132 := ⟨by decide +kernel, rfl⟩
theorem d_bg_count_132 : bgd co_bg_count 132 (.ifCond .eq 10) 3 135 := ⟨by decide +kernel, rfl⟩
theorem d_bg_count_135 : bgd co_bg_count 135 (.aload_n 0) 1 136 := ⟨by decide +kernel, rfl⟩
theorem d_bg_count_136 : bgd co_bg_count 136 (.getfield 60) 3 139 := ⟨by decide +kernel, rfl⟩
theorem d_bg_count_139 : bgd co_bg_count 139 (.goto 4) 3 142 := ⟨by decide +kernel, rfl⟩
theorem d_bg_count_142 : bgd co_bg_count 142 (.iconst 0) 1 143 := ⟨by decide +kernel, rfl⟩
theorem d_bg_count_143 : bgd co_bg_count 143 (.ireturn) 1 144 := ⟨by decide +kernel, rfl⟩
theorem d_bg_count_144 : bgd co_bg_count 144 (.aload_n 0) 1 145 := ⟨by decide +kernel, rfl⟩
theorem d_bg_count_145 : bgd co_bg_count 145 (.getfield 53) 3 148 := ⟨by decide +kernel, rfl⟩
theorem d_bg_count_148 : bgd co_bg_count 148 (.ifCond .eq 7) 3 151 := ⟨by decide +kernel, rfl⟩
theorem d_bg_count_151 : bgd co_bg_count 151 (.iconst 0) 1 152 := ⟨by decide +kernel, rfl⟩
theorem d_bg_count_152 : bgd co_bg_count 152 (.goto 4) 3 155 := ⟨by decide +kernel, rfl⟩
theorem d_bg_count_155 : bgd co_bg_count 155 (.iconst 1) 1 156 := ⟨by decide +kernel, rfl⟩
theorem d_bg_count_156 : bgd co_bg_count 156 (.ireturn) 1 157 := ⟨by decide +kernel, rfl⟩
theorem d_bg_count_157 : bgd co_bg_count 157 (.new 95) 3 160 := ⟨by decide +kernel, rfl⟩
theorem d_bg_count_160 : bgd co_bg_count 160 (.dup) 1 161 := ⟨by decide +kernel, rfl⟩
theorem d_bg_count_161 : bgd co_bg_count 161 (.ldc 209) 2 163 := ⟨by decide +kernel, rfl⟩
theorem d_bg_count_163 : bgd co_bg_count 163 (.invokespecial 99) 3 166 := ⟨by decide +kernel, rfl⟩
theorem d_bg_count_166 : bgd co_bg_count 166 (.athrow) 1 167 := ⟨by decide +kernel, rfl⟩
theorem d_bg_distance_0 : bgd co_bg_distance 0 (.aload_n 0) 1 1 := ⟨by decide +kernel, rfl⟩
theorem d_bg_distance_1 : bgd co_bg_distance 1 (.iload_n 1) 1 2 := ⟨by decide +kernel, rfl⟩
theorem d_bg_distance_2 : bgd co_bg_distance 2 (.invokevirtual 175) 3 5 := ⟨by decide +kernel, rfl⟩
theorem d_bg_distance_5 : bgd co_bg_distance 5 (.aload_n 0) 1 6 := ⟨by decide +kernel, rfl⟩
theorem d_bg_distance_6 : bgd co_bg_distance 6 (.getfield 49) 3 9 := ⟨by decide +kernel, rfl⟩
theorem d_bg_distance_9 : bgd co_bg_distance 9 (.getfield 178) 3 12 := ⟨by decide +kernel, rfl⟩
theorem d_bg_distance_12 : bgd co_bg_distance 12 (.iload_n 1) 1 13 := ⟨by decide +kernel, rfl⟩
theorem d_bg_distance_13 : bgd co_bg_distance 13 (.iaload) 1 14 := ⟨by decide +kernel, rfl⟩
theorem d_bg_distance_14 : bgd co_bg_distance 14 (.ireturn) 1 15 := ⟨by decide +kernel, rfl⟩
theorem d_bg_format_0 : bgd co_bg_format 0 (.aload_n 0) 1 1 := ⟨by decide +kernel, rfl⟩
theorem d_bg_format_1 : bgd co_bg_format 1 (.invokevirtual 64) 3 4 := ⟨by decide +kernel, rfl⟩
theorem d_bg_format_4 : bgd co_bg_format 4 (.aload_n 0) 1 5 := ⟨by decide +kernel, rfl⟩
theorem d_bg_format_5 : bgd co_bg_format 5 (.getfield 35) 3 8 := ⟨by decide +kernel, rfl⟩
theorem d_bg_format_8 : bgd co_bg_format 8 (.invokevirtual 67) 3 11 := ⟨by decide +kernel, rfl⟩
theorem d_bg_format_11 : bgd co_bg_format 11 (.aload_n 0) 1 12 := ⟨by decide +kernel, rfl⟩
theorem d_bg_format_12 : bgd co_bg_format 12 (.aload_n 0) 1 13 := ⟨by decide +kernel, rfl⟩
theorem d_bg_format_13 : bgd co_bg_format 13 (.getfield 28) 3 16 := ⟨by decide +kernel, rfl⟩
theorem d_bg_format_16 : bgd co_bg_format 16 (.aload_n 0) 1 17 := ⟨by decide +kernel, rfl⟩
theorem d_bg_format_17 : bgd co_bg_format 17 (.getfield 35) 3 20 := ⟨by decide +kernel, rfl⟩
theorem d_bg_format_20 : bgd co_bg_format 20 (.invokevirtual 70) 3 23 := ⟨by decide +kernel, rfl⟩
theorem d_bg_format_23 : bgd co_bg_format 23 (.invokevirtual 74) 3 26 := ⟨by decide +kernel, rfl⟩
theorem d_bg_format_26 : bgd co_bg_format 26 (.aload_n 0) 1 27 := ⟨by decide +kernel, rfl⟩
theorem d_bg_format_27 : bgd co_bg_format 27 (.getfield 53) 3 30 := ⟨by decide +kernel, rfl⟩
theorem d_bg_format_30 : bgd co_bg_format 30 (.ireturn) 1 31 := ⟨by decide +kernel, rfl⟩
theorem d_bg_mustBeOpen_0 : bgd co_bg_mustBeOpen 0 (.aload_n 0) 1 1 := ⟨by decide +kernel, rfl⟩
theorem d_bg_mustBeOpen_1 : bgd co_bg_mustBeOpen 1 (.invokevirtual 78) 3 4 := ⟨by decide +kernel, rfl⟩
theorem d_bg_mustBeOpen_4 : bgd co_bg_mustBeOpen 4 (.aload_n 0) 1 5 := ⟨by decide +kernel, rfl⟩
theorem d_bg_mustBeOpen_5 : bgd co_bg_mustBeOpen 5 (.getfield 57) 3 8 := ⟨by decide +kernel, rfl⟩
theorem d_bg_mustBeOpen_8 : bgd co_bg_mustBeOpen 8 (.ifCond .ne 13) 3 11 := ⟨by decide +kernel, rfl⟩
theorem d_bg_mustBeOpen_11 : bgd co_bg_mustBeOpen 11 (.new 81) 3 14 := ⟨by decide +kernel, rfl⟩
theorem d_bg_mustBeOpen_14 : bgd co_bg_mustBeOpen 14 (.dup) 1 15 := ⟨by decide +kernel, rfl⟩
theorem d_bg_mustBeOpen_15 : bgd co_bg_mustBeOpen 15 (.ldc 213) 2 17 := ⟨by decide +kernel, rfl⟩
theorem d_bg_mustBeOpen_17 : bgd co_bg_mustBeOpen 17 (.invokespecial 85) 3 20 := ⟨by decide +kernel, rfl⟩
theorem d_bg_mustBeOpen_20 : bgd co_bg_mustBeOpen 20 (.athrow) 1 21 := ⟨by decide +kernel, rfl⟩
theorem d_bg_mustBeOpen_21 : bgd co_bg_mustBeOpen 21 (.return_) 1 22 := ⟨by decide +kernel, rfl⟩
theorem d_bg_mustBeUp_0 : bgd co_bg_mustBeUp 0 (.aload_n 0) 1 1 := ⟨by decide +kernel, rfl⟩
theorem d_bg_mustBeUp_1 : bgd co_bg_mustBeUp 1 (.getfield 53) 3 4 := ⟨by decide +kernel, rfl⟩
theorem d_bg_mustBeUp_4 : bgd co_bg_mustBeUp 4 (.ifCond .ne 13) 3 7 := ⟨by decide +kernel, rfl⟩
theorem d_bg_mustBeUp_7 : bgd co_bg_mustBeUp 7 (.new 81) 3 10 := ⟨by decide +kernel, rfl⟩
theorem d_bg_mustBeUp_10 : bgd co_bg_mustBeUp 10 (.dup) 1 11 := ⟨by decide +kernel, rfl⟩
theorem d_bg_mustBeUp_11 : bgd co_bg_mustBeUp 11 (.ldc 211) 2 13 := ⟨by decide +kernel, rfl⟩
theorem d_bg_mustBeUp_13 : bgd co_bg_mustBeUp 13 (.invokespecial 85) 3 16 := ⟨by decide +kernel, rfl⟩
theorem d_bg_mustBeUp_16 : bgd co_bg_mustBeUp 16 (.athrow) 1 17 := ⟨by decide +kernel, rfl⟩
theorem d_bg_mustBeUp_17 : bgd co_bg_mustBeUp 17 (.return_) 1 18 := ⟨by decide +kernel, rfl⟩
theorem d_bg_mustBeVertex_0 : bgd co_bg_mustBeVertex 0 (.iload_n 1) 1 1 := ⟨by decide +kernel, rfl⟩
theorem d_bg_mustBeVertex_1 : bgd co_bg_mustBeVertex 1 (.ifCond .lt 9) 3 4 := ⟨by decide +kernel, rfl⟩
theorem d_bg_mustBeVertex_4 : bgd co_bg_mustBeVertex 4 (.iload_n 1) 1 5 := ⟨by decide +kernel, rfl⟩
theorem d_bg_mustBeVertex_5 : bgd co_bg_mustBeVertex 5 (.bipush 64) 2 7 := ⟨by decide +kernel, rfl⟩
theorem d_bg_mustBeVertex_7 : bgd co_bg_mustBeVertex 7 (.if_icmp .lt 13) 3 10 := ⟨by decide +kernel, rfl⟩
theorem d_bg_mustBeVertex_10 : bgd co_bg_mustBeVertex 10 (.new 95) 3 13 := ⟨by decide +kernel, rfl⟩
theorem d_bg_mustBeVertex_13 : bgd co_bg_mustBeVertex 13 (.dup) 1 14 := ⟨by decide +kernel, rfl⟩
theorem d_bg_mustBeVertex_14 : bgd co_bg_mustBeVertex 14 (.ldc 215) 2 16 := ⟨by decide +kernel, rfl⟩
theorem d_bg_mustBeVertex_16 : bgd co_bg_mustBeVertex 16 (.invokespecial 99) 3 19 := ⟨by decide +kernel, rfl⟩
theorem d_bg_mustBeVertex_19 : bgd co_bg_mustBeVertex 19 (.athrow) 1 20 := ⟨by decide +kernel, rfl⟩
theorem d_bg_mustBeVertex_20 : bgd co_bg_mustBeVertex 20 (.return_) 1 21 := ⟨by decide +kernel, rfl⟩
theorem d_bg_mustHaveRoomForOperation_0 : bgd co_bg_mustHaveRoomForOperation 0 (.aload_n 0) 1 1 := ⟨by decide +kernel, rfl⟩
theorem d_bg_mustHaveRoomForOperation_1 : bgd co_bg_mustHaveRoomForOperation 1 (.getfield 42) 3 4 := ⟨by decide +kernel, rfl⟩
theorem d_bg_mustHaveRoomForOperation_4 : bgd co_bg_mustHaveRoomForOperation 4 (.getfield 122) 3 7 := ⟨by decide +kernel, rfl⟩
theorem d_bg_mustHaveRoomForOperation_7 : bgd co_bg_mustHaveRoomForOperation 7 (.bipush 20) 2 9 := ⟨by decide +kernel, rfl⟩
theorem d_bg_mustHaveRoomForOperation_9 : bgd co_bg_mustHaveRoomForOperation 9 (.if_icmp .ne 13) 3 12 := ⟨by decide +kernel, rfl⟩
theorem d_bg_mustHaveRoomForOperation_12 : bgd co_bg_mustHaveRoomForOperation 12 (.new 103) 3 15 := ⟨by decide +kernel, rfl⟩
theorem d_bg_mustHaveRoomForOperation_15 : bgd co_bg_mustHaveRoomForOperation 15 (.dup) 1 16 := ⟨by decide +kernel, rfl⟩
theorem d_bg_mustHaveRoomForOperation_16 : bgd co_bg_mustHaveRoomForOperation 16 (.ldc 226) 2 18 := ⟨by decide +kernel, rfl⟩
theorem d_bg_mustHaveRoomForOperation_18 : bgd co_bg_mustHaveRoomForOperation 18 (.invokespecial 107) 3 21 := ⟨by decide +kernel, rfl⟩
theorem d_bg_mustHaveRoomForOperation_21 : bgd co_bg_mustHaveRoomForOperation 21 (.athrow) 1 22 := ⟨by decide +kernel, rfl⟩
theorem d_bg_mustHaveRoomForOperation_22 : bgd co_bg_mustHaveRoomForOperation 22 (.return_) 1 23 := ⟨by decide +kernel, rfl⟩
theorem d_bg_mustHaveWayTo_0 : bgd co_bg_mustHaveWayTo 0 (.aload_n 0) 1 1 := ⟨by decide +kernel, rfl⟩
theorem d_bg_mustHaveWayTo_1 : bgd co_bg_mustHaveWayTo 1 (.invokevirtual 78) 3 4 := ⟨by decide +kernel, rfl⟩
theorem d_bg_mustHaveWayTo_4 : bgd co_bg_mustHaveWayTo 4 (.aload_n 0) 1 5 := ⟨by decide +kernel, rfl⟩
theorem d_bg_mustHaveWayTo_5 : bgd co_bg_mustHaveWayTo 5 (.getfield 49) 3 8 := ⟨by decide +kernel, rfl⟩
theorem d_bg_mustHaveWayTo_8 : bgd co_bg_mustHaveWayTo 8 (.getfield 228) 3 11 := ⟨by decide +kernel, rfl⟩
theorem d_bg_mustHaveWayTo_11 : bgd co_bg_mustHaveWayTo 11 (.ifCond .ne 13) 3 14 := ⟨by decide +kernel, rfl⟩
theorem d_bg_mustHaveWayTo_14 : bgd co_bg_mustHaveWayTo 14 (.new 81) 3 17 := ⟨by decide +kernel, rfl⟩
theorem d_bg_mustHaveWayTo_17 : bgd co_bg_mustHaveWayTo 17 (.dup) 1 18 := ⟨by decide +kernel, rfl⟩
theorem d_bg_mustHaveWayTo_18 : bgd co_bg_mustHaveWayTo 18 (.ldc 231) 2 20 := ⟨by decide +kernel, rfl⟩
theorem d_bg_mustHaveWayTo_20 : bgd co_bg_mustHaveWayTo 20 (.invokespecial 85) 3 23 := ⟨by decide +kernel, rfl⟩
theorem d_bg_mustHaveWayTo_23 : bgd co_bg_mustHaveWayTo 23 (.athrow) 1 24 := ⟨by decide +kernel, rfl⟩
theorem d_bg_mustHaveWayTo_24 : bgd co_bg_mustHaveWayTo 24 (.aload_n 0) 1 25 := ⟨by decide +kernel, rfl⟩
theorem d_bg_mustHaveWayTo_25 : bgd co_bg_mustHaveWayTo 25 (.iload_n 1) 1 26 := ⟨by decide +kernel, rfl⟩
theorem d_bg_mustHaveWayTo_26 : bgd co_bg_mustHaveWayTo 26 (.invokevirtual 91) 3 29 := ⟨by decide +kernel, rfl⟩
theorem d_bg_mustHaveWayTo_29 : bgd co_bg_mustHaveWayTo 29 (.return_) 1 30 := ⟨by decide +kernel, rfl⟩
theorem d_bg_operate_0 : bgd co_bg_operate 0 (.aload_n 0) 1 1 := ⟨by decide +kernel, rfl⟩
theorem d_bg_operate_1 : bgd co_bg_operate 1 (.getfield 42) 3 4 := ⟨by decide +kernel, rfl⟩
theorem d_bg_operate_4 : bgd co_bg_operate 4 (.iload_n 1) 1 5 := ⟨by decide +kernel, rfl⟩
theorem d_bg_operate_5 : bgd co_bg_operate 5 (.iload_n 2) 1 6 := ⟨by decide +kernel, rfl⟩
theorem d_bg_operate_6 : bgd co_bg_operate 6 (.iload_n 3) 1 7 := ⟨by decide +kernel, rfl⟩
theorem d_bg_operate_7 : bgd co_bg_operate 7 (.iload 4) 2 9 := ⟨by decide +kernel, rfl⟩
theorem d_bg_operate_9 : bgd co_bg_operate 9 (.invokevirtual 233) 3 12 := ⟨by decide +kernel, rfl⟩
theorem d_bg_operate_12 : bgd co_bg_operate 12 (.aload_n 0) 1 13 := ⟨by decide +kernel, rfl⟩
theorem d_bg_operate_13 : bgd co_bg_operate 13 (.getfield 35) 3 16 := ⟨by decide +kernel, rfl⟩
theorem d_bg_operate_16 : bgd co_bg_operate 16 (.iload_n 1) 1 17 := ⟨by decide +kernel, rfl⟩
theorem d_bg_operate_17 : bgd co_bg_operate 17 (.iload_n 2) 1 18 := ⟨by decide +kernel, rfl⟩
theorem d_bg_operate_18 : bgd co_bg_operate 18 (.iload_n 3) 1 19 := ⟨by decide +kernel, rfl⟩
theorem d_bg_operate_19 : bgd co_bg_operate 19 (.iload 4) 2 21 := ⟨by decide +kernel, rfl⟩
theorem d_bg_operate_21 : bgd co_bg_operate 21 (.invokevirtual 236) 3 24 := ⟨by decide +kernel, rfl⟩
theorem d_bg_operate_24 : bgd co_bg_operate 24 (.aload_n 0) 1 25 := ⟨by decide +kernel, rfl⟩
theorem d_bg_operate_25 : bgd co_bg_operate 25 (.getfield 49) 3 28 := ⟨by decide +kernel, rfl⟩
theorem d_bg_operate_28 : bgd co_bg_operate 28 (.invokevirtual 137) 3 31 := ⟨by decide +kernel, rfl⟩
theorem d_bg_operate_31 : bgd co_bg_operate 31 (.return_) 1 32 := ⟨by decide +kernel, rfl⟩
theorem d_bg_parent_0 : bgd co_bg_parent 0 (.aload_n 0) 1 1 := ⟨by decide +kernel, rfl⟩
theorem d_bg_parent_1 : bgd co_bg_parent 1 (.iload_n 1) 1 2 := ⟨by decide +kernel, rfl⟩
theorem d_bg_parent_2 : bgd co_bg_parent 2 (.invokevirtual 175) 3 5 := ⟨by decide +kernel, rfl⟩
theorem d_bg_parent_5 : bgd co_bg_parent 5 (.aload_n 0) 1 6 := ⟨by decide +kernel, rfl⟩
theorem d_bg_parent_6 : bgd co_bg_parent 6 (.getfield 49) 3 9 := ⟨by decide +kernel, rfl⟩
theorem d_bg_parent_9 : bgd co_bg_parent 9 (.getfield 181) 3 12 := ⟨by decide +kernel, rfl⟩
theorem d_bg_parent_12 : bgd co_bg_parent 12 (.iload_n 1) 1 13 := ⟨by decide +kernel, rfl⟩
theorem d_bg_parent_13 : bgd co_bg_parent 13 (.iaload) 1 14 := ⟨by decide +kernel, rfl⟩
theorem d_bg_parent_14 : bgd co_bg_parent 14 (.ireturn) 1 15 := ⟨by decide +kernel, rfl⟩
theorem d_bg_recover_0 : bgd co_bg_recover 0 (.aload_n 0) 1 1 := ⟨by decide +kernel, rfl⟩
theorem d_bg_recover_1 : bgd co_bg_recover 1 (.invokevirtual 64) 3 4 := ⟨by decide +kernel, rfl⟩
theorem d_bg_recover_4 : bgd co_bg_recover 4 (.aload_n 0) 1 5 := ⟨by decide +kernel, rfl⟩
theorem d_bg_recover_5 : bgd co_bg_recover 5 (.getfield 28) 3 8 := ⟨by decide +kernel, rfl⟩
theorem d_bg_recover_8 : bgd co_bg_recover 8 (.aload_n 0) 1 9 := ⟨by decide +kernel, rfl⟩
theorem d_bg_recover_9 : bgd co_bg_recover 9 (.getfield 35) 3 12 := ⟨by decide +kernel, rfl⟩
theorem d_bg_recover_12 : bgd co_bg_recover 12 (.invokevirtual 145) 3 15 := ⟨by decide +kernel, rfl⟩
theorem d_bg_recover_15 : bgd co_bg_recover 15 (.istore_n 1) 1 16 := ⟨by decide +kernel, rfl⟩
theorem d_bg_recover_16 : bgd co_bg_recover 16 (.aload_n 0) 1 17 := ⟨by decide +kernel, rfl⟩
theorem d_bg_recover_17 : bgd co_bg_recover 17 (.iload_n 1) 1 18 := ⟨by decide +kernel, rfl⟩
theorem d_bg_recover_18 : bgd co_bg_recover 18 (.ifCond .eq 17) 3 21 := ⟨by decide +kernel, rfl⟩
theorem d_bg_recover_21 : bgd co_bg_recover 21 (.aload_n 0) 1 22 := ⟨by decide +kernel, rfl⟩
theorem d_bg_recover_22 : bgd co_bg_recover 22 (.getfield 28) 3 25 := ⟨by decide +kernel, rfl⟩
theorem d_bg_recover_25 : bgd co_bg_recover 25 (.getfield 148) 3 28 := ⟨by decide +kernel, rfl⟩
theorem d_bg_recover_28 : bgd co_bg_recover 28 (.ifCond .eq 7) 3 31 := ⟨by decide +kernel, rfl⟩
theorem d_bg_recover_31 : bgd co_bg_recover 31 (.iconst 1) 1 32 := ⟨by decide +kernel, rfl⟩
theorem d_bg_recover_32 : bgd co_bg_recover 32 (.goto 4) 3 35 := ⟨by decide +kernel, rfl⟩
theorem d_bg_recover_35 : bgd co_bg_recover 35 (.iconst 0) 1 36 := ⟨by decide +kernel, rfl⟩
theorem d_bg_recover_36 : bgd co_bg_recover 36 (.invokevirtual 74) 3 39 := ⟨by decide +kernel, rfl⟩
theorem d_bg_recover_39 : bgd co_bg_recover 39 (.iload_n 1) 1 40 := ⟨by decide +kernel, rfl⟩
theorem d_bg_recover_40 : bgd co_bg_recover 40 (.ifCond .ne 5) 3 43 := ⟨by decide +kernel, rfl⟩
theorem d_bg_recover_43 : bgd co_bg_recover 43 (.iconst 1) 1 44 := ⟨by decide +kernel, rfl⟩
theorem d_bg_recover_44 : bgd co_bg_recover 44 (.ireturn) 1 45 := ⟨by decide +kernel, rfl⟩
theorem d_bg_recover_45 : bgd co_bg_recover 45 (.aload_n 0) 1 46 := ⟨by decide +kernel, rfl⟩
theorem d_bg_recover_46 : bgd co_bg_recover 46 (.getfield 28) 3 49 := ⟨by decide +kernel, rfl⟩
theorem d_bg_recover_49 : bgd co_bg_recover 49 (.getfield 148) 3 52 := ⟨by decide +kernel, rfl⟩
theorem d_bg_recover_52 : bgd co_bg_recover 52 (.ifCond .eq 7) 3 55 := ⟨by decide +kernel, rfl⟩
theorem d_bg_recover_55 : bgd co_bg_recover 55 (.iconst 0) 1 56 := ⟨by decide +kernel, rfl⟩
theorem d_bg_recover_56 : bgd co_bg_recover 56 (.goto 4) 3 59 := ⟨by decide +kernel, rfl⟩
theorem d_bg_recover_59 : bgd co_bg_recover 59 (.iconst 2) 1 60 := ⟨by decide +kernel, rfl⟩
theorem d_bg_recover_60 : bgd co_bg_recover 60 (.ireturn) 1 61 := ⟨by decide +kernel, rfl⟩
theorem d_bg_room_0 : bgd co_bg_room 0 (.iload_n 1) 1 1 := ⟨by decide +kernel, rfl⟩
theorem d_bg_room_1 : bgd co_bg_room 1 (.iconst 1) 1 2 := ⟨by decide +kernel, rfl⟩
theorem d_bg_room_2 : bgd co_bg_room 2 (.if_icmp .lt 9) 3 5 := ⟨by decide +kernel, rfl⟩
theorem d_bg_room_5 : bgd co_bg_room 5 (.iload_n 1) 1 6 := ⟨by decide +kernel, rfl⟩
theorem d_bg_room_6 : bgd co_bg_room 6 (.bipush 50) 2 8 := ⟨by decide +kernel, rfl⟩
theorem d_bg_room_8 : bgd co_bg_room 8 (.if_icmp .le 13) 3 11 := ⟨by decide +kernel, rfl⟩
theorem d_bg_room_11 : bgd co_bg_room 11 (.new 95) 3 14 := ⟨by decide +kernel, rfl⟩
theorem d_bg_room_14 : bgd co_bg_room 14 (.dup) 1 15 := ⟨by decide +kernel, rfl⟩
theorem d_bg_room_15 : bgd co_bg_room 15 (.ldc 166) 2 17 := ⟨by decide +kernel, rfl⟩
theorem d_bg_room_17 : bgd co_bg_room 17 (.invokespecial 99) 3 20 := ⟨by decide +kernel, rfl⟩
theorem d_bg_room_20 : bgd co_bg_room 20 (.athrow) 1 21 := ⟨by decide +kernel, rfl⟩
theorem d_bg_room_21 : bgd co_bg_room 21 (.aload_n 0) 1 22 := ⟨by decide +kernel, rfl⟩
theorem d_bg_room_22 : bgd co_bg_room 22 (.getfield 19) 3 25 := ⟨by decide +kernel, rfl⟩
theorem d_bg_room_25 : bgd co_bg_room 25 (.iload_n 1) 1 26 := ⟨by decide +kernel, rfl⟩
theorem d_bg_room_26 : bgd co_bg_room 26 (.invokevirtual 168) 3 29 := ⟨by decide +kernel, rfl⟩
theorem d_bg_room_29 : bgd co_bg_room 29 (.return_) 1 30 := ⟨by decide +kernel, rfl⟩
theorem d_bg_run_0 : bgd co_bg_run 0 (.aload_n 0) 1 1 := ⟨by decide +kernel, rfl⟩
theorem d_bg_run_1 : bgd co_bg_run 1 (.invokevirtual 78) 3 4 := ⟨by decide +kernel, rfl⟩
theorem d_bg_run_4 : bgd co_bg_run 4 (.aload_n 0) 1 5 := ⟨by decide +kernel, rfl⟩
theorem d_bg_run_5 : bgd co_bg_run 5 (.iload_n 1) 1 6 := ⟨by decide +kernel, rfl⟩
theorem d_bg_run_6 : bgd co_bg_run 6 (.invokevirtual 91) 3 9 := ⟨by decide +kernel, rfl⟩
theorem d_bg_run_9 : bgd co_bg_run 9 (.iconst 0) 1 10 := ⟨by decide +kernel, rfl⟩
theorem d_bg_run_10 : bgd co_bg_run 10 (.istore_n 2) 1 11 := ⟨by decide +kernel, rfl⟩
theorem d_bg_run_11 : bgd co_bg_run 11 (.iload_n 2) 1 12 := ⟨by decide +kernel, rfl⟩
theorem d_bg_run_12 : bgd co_bg_run 12 (.bipush 50) 2 14 := ⟨by decide +kernel, rfl⟩
theorem d_bg_run_14 : bgd co_bg_run 14 (.if_icmp .ge 17) 3 17 := ⟨by decide +kernel, rfl⟩
theorem d_bg_run_17 : bgd co_bg_run 17 (.aload_n 0) 1 18 := ⟨by decide +kernel, rfl⟩
theorem d_bg_run_18 : bgd co_bg_run 18 (.getfield 19) 3 21 := ⟨by decide +kernel, rfl⟩
theorem d_bg_run_21 : bgd co_bg_run 21 (.iload_n 2) 1 22 := ⟨by decide +kernel, rfl⟩
theorem d_bg_run_22 : bgd co_bg_run 22 (.invokevirtual 153) 3 25 := ⟨by decide +kernel, rfl⟩
theorem d_bg_run_25 : bgd co_bg_run 25 (.iinc 2 1) 3 28 := ⟨by decide +kernel, rfl⟩
theorem d_bg_run_28 : bgd co_bg_run 28 (.goto (-17)) 3 31 := ⟨by decide +kernel, rfl⟩
theorem d_bg_run_31 : bgd co_bg_run 31 (.aload_n 0) 1 32 := ⟨by decide +kernel, rfl⟩
theorem d_bg_run_32 : bgd co_bg_run 32 (.getfield 49) 3 35 := ⟨by decide +kernel, rfl⟩
theorem d_bg_run_35 : bgd co_bg_run 35 (.aload_n 0) 1 36 := ⟨by decide +kernel, rfl⟩
theorem d_bg_run_36 : bgd co_bg_run 36 (.getfield 35) 3 39 := ⟨by decide +kernel, rfl⟩
theorem d_bg_run_39 : bgd co_bg_run 39 (.iload_n 1) 1 40 := ⟨by decide +kernel, rfl⟩
theorem d_bg_run_40 : bgd co_bg_run 40 (.invokevirtual 171) 3 43 := ⟨by decide +kernel, rfl⟩
theorem d_bg_run_43 : bgd co_bg_run 43 (.ireturn) 1 44 := ⟨by decide +kernel, rfl⟩
theorem d_bg_settleState_0 : bgd co_bg_settleState 0 (.aload_n 0) 1 1 := ⟨by decide +kernel, rfl⟩
theorem d_bg_settleState_1 : bgd co_bg_settleState 1 (.iload_n 1) 1 2 := ⟨by decide +kernel, rfl⟩
theorem d_bg_settleState_2 : bgd co_bg_settleState 2 (.putfield 53) 3 5 := ⟨by decide +kernel, rfl⟩
theorem d_bg_settleState_5 : bgd co_bg_settleState 5 (.iload_n 1) 1 6 := ⟨by decide +kernel, rfl⟩
theorem d_bg_settleState_6 : bgd co_bg_settleState 6 (.ifCond .eq 14) 3 9 := ⟨by decide +kernel, rfl⟩
theorem d_bg_settleState_9 : bgd co_bg_settleState 9 (.aload_n 0) 1 10 := ⟨by decide +kernel, rfl⟩
theorem d_bg_settleState_10 : bgd co_bg_settleState 10 (.aload_n 0) 1 11 := ⟨by decide +kernel, rfl⟩
theorem d_bg_settleState_11 : bgd co_bg_settleState 11 (.getfield 28) 3 14 := ⟨by decide +kernel, rfl⟩
theorem d_bg_settleState_14 : bgd co_bg_settleState 14 (.getfield 239) 3 17 := ⟨by decide +kernel, rfl⟩
theorem d_bg_settleState_17 : bgd co_bg_settleState 17 (.putfield 60) 3 20 := ⟨by decide +kernel, rfl⟩
theorem d_bg_settleState_20 : bgd co_bg_settleState 20 (.return_) 1 21 := ⟨by decide +kernel, rfl⟩
theorem d_bg_startAnew_0 : bgd co_bg_startAnew 0 (.aload_n 0) 1 1 := ⟨by decide +kernel, rfl⟩
theorem d_bg_startAnew_1 : bgd co_bg_startAnew 1 (.invokevirtual 127) 3 4 := ⟨by decide +kernel, rfl⟩
theorem d_bg_startAnew_4 : bgd co_bg_startAnew 4 (.aload_n 0) 1 5 := ⟨by decide +kernel, rfl⟩
theorem d_bg_startAnew_5 : bgd co_bg_startAnew 5 (.getfield 49) 3 8 := ⟨by decide +kernel, rfl⟩
theorem d_bg_startAnew_8 : bgd co_bg_startAnew 8 (.invokevirtual 137) 3 11 := ⟨by decide +kernel, rfl⟩
theorem d_bg_startAnew_11 : bgd co_bg_startAnew 11 (.aload_n 0) 1 12 := ⟨by decide +kernel, rfl⟩
theorem d_bg_startAnew_12 : bgd co_bg_startAnew 12 (.getfield 19) 3 15 := ⟨by decide +kernel, rfl⟩
theorem d_bg_startAnew_15 : bgd co_bg_startAnew 15 (.iconst 0) 1 16 := ⟨by decide +kernel, rfl⟩
theorem d_bg_startAnew_16 : bgd co_bg_startAnew 16 (.putfield 197) 3 19 := ⟨by decide +kernel, rfl⟩
theorem d_bg_startAnew_19 : bgd co_bg_startAnew 19 (.return_) 1 20 := ⟨by decide +kernel, rfl⟩
theorem d_bg_way_0 : bgd co_bg_way 0 (.aload_n 0) 1 1 := ⟨by decide +kernel, rfl⟩
theorem d_bg_way_1 : bgd co_bg_way 1 (.iload_n 1) 1 2 := ⟨by decide +kernel, rfl⟩
theorem d_bg_way_2 : bgd co_bg_way 2 (.invokevirtual 175) 3 5 := ⟨by decide +kernel, rfl⟩
theorem d_bg_way_5 : bgd co_bg_way 5 (.aload_n 0) 1 6 := ⟨by decide +kernel, rfl⟩
theorem d_bg_way_6 : bgd co_bg_way 6 (.getfield 49) 3 9 := ⟨by decide +kernel, rfl⟩
theorem d_bg_way_9 : bgd co_bg_way 9 (.iload_n 1) 1 10 := ⟨by decide +kernel, rfl⟩
theorem d_bg_way_10 : bgd co_bg_way 10 (.invokevirtual 184) 3 13 := ⟨by decide +kernel, rfl⟩
theorem d_bg_way_13 : bgd co_bg_way 13 (.istore_n 3) 1 14 := ⟨by decide +kernel, rfl⟩
theorem d_bg_way_14 : bgd co_bg_way 14 (.iload_n 2) 1 15 := ⟨by decide +kernel, rfl⟩
theorem d_bg_way_15 : bgd co_bg_way 15 (.ifCond .lt 8) 3 18 := ⟨by decide +kernel, rfl⟩
theorem d_bg_way_18 : bgd co_bg_way 18 (.iload_n 2) 1 19 := ⟨by decide +kernel, rfl⟩
theorem d_bg_way_19 : bgd co_bg_way 19 (.iload_n 3) 1 20 := ⟨by decide +kernel, rfl⟩
theorem d_bg_way_20 : bgd co_bg_way 20 (.if_icmp .lt 13) 3 23 := ⟨by decide +kernel, rfl⟩
theorem d_bg_way_23 : bgd co_bg_way 23 (.new 188) 3 26 := ⟨by decide +kernel, rfl⟩
theorem d_bg_way_26 : bgd co_bg_way 26 (.dup) 1 27 := ⟨by decide +kernel, rfl⟩
theorem d_bg_way_27 : bgd co_bg_way 27 (.ldc 190) 2 29 := ⟨by decide +kernel, rfl⟩
theorem d_bg_way_29 : bgd co_bg_way 29 (.invokespecial 192) 3 32 := ⟨by decide +kernel, rfl⟩
theorem d_bg_way_32 : bgd co_bg_way 32 (.athrow) 1 33 := ⟨by decide +kernel, rfl⟩
theorem d_bg_way_33 : bgd co_bg_way 33 (.aload_n 0) 1 34 := ⟨by decide +kernel, rfl⟩
theorem d_bg_way_34 : bgd co_bg_way 34 (.getfield 49) 3 37 := ⟨by decide +kernel, rfl⟩
theorem d_bg_way_37 : bgd co_bg_way 37 (.iload_n 1) 1 38 := ⟨by decide +kernel, rfl⟩
theorem d_bg_way_38 : bgd co_bg_way 38 (.iload_n 3) 1 39 := ⟨by decide +kernel, rfl⟩
theorem d_bg_way_39 : bgd co_bg_way 39 (.iconst 1) 1 40 := ⟨by decide +kernel, rfl⟩
theorem d_bg_way_40 : bgd co_bg_way 40 (.isub) 1 41 := ⟨by decide +kernel, rfl⟩
theorem d_bg_way_41 : bgd co_bg_way 41 (.iload_n 2) 1 42 := ⟨by decide +kernel, rfl⟩
theorem d_bg_way_42 : bgd co_bg_way 42 (.isub) 1 43 := ⟨by decide +kernel, rfl⟩
theorem d_bg_way_43 : bgd co_bg_way 43 (.invokevirtual 193) 3 46 := ⟨by decide +kernel, rfl⟩
theorem d_bg_way_46 : bgd co_bg_way 46 (.ireturn) 1 47 := ⟨by decide +kernel, rfl⟩
theorem d_et_copyAll_0 : bgd co_et_copyAll 0 (.aload_n 1) 1 1 := ⟨by decide +kernel, rfl⟩
theorem d_et_copyAll_1 : bgd co_et_copyAll 1 (.getfield 9) 3 4 := ⟨by decide +kernel, rfl⟩
theorem d_et_copyAll_4 : bgd co_et_copyAll 4 (.iconst 0) 1 5 := ⟨by decide +kernel, rfl⟩
theorem d_et_copyAll_5 : bgd co_et_copyAll 5 (.aload_n 0) 1 6 := ⟨by decide +kernel, rfl⟩
theorem d_et_copyAll_6 : bgd co_et_copyAll 6 (.getfield 9) 3 9 := ⟨by decide +kernel, rfl⟩
theorem d_et_copyAll_9 : bgd co_et_copyAll 9 (.iconst 0) 1 10 := ⟨by decide +kernel, rfl⟩
theorem d_et_copyAll_10 : bgd co_et_copyAll 10 (.sipush 200) 3 13 := ⟨by decide +kernel, rfl⟩
theorem d_et_copyAll_13 : bgd co_et_copyAll 13 (.invokestatic 35) 3 16 := ⟨by decide +kernel, rfl⟩
theorem d_et_copyAll_16 : bgd co_et_copyAll 16 (.aload_n 1) 1 17 := ⟨by decide +kernel, rfl⟩
theorem d_et_copyAll_17 : bgd co_et_copyAll 17 (.getfield 15) 3 20 := ⟨by decide +kernel, rfl⟩
theorem d_et_copyAll_20 : bgd co_et_copyAll 20 (.iconst 0) 1 21 := ⟨by decide +kernel, rfl⟩
theorem d_et_copyAll_21 : bgd co_et_copyAll 21 (.aload_n 0) 1 22 := ⟨by decide +kernel, rfl⟩
theorem d_et_copyAll_22 : bgd co_et_copyAll 22 (.getfield 15) 3 25 := ⟨by decide +kernel, rfl⟩
theorem d_et_copyAll_25 : bgd co_et_copyAll 25 (.iconst 0) 1 26 := ⟨by decide +kernel, rfl⟩
theorem d_et_copyAll_26 : bgd co_et_copyAll 26 (.sipush 200) 3 29 := ⟨by decide +kernel, rfl⟩
theorem d_et_copyAll_29 : bgd co_et_copyAll 29 (.invokestatic 35) 3 32 := ⟨by decide +kernel, rfl⟩
theorem d_et_copyAll_32 : bgd co_et_copyAll 32 (.aload_n 1) 1 33 := ⟨by decide +kernel, rfl⟩
theorem d_et_copyAll_33 : bgd co_et_copyAll 33 (.getfield 18) 3 36 := ⟨by decide +kernel, rfl⟩
theorem d_et_copyAll_36 : bgd co_et_copyAll 36 (.iconst 0) 1 37 := ⟨by decide +kernel, rfl⟩
theorem d_et_copyAll_37 : bgd co_et_copyAll 37 (.aload_n 0) 1 38 := ⟨by decide +kernel, rfl⟩
theorem d_et_copyAll_38 : bgd co_et_copyAll 38 (.getfield 18) 3 41 := ⟨by decide +kernel, rfl⟩
theorem d_et_copyAll_41 : bgd co_et_copyAll 41 (.iconst 0) 1 42 := ⟨by decide +kernel, rfl⟩
theorem d_et_copyAll_42 : bgd co_et_copyAll 42 (.sipush 200) 3 45 := ⟨by decide +kernel, rfl⟩
theorem d_et_copyAll_45 : bgd co_et_copyAll 45 (.invokestatic 35) 3 48 := ⟨by decide +kernel, rfl⟩
theorem d_et_copyAll_48 : bgd co_et_copyAll 48 (.aload_n 0) 1 49 := ⟨by decide +kernel, rfl⟩
theorem d_et_copyAll_49 : bgd co_et_copyAll 49 (.aload_n 1) 1 50 := ⟨by decide +kernel, rfl⟩
theorem d_et_copyAll_50 : bgd co_et_copyAll 50 (.getfield 21) 3 53 := ⟨by decide +kernel, rfl⟩
theorem d_et_copyAll_53 : bgd co_et_copyAll 53 (.putfield 21) 3 56 := ⟨by decide +kernel, rfl⟩
theorem d_et_copyAll_56 : bgd co_et_copyAll 56 (.return_) 1 57 := ⟨by decide +kernel, rfl⟩
theorem d_et_copyBlock_0 : bgd co_et_copyBlock 0 (.iload_n 2) 1 1 := ⟨by decide +kernel, rfl⟩
theorem d_et_copyBlock_1 : bgd co_et_copyBlock 1 (.iconst 4) 1 2 := ⟨by decide +kernel, rfl⟩
theorem d_et_copyBlock_2 : bgd co_et_copyBlock 2 (.imul) 1 3 := ⟨by decide +kernel, rfl⟩
theorem d_et_copyBlock_3 : bgd co_et_copyBlock 3 (.istore_n 3) 1 4 := ⟨by decide +kernel, rfl⟩
theorem d_et_copyBlock_4 : bgd co_et_copyBlock 4 (.iload_n 3) 1 5 := ⟨by decide +kernel, rfl⟩
theorem d_et_copyBlock_5 : bgd co_et_copyBlock 5 (.istore 4) 2 7 := ⟨by decide +kernel, rfl⟩
theorem d_et_copyBlock_7 : bgd co_et_copyBlock 7 (.iload 4) 2 9 := ⟨by decide +kernel, rfl⟩
theorem d_et_copyBlock_9 : bgd co_et_copyBlock 9 (.iload_n 3) 1 10 := ⟨by decide +kernel, rfl⟩
theorem d_et_copyBlock_10 : bgd co_et_copyBlock 10 (.iconst 4) 1 11 := ⟨by decide +kernel, rfl⟩
theorem d_et_copyBlock_11 : bgd co_et_copyBlock 11 (.iadd) 1 12 := ⟨by decide +kernel, rfl⟩
theorem d_et_copyBlock_12 : bgd co_et_copyBlock 12 (.if_icmp .ge 49) 3 15 := ⟨by decide +kernel, rfl⟩
theorem d_et_copyBlock_15 : bgd co_et_copyBlock 15 (.iload 4) 2 17 := ⟨by decide +kernel, rfl⟩
theorem d_et_copyBlock_17 : bgd co_et_copyBlock 17 (.ifCond .lt 38) 3 20 := ⟨by decide +kernel, rfl⟩
theorem d_et_copyBlock_20 : bgd co_et_copyBlock 20 (.iload 4) 2 22 := ⟨by decide +kernel, rfl⟩
theorem d_et_copyBlock_22 : bgd co_et_copyBlock 22 (.sipush 200) 3 25 := ⟨by decide +kernel, rfl⟩
theorem d_et_copyBlock_25 : bgd co_et_copyBlock 25 (.if_icmp .ge 30) 3 28 := ⟨by decide +kernel, rfl⟩
theorem d_et_copyBlock_28 : bgd co_et_copyBlock 28 (.aload_n 0) 1 29 := ⟨by decide +kernel, rfl⟩
theorem d_et_copyBlock_29 : bgd co_et_copyBlock 29 (.iload 4) 2 31 := ⟨by decide +kernel, rfl⟩
theorem d_et_copyBlock_31 : bgd co_et_copyBlock 31 (.aload_n 1) 1 32 := ⟨by decide +kernel, rfl⟩
theorem d_et_copyBlock_32 : bgd co_et_copyBlock 32 (.getfield 9) 3 35 := ⟨by decide +kernel, rfl⟩
theorem d_et_copyBlock_35 : bgd co_et_copyBlock 35 (.iload 4) 2 37 := ⟨by decide +kernel, rfl⟩
theorem d_et_copyBlock_37 : bgd co_et_copyBlock 37 (.iaload) 1 38 := ⟨by decide +kernel, rfl⟩
theorem d_et_copyBlock_38 : bgd co_et_copyBlock 38 (.aload_n 1) 1 39 := ⟨by decide +kernel, rfl⟩
theorem d_et_copyBlock_39 : bgd co_et_copyBlock 39 (.getfield 15) 3 42 := ⟨by decide +kernel, rfl⟩
theorem d_et_copyBlock_42 : bgd co_et_copyBlock 42 (.iload 4) 2 44 := ⟨by decide +kernel, rfl⟩
theorem d_et_copyBlock_44 : bgd co_et_copyBlock 44 (.iaload) 1 45 := ⟨by decide +kernel, rfl⟩
theorem d_et_copyBlock_45 : bgd co_et_copyBlock 45 (.aload_n 1) 1 46 := ⟨by decide +kernel, rfl⟩
theorem d_et_copyBlock_46 : bgd co_et_copyBlock 46 (.getfield 18) 3 49 := ⟨by decide +kernel, rfl⟩
theorem d_et_copyBlock_49 : bgd co_et_copyBlock 49 (.iload 4) 2 51 := ⟨by decide +kernel, rfl⟩
theorem d_et_copyBlock_51 : bgd co_et_copyBlock 51 (.iaload) 1 52 := ⟨by decide +kernel, rfl⟩
theorem d_et_copyBlock_52 : bgd co_et_copyBlock 52 (.invokevirtual 31) 3 55 := ⟨by decide +kernel, rfl⟩
theorem d_et_copyBlock_55 : bgd co_et_copyBlock 55 (.iinc 4 1) 3 58 := ⟨by decide +kernel, rfl⟩
theorem d_et_copyBlock_58 : bgd co_et_copyBlock 58 (.goto (-51)) 3 61 := ⟨by decide +kernel, rfl⟩
theorem d_et_copyBlock_61 : bgd co_et_copyBlock 61 (.return_) 1 62 := ⟨by decide +kernel, rfl⟩
theorem d_et_erase_0 : bgd co_et_erase 0 (.aload_n 0) 1 1 := ⟨by decide +kernel, rfl⟩
theorem d_et_erase_1 : bgd co_et_erase 1 (.getfield 18) 3 4 := ⟨by decide +kernel, rfl⟩
theorem d_et_erase_4 : bgd co_et_erase 4 (.iconst 0) 1 5 := ⟨by decide +kernel, rfl⟩
theorem d_et_erase_5 : bgd co_et_erase 5 (.invokestatic 25) 3 8 := ⟨by decide +kernel, rfl⟩
theorem d_et_erase_8 : bgd co_et_erase 8 (.aload_n 0) 1 9 := ⟨by decide +kernel, rfl⟩
theorem d_et_erase_9 : bgd co_et_erase 9 (.iconst 0) 1 10 := ⟨by decide +kernel, rfl⟩
theorem d_et_erase_10 : bgd co_et_erase 10 (.putfield 21) 3 13 := ⟨by decide +kernel, rfl⟩
theorem d_et_erase_13 : bgd co_et_erase 13 (.return_) 1 14 := ⟨by decide +kernel, rfl⟩
theorem d_et_has_0 : bgd co_et_has 0 (.iload_n 1) 1 1 := ⟨by decide +kernel, rfl⟩
theorem d_et_has_1 : bgd co_et_has 1 (.ifCond .lt 23) 3 4 := ⟨by decide +kernel, rfl⟩
theorem d_et_has_4 : bgd co_et_has 4 (.iload_n 1) 1 5 := ⟨by decide +kernel, rfl⟩
theorem d_et_has_5 : bgd co_et_has 5 (.sipush 200) 3 8 := ⟨by decide +kernel, rfl⟩
theorem d_et_has_8 : bgd co_et_has 8 (.if_icmp .ge 16) 3 11 := ⟨by decide +kernel, rfl⟩
theorem d_et_has_11 : bgd co_et_has 11 (.aload_n 0) 1 12 := ⟨by decide +kernel, rfl⟩
theorem d_et_has_12 : bgd co_et_has 12 (.getfield 18) 3 15 := ⟨by decide +kernel, rfl⟩
theorem d_et_has_15 : bgd co_et_has 15 (.iload_n 1) 1 16 := ⟨by decide +kernel, rfl⟩
theorem d_et_has_16 : bgd co_et_has 16 (.iaload) 1 17 := ⟨by decide +kernel, rfl⟩
theorem d_et_has_17 : bgd co_et_has 17 (.ifCond .eq 7) 3 20 := ⟨by decide +kernel, rfl⟩
theorem d_et_has_20 : bgd co_et_has 20 (.iconst 1) 1 21 := ⟨by decide +kernel, rfl⟩
theorem d_et_has_21 : bgd co_et_has 21 (.goto 4) 3 24 := ⟨by decide +kernel, rfl⟩
theorem d_et_has_24 : bgd co_et_has 24 (.iconst 0) 1 25 := ⟨by decide +kernel, rfl⟩
theorem d_et_has_25 : bgd co_et_has 25 (.ireturn) 1 26 := ⟨by decide +kernel, rfl⟩
theorem d_et_leastFree_0 : bgd co_et_leastFree 0 (.iconst 0) 1 1 := ⟨by decide +kernel, rfl⟩
theorem d_et_leastFree_1 : bgd co_et_leastFree 1 (.istore_n 1) 1 2 := ⟨by decide +kernel, rfl⟩
theorem d_et_leastFree_2 : bgd co_et_leastFree 2 (.iload_n 1) 1 3 := ⟨by decide +kernel, rfl⟩
theorem d_et_leastFree_3 : bgd co_et_leastFree 3 (.sipush 200) 3 6 := ⟨by decide +kernel, rfl⟩
theorem d_et_leastFree_6 : bgd co_et_leastFree 6 (.if_icmp .ge 20) 3 9 := ⟨by decide +kernel, rfl⟩
theorem d_et_leastFree_9 : bgd co_et_leastFree 9 (.aload_n 0) 1 10 := ⟨by decide +kernel, rfl⟩
theorem d_et_leastFree_10 : bgd co_et_leastFree 10 (.getfield 18) 3 13 := ⟨by decide +kernel, rfl⟩
theorem d_et_leastFree_13 : bgd co_et_leastFree 13 (.iload_n 1) 1 14 := ⟨by decide +kernel, rfl⟩
theorem d_et_leastFree_14 : bgd co_et_leastFree 14 (.iaload) 1 15 := ⟨by decide +kernel, rfl⟩
theorem d_et_leastFree_15 : bgd co_et_leastFree 15 (.ifCond .ne 5) 3 18 := ⟨by decide +kernel, rfl⟩
theorem d_et_leastFree_18 : bgd co_et_leastFree 18 (.iload_n 1) 1 19 := ⟨by decide +kernel, rfl⟩
theorem d_et_leastFree_19 : bgd co_et_leastFree 19 (.ireturn) 1 20 := ⟨by decide +kernel, rfl⟩
theorem d_et_leastFree_20 : bgd co_et_leastFree 20 (.iinc 1 1) 3 23 := ⟨by decide +kernel, rfl⟩
theorem d_et_leastFree_23 : bgd co_et_leastFree 23 (.goto (-21)) 3 26 := ⟨by decide +kernel, rfl⟩
theorem d_et_leastFree_26 : bgd co_et_leastFree 26 (.iconst (-1)) 1 27 := ⟨by decide +kernel, rfl⟩
theorem d_et_leastFree_27 : bgd co_et_leastFree 27 (.ireturn) 1 28 := ⟨by decide +kernel, rfl⟩
theorem d_et_put_0 : bgd co_et_put 0 (.iload_n 1) 1 1 := ⟨by decide +kernel, rfl⟩
theorem d_et_put_1 : bgd co_et_put 1 (.ifCond .lt 10) 3 4 := ⟨by decide +kernel, rfl⟩
theorem d_et_put_4 : bgd co_et_put 4 (.iload_n 1) 1 5 := ⟨by decide +kernel, rfl⟩
theorem d_et_put_5 : bgd co_et_put 5 (.sipush 200) 3 8 := ⟨by decide +kernel, rfl⟩
theorem d_et_put_8 : bgd co_et_put 8 (.if_icmp .lt 4) 3 11 := ⟨by decide +kernel, rfl⟩
theorem d_et_put_11 : bgd co_et_put 11 (.return_) 1 12 := ⟨by decide +kernel, rfl⟩
theorem d_et_put_12 : bgd co_et_put 12 (.aload_n 0) 1 13 := ⟨by decide +kernel, rfl⟩
theorem d_et_put_13 : bgd co_et_put 13 (.dup) 1 14 := ⟨by decide +kernel, rfl⟩
theorem d_et_put_14 : bgd co_et_put 14 (.getfield 21) 3 17 := ⟨by decide +kernel, rfl⟩
theorem d_et_put_17 : bgd co_et_put 17 (.iload 4) 2 19 := ⟨by decide +kernel, rfl⟩
theorem d_et_put_19 : bgd co_et_put 19 (.ifCond .ne 7) 3 22 := ⟨by decide +kernel, rfl⟩
theorem d_et_put_22 : bgd co_et_put 22 (.iconst 0) 1 23 := ⟨by decide +kernel, rfl⟩
theorem d_et_put_23 : bgd co_et_put 23 (.goto 4) 3 26 := ⟨by decide +kernel, rfl⟩
theorem d_et_put_26 : bgd co_et_put 26 (.iconst 1) 1 27 := ⟨by decide +kernel, rfl⟩
theorem d_et_put_27 : bgd co_et_put 27 (.aload_n 0) 1 28 := ⟨by decide +kernel, rfl⟩
theorem d_et_put_28 : bgd co_et_put 28 (.getfield 18) 3 31 := ⟨by decide +kernel, rfl⟩
theorem d_et_put_31 : bgd co_et_put 31 (.iload_n 1) 1 32 := ⟨by decide +kernel, rfl⟩
theorem d_et_put_32 : bgd co_et_put 32 (.iaload) 1 33 := ⟨by decide +kernel, rfl⟩
theorem d_et_put_33 : bgd co_et_put 33 (.ifCond .ne 7) 3 36 := ⟨by decide +kernel, rfl⟩
theorem d_et_put_36 : bgd co_et_put 36 (.iconst 0) 1 37 := ⟨by decide +kernel, rfl⟩
theorem d_et_put_37 : bgd co_et_put 37 (.goto 4) 3 40 := ⟨by decide +kernel, rfl⟩
theorem d_et_put_40 : bgd co_et_put 40 (.iconst 1) 1 41 := ⟨by decide +kernel, rfl⟩
theorem d_et_put_41 : bgd co_et_put 41 (.isub) 1 42 := ⟨by decide +kernel, rfl⟩
theorem d_et_put_42 : bgd co_et_put 42 (.iadd) 1 43 := ⟨by decide +kernel, rfl⟩
theorem d_et_put_43 : bgd co_et_put 43 (.putfield 21) 3 46 := ⟨by decide +kernel, rfl⟩
theorem d_et_put_46 : bgd co_et_put 46 (.aload_n 0) 1 47 := ⟨by decide +kernel, rfl⟩
theorem d_et_put_47 : bgd co_et_put 47 (.getfield 9) 3 50 := ⟨by decide +kernel, rfl⟩
theorem d_et_put_50 : bgd co_et_put 50 (.iload_n 1) 1 51 := ⟨by decide +kernel, rfl⟩
theorem d_et_put_51 : bgd co_et_put 51 (.iload_n 2) 1 52 := ⟨by decide +kernel, rfl⟩
theorem d_et_put_52 : bgd co_et_put 52 (.iastore) 1 53 := ⟨by decide +kernel, rfl⟩
theorem d_et_put_53 : bgd co_et_put 53 (.aload_n 0) 1 54 := ⟨by decide +kernel, rfl⟩
theorem d_et_put_54 : bgd co_et_put 54 (.getfield 15) 3 57 := ⟨by decide +kernel, rfl⟩
theorem d_et_put_57 : bgd co_et_put 57 (.iload_n 1) 1 58 := ⟨by decide +kernel, rfl⟩
theorem d_et_put_58 : bgd co_et_put 58 (.iload_n 3) 1 59 := ⟨by decide +kernel, rfl⟩
theorem d_et_put_59 : bgd co_et_put 59 (.iastore) 1 60 := ⟨by decide +kernel, rfl⟩
theorem d_et_put_60 : bgd co_et_put 60 (.aload_n 0) 1 61 := ⟨by decide +kernel, rfl⟩
theorem d_et_put_61 : bgd co_et_put 61 (.getfield 18) 3 64 := ⟨by decide +kernel, rfl⟩
theorem d_et_put_64 : bgd co_et_put 64 (.iload_n 1) 1 65 := ⟨by decide +kernel, rfl⟩
theorem d_et_put_65 : bgd co_et_put 65 (.iload 4) 2 67 := ⟨by decide +kernel, rfl⟩
theorem d_et_put_67 : bgd co_et_put 67 (.iastore) 1 68 := ⟨by decide +kernel, rfl⟩
theorem d_et_put_68 : bgd co_et_put 68 (.return_) 1 69 := ⟨by decide +kernel, rfl⟩
theorem d_hd_limit_0 : bgd co_hd_limit 0 (.aload_n 0) 1 1 := ⟨by decide +kernel, rfl⟩
theorem d_hd_limit_1 : bgd co_hd_limit 1 (.iload_n 1) 1 2 := ⟨by decide +kernel, rfl⟩
theorem d_hd_limit_2 : bgd co_hd_limit 2 (.putfield 22) 3 5 := ⟨by decide +kernel, rfl⟩
theorem d_hd_limit_5 : bgd co_hd_limit 5 (.aload_n 0) 1 6 := ⟨by decide +kernel, rfl⟩
theorem d_hd_limit_6 : bgd co_hd_limit 6 (.aload_n 0) 1 7 := ⟨by decide +kernel, rfl⟩
theorem d_hd_limit_7 : bgd co_hd_limit 7 (.getfield 15) 3 10 := ⟨by decide +kernel, rfl⟩
theorem d_hd_limit_10 : bgd co_hd_limit 10 (.aload_n 0) 1 11 := ⟨by decide +kernel, rfl⟩
theorem d_hd_limit_11 : bgd co_hd_limit 11 (.getfield 22) 3 14 := ⟨by decide +kernel, rfl⟩
theorem d_hd_limit_14 : bgd co_hd_limit 14 (.invokestatic 25) 3 17 := ⟨by decide +kernel, rfl⟩
theorem d_hd_limit_17 : bgd co_hd_limit 17 (.putfield 15) 3 20 := ⟨by decide +kernel, rfl⟩
theorem d_hd_limit_20 : bgd co_hd_limit 20 (.return_) 1 21 := ⟨by decide +kernel, rfl⟩
theorem d_hd_look_0 : bgd co_hd_look 0 (.aload_n 0) 1 1 := ⟨by decide +kernel, rfl⟩
theorem d_hd_look_1 : bgd co_hd_look 1 (.iload_n 1) 1 2 := ⟨by decide +kernel, rfl⟩
theorem d_hd_look_2 : bgd co_hd_look 2 (.invokevirtual 31) 3 5 := ⟨by decide +kernel, rfl⟩
theorem d_hd_look_5 : bgd co_hd_look 5 (.iconst (-1)) 1 6 := ⟨by decide +kernel, rfl⟩
theorem d_hd_look_6 : bgd co_hd_look 6 (.if_icmp .ne 13) 3 9 := ⟨by decide +kernel, rfl⟩
theorem d_hd_look_9 : bgd co_hd_look 9 (.aload_n 0) 1 10 := ⟨by decide +kernel, rfl⟩
theorem d_hd_look_10 : bgd co_hd_look 10 (.dup) 1 11 := ⟨by decide +kernel, rfl⟩
theorem d_hd_look_11 : bgd co_hd_look 11 (.getfield 19) 3 14 := ⟨by decide +kernel, rfl⟩
theorem d_hd_look_14 : bgd co_hd_look 14 (.iconst 1) 1 15 := ⟨by decide +kernel, rfl⟩
theorem d_hd_look_15 : bgd co_hd_look 15 (.iadd) 1 16 := ⟨by decide +kernel, rfl⟩
theorem d_hd_look_16 : bgd co_hd_look 16 (.putfield 19) 3 19 := ⟨by decide +kernel, rfl⟩
theorem d_hd_look_19 : bgd co_hd_look 19 (.aload_n 0) 1 20 := ⟨by decide +kernel, rfl⟩
theorem d_hd_look_20 : bgd co_hd_look 20 (.iload_n 1) 1 21 := ⟨by decide +kernel, rfl⟩
theorem d_hd_look_21 : bgd co_hd_look 21 (.invokevirtual 35) 3 24 := ⟨by decide +kernel, rfl⟩
theorem d_hd_look_24 : bgd co_hd_look 24 (.return_) 1 25 := ⟨by decide +kernel, rfl⟩
theorem d_hd_place_0 : bgd co_hd_place 0 (.iconst 0) 1 1 := ⟨by decide +kernel, rfl⟩
theorem d_hd_place_1 : bgd co_hd_place 1 (.istore_n 2) 1 2 := ⟨by decide +kernel, rfl⟩
theorem d_hd_place_2 : bgd co_hd_place 2 (.iload_n 2) 1 3 := ⟨by decide +kernel, rfl⟩
theorem d_hd_place_3 : bgd co_hd_place 3 (.aload_n 0) 1 4 := ⟨by decide +kernel, rfl⟩
theorem d_hd_place_4 : bgd co_hd_place 4 (.getfield 15) 3 7 := ⟨by decide +kernel, rfl⟩
theorem d_hd_place_7 : bgd co_hd_place 7 (.if_icmp .ge 27) 3 10 := ⟨by decide +kernel, rfl⟩
theorem d_hd_place_10 : bgd co_hd_place 10 (.iload_n 2) 1 11 := ⟨by decide +kernel, rfl⟩
theorem d_hd_place_11 : bgd co_hd_place 11 (.bipush 50) 2 13 := ⟨by decide +kernel, rfl⟩
theorem d_hd_place_13 : bgd co_hd_place 13 (.if_icmp .ge 21) 3 16 := ⟨by decide +kernel, rfl⟩
theorem d_hd_place_16 : bgd co_hd_place 16 (.aload_n 0) 1 17 := ⟨by decide +kernel, rfl⟩
theorem d_hd_place_17 : bgd co_hd_place 17 (.getfield 9) 3 20 := ⟨by decide +kernel, rfl⟩
theorem d_hd_place_20 : bgd co_hd_place 20 (.iload_n 2) 1 21 := ⟨by decide +kernel, rfl⟩
theorem d_hd_place_21 : bgd co_hd_place 21 (.iaload) 1 22 := ⟨by decide +kernel, rfl⟩
theorem d_hd_place_22 : bgd co_hd_place 22 (.iload_n 1) 1 23 := ⟨by decide +kernel, rfl⟩
theorem d_hd_place_23 : bgd co_hd_place 23 (.if_icmp .ne 5) 3 26 := ⟨by decide +kernel, rfl⟩
theorem d_hd_place_26 : bgd co_hd_place 26 (.iload_n 2) 1 27 := ⟨by decide +kernel, rfl⟩
theorem d_hd_place_27 : bgd co_hd_place 27 (.ireturn) 1 28 := ⟨by decide +kernel, rfl⟩
theorem d_hd_place_28 : bgd co_hd_place 28 (.iinc 2 1) 3 31 := ⟨by decide +kernel, rfl⟩
theorem d_hd_place_31 : bgd co_hd_place 31 (.goto (-29)) 3 34 := ⟨by decide +kernel, rfl⟩
theorem d_hd_place_34 : bgd co_hd_place 34 (.iconst (-1)) 1 35 := ⟨by decide +kernel, rfl⟩
theorem d_hd_place_35 : bgd co_hd_place 35 (.ireturn) 1 36 := ⟨by decide +kernel, rfl⟩
theorem d_hd_putFirst_0 : bgd co_hd_putFirst 0 (.aload_n 0) 1 1 := ⟨by decide +kernel, rfl⟩
theorem d_hd_putFirst_1 : bgd co_hd_putFirst 1 (.iload_n 1) 1 2 := ⟨by decide +kernel, rfl⟩
theorem d_hd_putFirst_2 : bgd co_hd_putFirst 2 (.invokevirtual 31) 3 5 := ⟨by decide +kernel, rfl⟩
theorem d_hd_putFirst_5 : bgd co_hd_putFirst 5 (.istore_n 2) 1 6 := ⟨by decide +kernel, rfl⟩
theorem d_hd_putFirst_6 : bgd co_hd_putFirst 6 (.iload_n 2) 1 7 := ⟨by decide +kernel, rfl⟩
theorem d_hd_putFirst_7 : bgd co_hd_putFirst 7 (.iconst (-1)) 1 8 := ⟨by decide +kernel, rfl⟩
theorem d_hd_putFirst_8 : bgd co_hd_putFirst 8 (.if_icmp .ne 27) 3 11 := ⟨by decide +kernel, rfl⟩
theorem d_hd_putFirst_11 : bgd co_hd_putFirst 11 (.aload_n 0) 1 12 := ⟨by decide +kernel, rfl⟩
theorem d_hd_putFirst_12 : bgd co_hd_putFirst 12 (.aload_n 0) 1 13 := ⟨by decide +kernel, rfl⟩
theorem d_hd_putFirst_13 : bgd co_hd_putFirst 13 (.getfield 15) 3 16 := ⟨by decide +kernel, rfl⟩
theorem d_hd_putFirst_16 : bgd co_hd_putFirst 16 (.iconst 1) 1 17 := ⟨by decide +kernel, rfl⟩
theorem d_hd_putFirst_17 : bgd co_hd_putFirst 17 (.iadd) 1 18 := ⟨by decide +kernel, rfl⟩
theorem d_hd_putFirst_18 : bgd co_hd_putFirst 18 (.aload_n 0) 1 19 := ⟨by decide +kernel, rfl⟩
theorem d_hd_putFirst_19 : bgd co_hd_putFirst 19 (.getfield 22) 3 22 := ⟨by decide +kernel, rfl⟩
theorem d_hd_putFirst_22 : bgd co_hd_putFirst 22 (.invokestatic 25) 3 25 := ⟨by decide +kernel, rfl⟩
theorem d_hd_putFirst_25 : bgd co_hd_putFirst 25 (.putfield 15) 3 28 := ⟨by decide +kernel, rfl⟩
theorem d_hd_putFirst_28 : bgd co_hd_putFirst 28 (.aload_n 0) 1 29 := ⟨by decide +kernel, rfl⟩
theorem d_hd_putFirst_29 : bgd co_hd_putFirst 29 (.getfield 15) 3 32 := ⟨by decide +kernel, rfl⟩
theorem d_hd_putFirst_32 : bgd co_hd_putFirst 32 (.iconst 1) 1 33 := ⟨by decide +kernel, rfl⟩
theorem d_hd_putFirst_33 : bgd co_hd_putFirst 33 (.isub) 1 34 := ⟨by decide +kernel, rfl⟩
theorem d_hd_putFirst_34 : bgd co_hd_putFirst 34 (.istore_n 2) 1 35 := ⟨by decide +kernel, rfl⟩
theorem d_hd_putFirst_35 : bgd co_hd_putFirst 35 (.aload_n 0) 1 36 := ⟨by decide +kernel, rfl⟩
theorem d_hd_putFirst_36 : bgd co_hd_putFirst 36 (.getfield 9) 3 39 := ⟨by decide +kernel, rfl⟩
theorem d_hd_putFirst_39 : bgd co_hd_putFirst 39 (.iconst 0) 1 40 := ⟨by decide +kernel, rfl⟩
theorem d_hd_putFirst_40 : bgd co_hd_putFirst 40 (.aload_n 0) 1 41 := ⟨by decide +kernel, rfl⟩
theorem d_hd_putFirst_41 : bgd co_hd_putFirst 41 (.getfield 9) 3 44 := ⟨by decide +kernel, rfl⟩
theorem d_hd_putFirst_44 : bgd co_hd_putFirst 44 (.iconst 1) 1 45 := ⟨by decide +kernel, rfl⟩
theorem d_hd_putFirst_45 : bgd co_hd_putFirst 45 (.iload_n 2) 1 46 := ⟨by decide +kernel, rfl⟩
theorem d_hd_putFirst_46 : bgd co_hd_putFirst 46 (.invokestatic 39) 3 49 := ⟨by decide +kernel, rfl⟩
theorem d_hd_putFirst_49 : bgd co_hd_putFirst 49 (.aload_n 0) 1 50 := ⟨by decide +kernel, rfl⟩
theorem d_hd_putFirst_50 : bgd co_hd_putFirst 50 (.getfield 9) 3 53 := ⟨by decide +kernel, rfl⟩
theorem d_hd_putFirst_53 : bgd co_hd_putFirst 53 (.iconst 0) 1 54 := ⟨by decide +kernel, rfl⟩
theorem d_hd_putFirst_54 : bgd co_hd_putFirst 54 (.iload_n 1) 1 55 := ⟨by decide +kernel, rfl⟩
theorem d_hd_putFirst_55 : bgd co_hd_putFirst 55 (.iastore) 1 56 := ⟨by decide +kernel, rfl⟩
theorem d_hd_putFirst_56 : bgd co_hd_putFirst 56 (.return_) 1 57 := ⟨by decide +kernel, rfl⟩
theorem d_ja_fill_0 : bgd co_ja_fill 0 (.iconst 0) 1 1 := ⟨by decide +kernel, rfl⟩
theorem d_ja_fill_1 : bgd co_ja_fill 1 (.istore_n 2) 1 2 := ⟨by decide +kernel, rfl⟩
theorem d_ja_fill_2 : bgd co_ja_fill 2 (.aload_n 0) 1 3 := ⟨by decide +kernel, rfl⟩
theorem d_ja_fill_3 : bgd co_ja_fill 3 (.arraylength) 1 4 := ⟨by decide +kernel, rfl⟩
theorem d_ja_fill_4 : bgd co_ja_fill 4 (.istore_n 3) 1 5 := ⟨by decide +kernel, rfl⟩
theorem d_ja_fill_5 : bgd co_ja_fill 5 (.iload_n 2) 1 6 := ⟨by decide +kernel, rfl⟩
theorem d_ja_fill_6 : bgd co_ja_fill 6 (.iload_n 3) 1 7 := ⟨by decide +kernel, rfl⟩
theorem d_ja_fill_7 : bgd co_ja_fill 7 (.if_icmp .ge 13) 3 10 := ⟨by decide +kernel, rfl⟩
theorem d_ja_fill_10 : bgd co_ja_fill 10 (.aload_n 0) 1 11 := ⟨by decide +kernel, rfl⟩
theorem d_ja_fill_11 : bgd co_ja_fill 11 (.iload_n 2) 1 12 := ⟨by decide +kernel, rfl⟩
theorem d_ja_fill_12 : bgd co_ja_fill 12 (.iload_n 1) 1 13 := ⟨by decide +kernel, rfl⟩
theorem d_ja_fill_13 : bgd co_ja_fill 13 (.iastore) 1 14 := ⟨by decide +kernel, rfl⟩
theorem d_ja_fill_14 : bgd co_ja_fill 14 (.iinc 2 1) 3 17 := ⟨by decide +kernel, rfl⟩
theorem d_ja_fill_17 : bgd co_ja_fill 17 (.goto (-12)) 3 20 := ⟨by decide +kernel, rfl⟩
theorem d_ja_fill_20 : bgd co_ja_fill 20 (.return_) 1 21 := ⟨by decide +kernel, rfl⟩
theorem d_op_append_0 : bgd co_op_append 0 (.aload_n 0) 1 1 := ⟨by decide +kernel, rfl⟩
theorem d_op_append_1 : bgd co_op_append 1 (.getfield 24) 3 4 := ⟨by decide +kernel, rfl⟩
theorem d_op_append_4 : bgd co_op_append 4 (.bipush 20) 2 6 := ⟨by decide +kernel, rfl⟩
theorem d_op_append_6 : bgd co_op_append 6 (.if_icmp .lt 4) 3 9 := ⟨by decide +kernel, rfl⟩
theorem d_op_append_9 : bgd co_op_append 9 (.return_) 1 10 := ⟨by decide +kernel, rfl⟩
theorem d_op_append_10 : bgd co_op_append 10 (.aload_n 0) 1 11 := ⟨by decide +kernel, rfl⟩
theorem d_op_append_11 : bgd co_op_append 11 (.getfield 9) 3 14 := ⟨by decide +kernel, rfl⟩
theorem d_op_append_14 : bgd co_op_append 14 (.aload_n 0) 1 15 := ⟨by decide +kernel, rfl⟩
theorem d_op_append_15 : bgd co_op_append 15 (.getfield 24) 3 18 := ⟨by decide +kernel, rfl⟩
theorem d_op_append_18 : bgd co_op_append 18 (.iload_n 1) 1 19 := ⟨by decide +kernel, rfl⟩
theorem d_op_append_19 : bgd co_op_append 19 (.iastore) 1 20 := ⟨by decide +kernel, rfl⟩
theorem d_op_append_20 : bgd co_op_append 20 (.aload_n 0) 1 21 := ⟨by decide +kernel, rfl⟩
theorem d_op_append_21 : bgd co_op_append 21 (.getfield 15) 3 24 := ⟨by decide +kernel, rfl⟩
theorem d_op_append_24 : bgd co_op_append 24 (.aload_n 0) 1 25 := ⟨by decide +kernel, rfl⟩
theorem d_op_append_25 : bgd co_op_append 25 (.getfield 24) 3 28 := ⟨by decide +kernel, rfl⟩
theorem d_op_append_28 : bgd co_op_append 28 (.iload_n 2) 1 29 := ⟨by decide +kernel, rfl⟩
theorem d_op_append_29 : bgd co_op_append 29 (.iastore) 1 30 := ⟨by decide +kernel, rfl⟩
theorem d_op_append_30 : bgd co_op_append 30 (.aload_n 0) 1 31 := ⟨by decide +kernel, rfl⟩
theorem d_op_append_31 : bgd co_op_append 31 (.getfield 18) 3 34 := ⟨by decide +kernel, rfl⟩
theorem d_op_append_34 : bgd co_op_append 34 (.aload_n 0) 1 35 := ⟨by decide +kernel, rfl⟩
theorem d_op_append_35 : bgd co_op_append 35 (.getfield 24) 3 38 := ⟨by decide +kernel, rfl⟩
theorem d_op_append_38 : bgd co_op_append 38 (.iload_n 3) 1 39 := ⟨by decide +kernel, rfl⟩
theorem d_op_append_39 : bgd co_op_append 39 (.iastore) 1 40 := ⟨by decide +kernel, rfl⟩
theorem d_op_append_40 : bgd co_op_append 40 (.aload_n 0) 1 41 := ⟨by decide +kernel, rfl⟩
theorem d_op_append_41 : bgd co_op_append 41 (.getfield 21) 3 44 := ⟨by decide +kernel, rfl⟩
theorem d_op_append_44 : bgd co_op_append 44 (.aload_n 0) 1 45 := ⟨by decide +kernel, rfl⟩
theorem d_op_append_45 : bgd co_op_append 45 (.getfield 24) 3 48 := ⟨by decide +kernel, rfl⟩
theorem d_op_append_48 : bgd co_op_append 48 (.iload 4) 2 50 := ⟨by decide +kernel, rfl⟩
theorem d_op_append_50 : bgd co_op_append 50 (.iastore) 1 51 := ⟨by decide +kernel, rfl⟩
theorem d_op_append_51 : bgd co_op_append 51 (.aload_n 0) 1 52 := ⟨by decide +kernel, rfl⟩
theorem d_op_append_52 : bgd co_op_append 52 (.dup) 1 53 := ⟨by decide +kernel, rfl⟩
theorem d_op_append_53 : bgd co_op_append 53 (.getfield 24) 3 56 := ⟨by decide +kernel, rfl⟩
theorem d_op_append_56 : bgd co_op_append 56 (.iconst 1) 1 57 := ⟨by decide +kernel, rfl⟩
theorem d_op_append_57 : bgd co_op_append 57 (.iadd) 1 58 := ⟨by decide +kernel, rfl⟩
theorem d_op_append_58 : bgd co_op_append 58 (.putfield 24) 3 61 := ⟨by decide +kernel, rfl⟩
theorem d_op_append_61 : bgd co_op_append 61 (.return_) 1 62 := ⟨by decide +kernel, rfl⟩
theorem d_op_areAbout_0 : bgd co_op_areAbout 0 (.iconst 0) 1 1 := ⟨by decide +kernel, rfl⟩
theorem d_op_areAbout_1 : bgd co_op_areAbout 1 (.istore_n 2) 1 2 := ⟨by decide +kernel, rfl⟩
theorem d_op_areAbout_2 : bgd co_op_areAbout 2 (.iload_n 2) 1 3 := ⟨by decide +kernel, rfl⟩
theorem d_op_areAbout_3 : bgd co_op_areAbout 3 (.aload_n 0) 1 4 := ⟨by decide +kernel, rfl⟩
theorem d_op_areAbout_4 : bgd co_op_areAbout 4 (.getfield 24) 3 7 := ⟨by decide +kernel, rfl⟩
theorem d_op_areAbout_7 : bgd co_op_areAbout 7 (.if_icmp .ge 29) 3 10 := ⟨by decide +kernel, rfl⟩
theorem d_op_areAbout_10 : bgd co_op_areAbout 10 (.iload_n 2) 1 11 := ⟨by decide +kernel, rfl⟩
theorem d_op_areAbout_11 : bgd co_op_areAbout 11 (.bipush 20) 2 13 := ⟨by decide +kernel, rfl⟩
theorem d_op_areAbout_13 : bgd co_op_areAbout 13 (.if_icmp .ge 23) 3 16 := ⟨by decide +kernel, rfl⟩
theorem d_op_areAbout_16 : bgd co_op_areAbout 16 (.aload_n 0) 1 17 := ⟨by decide +kernel, rfl⟩
theorem d_op_areAbout_17 : bgd co_op_areAbout 17 (.getfield 9) 3 20 := ⟨by decide +kernel, rfl⟩
theorem d_op_areAbout_20 : bgd co_op_areAbout 20 (.iload_n 2) 1 21 := ⟨by decide +kernel, rfl⟩
theorem d_op_areAbout_21 : bgd co_op_areAbout 21 (.iaload) 1 22 := ⟨by decide +kernel, rfl⟩
theorem d_op_areAbout_22 : bgd co_op_areAbout 22 (.iconst 4) 1 23 := ⟨by decide +kernel, rfl⟩
theorem d_op_areAbout_23 : bgd co_op_areAbout 23 (.idiv) 1 24 := ⟨by decide +kernel, rfl⟩
theorem d_op_areAbout_24 : bgd co_op_areAbout 24 (.iload_n 1) 1 25 := ⟨by decide +kernel, rfl⟩
theorem d_op_areAbout_25 : bgd co_op_areAbout 25 (.if_icmp .ne 5) 3 28 := ⟨by decide +kernel, rfl⟩
theorem d_op_areAbout_28 : bgd co_op_areAbout 28 (.iconst 1) 1 29 := ⟨by decide +kernel, rfl⟩
theorem d_op_areAbout_29 : bgd co_op_areAbout 29 (.ireturn) 1 30 := ⟨by decide +kernel, rfl⟩
theorem d_op_areAbout_30 : bgd co_op_areAbout 30 (.iinc 2 1) 3 33 := ⟨by decide +kernel, rfl⟩
theorem d_op_areAbout_33 : bgd co_op_areAbout 33 (.goto (-31)) 3 36 := ⟨by decide +kernel, rfl⟩
theorem d_op_areAbout_36 : bgd co_op_areAbout 36 (.iconst 0) 1 37 := ⟨by decide +kernel, rfl⟩
theorem d_op_areAbout_37 : bgd co_op_areAbout 37 (.ireturn) 1 38 := ⟨by decide +kernel, rfl⟩
theorem d_op_copyOne_0 : bgd co_op_copyOne 0 (.iload_n 2) 1 1 := ⟨by decide +kernel, rfl⟩
theorem d_op_copyOne_1 : bgd co_op_copyOne 1 (.ifCond .lt 9) 3 4 := ⟨by decide +kernel, rfl⟩
theorem d_op_copyOne_4 : bgd co_op_copyOne 4 (.iload_n 2) 1 5 := ⟨by decide +kernel, rfl⟩
theorem d_op_copyOne_5 : bgd co_op_copyOne 5 (.bipush 20) 2 7 := ⟨by decide +kernel, rfl⟩
theorem d_op_copyOne_7 : bgd co_op_copyOne 7 (.if_icmp .lt 4) 3 10 := ⟨by decide +kernel, rfl⟩
theorem d_op_copyOne_10 : bgd co_op_copyOne 10 (.return_) 1 11 := ⟨by decide +kernel, rfl⟩
theorem d_op_copyOne_11 : bgd co_op_copyOne 11 (.aload_n 0) 1 12 := ⟨by decide +kernel, rfl⟩
theorem d_op_copyOne_12 : bgd co_op_copyOne 12 (.getfield 9) 3 15 := ⟨by decide +kernel, rfl⟩
theorem d_op_copyOne_15 : bgd co_op_copyOne 15 (.iload_n 2) 1 16 := ⟨by decide +kernel, rfl⟩
theorem d_op_copyOne_16 : bgd co_op_copyOne 16 (.aload_n 1) 1 17 := ⟨by decide +kernel, rfl⟩
theorem d_op_copyOne_17 : bgd co_op_copyOne 17 (.getfield 9) 3 20 := ⟨by decide +kernel, rfl⟩
theorem d_op_copyOne_20 : bgd co_op_copyOne 20 (.iload_n 2) 1 21 := ⟨by decide +kernel, rfl⟩
theorem d_op_copyOne_21 : bgd co_op_copyOne 21 (.iaload) 1 22 := ⟨by decide +kernel, rfl⟩
theorem d_op_copyOne_22 : bgd co_op_copyOne 22 (.iastore) 1 23 := ⟨by decide +kernel, rfl⟩
theorem d_op_copyOne_23 : bgd co_op_copyOne 23 (.aload_n 0) 1 24 := ⟨by decide +kernel, rfl⟩
theorem d_op_copyOne_24 : bgd co_op_copyOne 24 (.getfield 15) 3 27 := ⟨by decide +kernel, rfl⟩
theorem d_op_copyOne_27 : bgd co_op_copyOne 27 (.iload_n 2) 1 28 := ⟨by decide +kernel, rfl⟩
theorem d_op_copyOne_28 : bgd co_op_copyOne 28 (.aload_n 1) 1 29 := ⟨by decide +kernel, rfl⟩
theorem d_op_copyOne_29 : bgd co_op_copyOne 29 (.getfield 15) 3 32 := ⟨by decide +kernel, rfl⟩
theorem d_op_copyOne_32 : bgd co_op_copyOne 32 (.iload_n 2) 1 33 := ⟨by decide +kernel, rfl⟩
theorem d_op_copyOne_33 : bgd co_op_copyOne 33 (.iaload) 1 34 := ⟨by decide +kernel, rfl⟩
theorem d_op_copyOne_34 : bgd co_op_copyOne 34 (.iastore) 1 35 := ⟨by decide +kernel, rfl⟩
theorem d_op_copyOne_35 : bgd co_op_copyOne 35 (.aload_n 0) 1 36 := ⟨by decide +kernel, rfl⟩
theorem d_op_copyOne_36 : bgd co_op_copyOne 36 (.getfield 18) 3 39 := ⟨by decide +kernel, rfl⟩
theorem d_op_copyOne_39 : bgd co_op_copyOne 39 (.iload_n 2) 1 40 := ⟨by decide +kernel, rfl⟩
theorem d_op_copyOne_40 : bgd co_op_copyOne 40 (.aload_n 1) 1 41 := ⟨by decide +kernel, rfl⟩
theorem d_op_copyOne_41 : bgd co_op_copyOne 41 (.getfield 18) 3 44 := ⟨by decide +kernel, rfl⟩
theorem d_op_copyOne_44 : bgd co_op_copyOne 44 (.iload_n 2) 1 45 := ⟨by decide +kernel, rfl⟩
theorem d_op_copyOne_45 : bgd co_op_copyOne 45 (.iaload) 1 46 := ⟨by decide +kernel, rfl⟩
theorem d_op_copyOne_46 : bgd co_op_copyOne 46 (.iastore) 1 47 := ⟨by decide +kernel, rfl⟩
theorem d_op_copyOne_47 : bgd co_op_copyOne 47 (.aload_n 0) 1 48 := ⟨by decide +kernel, rfl⟩
theorem d_op_copyOne_48 : bgd co_op_copyOne 48 (.getfield 21) 3 51 := ⟨by decide +kernel, rfl⟩
theorem d_op_copyOne_51 : bgd co_op_copyOne 51 (.iload_n 2) 1 52 := ⟨by decide +kernel, rfl⟩
theorem d_op_copyOne_52 : bgd co_op_copyOne 52 (.aload_n 1) 1 53 := ⟨by decide +kernel, rfl⟩
theorem d_op_copyOne_53 : bgd co_op_copyOne 53 (.getfield 21) 3 56 := ⟨by decide +kernel, rfl⟩
theorem d_op_copyOne_56 : bgd co_op_copyOne 56 (.iload_n 2) 1 57 := ⟨by decide +kernel, rfl⟩
theorem d_op_copyOne_57 : bgd co_op_copyOne 57 (.iaload) 1 58 := ⟨by decide +kernel, rfl⟩
theorem d_op_copyOne_58 : bgd co_op_copyOne 58 (.iastore) 1 59 := ⟨by decide +kernel, rfl⟩
theorem d_op_copyOne_59 : bgd co_op_copyOne 59 (.return_) 1 60 := ⟨by decide +kernel, rfl⟩
theorem d_op_doAll_0 : bgd co_op_doAll 0 (.iconst 0) 1 1 := ⟨by decide +kernel, rfl⟩
theorem d_op_doAll_1 : bgd co_op_doAll 1 (.istore_n 2) 1 2 := ⟨by decide +kernel, rfl⟩
theorem d_op_doAll_2 : bgd co_op_doAll 2 (.iload_n 2) 1 3 := ⟨by decide +kernel, rfl⟩
theorem d_op_doAll_3 : bgd co_op_doAll 3 (.aload_n 0) 1 4 := ⟨by decide +kernel, rfl⟩
theorem d_op_doAll_4 : bgd co_op_doAll 4 (.getfield 24) 3 7 := ⟨by decide +kernel, rfl⟩
theorem d_op_doAll_7 : bgd co_op_doAll 7 (.if_icmp .ge 43) 3 10 := ⟨by decide +kernel, rfl⟩
theorem d_op_doAll_10 : bgd co_op_doAll 10 (.iload_n 2) 1 11 := ⟨by decide +kernel, rfl⟩
theorem d_op_doAll_11 : bgd co_op_doAll 11 (.bipush 20) 2 13 := ⟨by decide +kernel, rfl⟩
theorem d_op_doAll_13 : bgd co_op_doAll 13 (.if_icmp .ge 37) 3 16 := ⟨by decide +kernel, rfl⟩
theorem d_op_doAll_16 : bgd co_op_doAll 16 (.aload_n 1) 1 17 := ⟨by decide +kernel, rfl⟩
theorem d_op_doAll_17 : bgd co_op_doAll 17 (.aload_n 0) 1 18 := ⟨by decide +kernel, rfl⟩
theorem d_op_doAll_18 : bgd co_op_doAll 18 (.getfield 9) 3 21 := ⟨by decide +kernel, rfl⟩
theorem d_op_doAll_21 : bgd co_op_doAll 21 (.iload_n 2) 1 22 := ⟨by decide +kernel, rfl⟩
theorem d_op_doAll_22 : bgd co_op_doAll 22 (.iaload) 1 23 := ⟨by decide +kernel, rfl⟩
theorem d_op_doAll_23 : bgd co_op_doAll 23 (.aload_n 0) 1 24 := ⟨by decide +kernel, rfl⟩
theorem d_op_doAll_24 : bgd co_op_doAll 24 (.getfield 15) 3 27 := ⟨by decide +kernel, rfl⟩
theorem d_op_doAll_27 : bgd co_op_doAll 27 (.iload_n 2) 1 28 := ⟨by decide +kernel, rfl⟩
theorem d_op_doAll_28 : bgd co_op_doAll 28 (.iaload) 1 29 := ⟨by decide +kernel, rfl⟩
theorem d_op_doAll_29 : bgd co_op_doAll 29 (.aload_n 0) 1 30 := ⟨by decide +kernel, rfl⟩
theorem d_op_doAll_30 : bgd co_op_doAll 30 (.getfield 18) 3 33 := ⟨by decide +kernel, rfl⟩
theorem d_op_doAll_33 : bgd co_op_doAll 33 (.iload_n 2) 1 34 := ⟨by decide +kernel, rfl⟩
theorem d_op_doAll_34 : bgd co_op_doAll 34 (.iaload) 1 35 := ⟨by decide +kernel, rfl⟩
theorem d_op_doAll_35 : bgd co_op_doAll 35 (.aload_n 0) 1 36 := ⟨by decide +kernel, rfl⟩
theorem d_op_doAll_36 : bgd co_op_doAll 36 (.getfield 21) 3 39 := ⟨by decide +kernel, rfl⟩
theorem d_op_doAll_39 : bgd co_op_doAll 39 (.iload_n 2) 1 40 := ⟨by decide +kernel, rfl⟩
theorem d_op_doAll_40 : bgd co_op_doAll 40 (.iaload) 1 41 := ⟨by decide +kernel, rfl⟩
theorem d_op_doAll_41 : bgd co_op_doAll 41 (.invokevirtual 28) 3 44 := ⟨by decide +kernel, rfl⟩
theorem d_op_doAll_44 : bgd co_op_doAll 44 (.iinc 2 1) 3 47 := ⟨by decide +kernel, rfl⟩
theorem d_op_doAll_47 : bgd co_op_doAll 47 (.goto (-45)) 3 50 := ⟨by decide +kernel, rfl⟩
theorem d_op_doAll_50 : bgd co_op_doAll 50 (.return_) 1 51 := ⟨by decide +kernel, rfl⟩
theorem d_pw_holds_0 : bgd co_pw_holds 0 (.aload_n 0) 1 1 := ⟨by decide +kernel, rfl⟩
theorem d_pw_holds_1 : bgd co_pw_holds 1 (.getfield 9) 3 4 := ⟨by decide +kernel, rfl⟩
theorem d_pw_holds_4 : bgd co_pw_holds 4 (.ifCond .ne 10) 3 7 := ⟨by decide +kernel, rfl⟩
theorem d_pw_holds_7 : bgd co_pw_holds 7 (.aload_n 0) 1 8 := ⟨by decide +kernel, rfl⟩
theorem d_pw_holds_8 : bgd co_pw_holds 8 (.iconst (-1)) 1 9 := ⟨by decide +kernel, rfl⟩
theorem d_pw_holds_9 : bgd co_pw_holds 9 (.putfield 9) 3 12 := ⟨by decide +kernel, rfl⟩
theorem d_pw_holds_12 : bgd co_pw_holds 12 (.iconst 0) 1 13 := ⟨by decide +kernel, rfl⟩
theorem d_pw_holds_13 : bgd co_pw_holds 13 (.ireturn) 1 14 := ⟨by decide +kernel, rfl⟩
theorem d_pw_holds_14 : bgd co_pw_holds 14 (.aload_n 0) 1 15 := ⟨by decide +kernel, rfl⟩
theorem d_pw_holds_15 : bgd co_pw_holds 15 (.getfield 9) 3 18 := ⟨by decide +kernel, rfl⟩
theorem d_pw_holds_18 : bgd co_pw_holds 18 (.ifCond .le 13) 3 21 := ⟨by decide +kernel, rfl⟩
theorem d_pw_holds_21 : bgd co_pw_holds 21 (.aload_n 0) 1 22 := ⟨by decide +kernel, rfl⟩
theorem d_pw_holds_22 : bgd co_pw_holds 22 (.dup) 1 23 := ⟨by decide +kernel, rfl⟩
theorem d_pw_holds_23 : bgd co_pw_holds 23 (.getfield 9) 3 26 := ⟨by decide +kernel, rfl⟩
theorem d_pw_holds_26 : bgd co_pw_holds 26 (.iconst 1) 1 27 := ⟨by decide +kernel, rfl⟩
theorem d_pw_holds_27 : bgd co_pw_holds 27 (.isub) 1 28 := ⟨by decide +kernel, rfl⟩
theorem d_pw_holds_28 : bgd co_pw_holds 28 (.putfield 9) 3 31 := ⟨by decide +kernel, rfl⟩
theorem d_pw_holds_31 : bgd co_pw_holds 31 (.aload_n 0) 1 32 := ⟨by decide +kernel, rfl⟩
theorem d_pw_holds_32 : bgd co_pw_holds 32 (.dup) 1 33 := ⟨by decide +kernel, rfl⟩
theorem d_pw_holds_33 : bgd co_pw_holds 33 (.getfield 15) 3 36 := ⟨by decide +kernel, rfl⟩
theorem d_pw_holds_36 : bgd co_pw_holds 36 (.iconst 1) 1 37 := ⟨by decide +kernel, rfl⟩
theorem d_pw_holds_37 : bgd co_pw_holds 37 (.iadd) 1 38 := ⟨by decide +kernel, rfl⟩
theorem d_pw_holds_38 : bgd co_pw_holds 38 (.putfield 15) 3 41 := ⟨by decide +kernel, rfl⟩
theorem d_pw_holds_41 : bgd co_pw_holds 41 (.iconst 1) 1 42 := ⟨by decide +kernel, rfl⟩
theorem d_pw_holds_42 : bgd co_pw_holds 42 (.ireturn) 1 43 := ⟨by decide +kernel, rfl⟩
theorem d_so_bringHome_0 : bgd co_so_bringHome 0 (.iconst 0) 1 1 := ⟨by decide +kernel, rfl⟩
theorem d_so_bringHome_1 : bgd co_so_bringHome 1 (.istore_n 2) 1 2 := ⟨by decide +kernel, rfl⟩
theorem d_so_bringHome_2 : bgd co_so_bringHome 2 (.iload_n 2) 1 3 := ⟨by decide +kernel, rfl⟩
theorem d_so_bringHome_3 : bgd co_so_bringHome 3 (.bipush 50) 2 5 := ⟨by decide +kernel, rfl⟩
theorem d_so_bringHome_5 : bgd co_so_bringHome 5 (.if_icmp .ge 31) 3 8 := ⟨by decide +kernel, rfl⟩
theorem d_so_bringHome_8 : bgd co_so_bringHome 8 (.aload_n 0) 1 9 := ⟨by decide +kernel, rfl⟩
theorem d_so_bringHome_9 : bgd co_so_bringHome 9 (.getfield 12) 3 12 := ⟨by decide +kernel, rfl⟩
theorem d_so_bringHome_12 : bgd co_so_bringHome 12 (.iload_n 2) 1 13 := ⟨by decide +kernel, rfl⟩
theorem d_so_bringHome_13 : bgd co_so_bringHome 13 (.invokevirtual 71) 3 16 := ⟨by decide +kernel, rfl⟩
theorem d_so_bringHome_16 : bgd co_so_bringHome 16 (.ifCond .eq 14) 3 19 := ⟨by decide +kernel, rfl⟩
theorem d_so_bringHome_19 : bgd co_so_bringHome 19 (.aload_n 0) 1 20 := ⟨by decide +kernel, rfl⟩
theorem d_so_bringHome_20 : bgd co_so_bringHome 20 (.iload_n 2) 1 21 := ⟨by decide +kernel, rfl⟩
theorem d_so_bringHome_21 : bgd co_so_bringHome 21 (.aload_n 1) 1 22 := ⟨by decide +kernel, rfl⟩
theorem d_so_bringHome_22 : bgd co_so_bringHome 22 (.invokevirtual 45) 3 25 := ⟨by decide +kernel, rfl⟩
theorem d_so_bringHome_25 : bgd co_so_bringHome 25 (.ifCond .ne 5) 3 28 := ⟨by decide +kernel, rfl⟩
theorem d_so_bringHome_28 : bgd co_so_bringHome 28 (.iconst 0) 1 29 := ⟨by decide +kernel, rfl⟩
theorem d_so_bringHome_29 : bgd co_so_bringHome 29 (.ireturn) 1 30 := ⟨by decide +kernel, rfl⟩
theorem d_so_bringHome_30 : bgd co_so_bringHome 30 (.iinc 2 1) 3 33 := ⟨by decide +kernel, rfl⟩
theorem d_so_bringHome_33 : bgd co_so_bringHome 33 (.goto (-31)) 3 36 := ⟨by decide +kernel, rfl⟩
theorem d_so_bringHome_36 : bgd co_so_bringHome 36 (.aload_n 0) 1 37 := ⟨by decide +kernel, rfl⟩
theorem d_so_bringHome_37 : bgd co_so_bringHome 37 (.iconst 0) 1 38 := ⟨by decide +kernel, rfl⟩
theorem d_so_bringHome_38 : bgd co_so_bringHome 38 (.invokevirtual 49) 3 41 := ⟨by decide +kernel, rfl⟩
theorem d_so_bringHome_41 : bgd co_so_bringHome 41 (.ireturn) 1 42 := ⟨by decide +kernel, rfl⟩
theorem d_so_layOut_0 : bgd co_so_layOut 0 (.aload_n 0) 1 1 := ⟨by decide +kernel, rfl⟩
theorem d_so_layOut_1 : bgd co_so_layOut 1 (.iconst 0) 1 2 := ⟨by decide +kernel, rfl⟩
theorem d_so_layOut_2 : bgd co_so_layOut 2 (.invokevirtual 41) 3 5 := ⟨by decide +kernel, rfl⟩
theorem d_so_layOut_5 : bgd co_so_layOut 5 (.ifCond .ne 5) 3 8 := ⟨by decide +kernel, rfl⟩
theorem d_so_layOut_8 : bgd co_so_layOut 8 (.iconst 0) 1 9 := ⟨by decide +kernel, rfl⟩
theorem d_so_layOut_9 : bgd co_so_layOut 9 (.ireturn) 1 10 := ⟨by decide +kernel, rfl⟩
theorem d_so_layOut_10 : bgd co_so_layOut 10 (.aload_n 0) 1 11 := ⟨by decide +kernel, rfl⟩
theorem d_so_layOut_11 : bgd co_so_layOut 11 (.iconst 0) 1 12 := ⟨by decide +kernel, rfl⟩
theorem d_so_layOut_12 : bgd co_so_layOut 12 (.putfield 29) 3 15 := ⟨by decide +kernel, rfl⟩
theorem d_so_layOut_15 : bgd co_so_layOut 15 (.iconst 0) 1 16 := ⟨by decide +kernel, rfl⟩
theorem d_so_layOut_16 : bgd co_so_layOut 16 (.istore_n 2) 1 17 := ⟨by decide +kernel, rfl⟩
theorem d_so_layOut_17 : bgd co_so_layOut 17 (.iload_n 2) 1 18 := ⟨by decide +kernel, rfl⟩
theorem d_so_layOut_18 : bgd co_so_layOut 18 (.bipush 50) 2 20 := ⟨by decide +kernel, rfl⟩
theorem d_so_layOut_20 : bgd co_so_layOut 20 (.if_icmp .ge 20) 3 23 := ⟨by decide +kernel, rfl⟩
theorem d_so_layOut_23 : bgd co_so_layOut 23 (.aload_n 0) 1 24 := ⟨by decide +kernel, rfl⟩
theorem d_so_layOut_24 : bgd co_so_layOut 24 (.iload_n 2) 1 25 := ⟨by decide +kernel, rfl⟩
theorem d_so_layOut_25 : bgd co_so_layOut 25 (.aload_n 1) 1 26 := ⟨by decide +kernel, rfl⟩
theorem d_so_layOut_26 : bgd co_so_layOut 26 (.invokevirtual 45) 3 29 := ⟨by decide +kernel, rfl⟩
theorem d_so_layOut_29 : bgd co_so_layOut 29 (.ifCond .ne 5) 3 32 := ⟨by decide +kernel, rfl⟩
theorem d_so_layOut_32 : bgd co_so_layOut 32 (.iconst 0) 1 33 := ⟨by decide +kernel, rfl⟩
theorem d_so_layOut_33 : bgd co_so_layOut 33 (.ireturn) 1 34 := ⟨by decide +kernel, rfl⟩
theorem d_so_layOut_34 : bgd co_so_layOut 34 (.iinc 2 1) 3 37 := ⟨by decide +kernel, rfl⟩
theorem d_so_layOut_37 : bgd co_so_layOut 37 (.goto (-20)) 3 40 := ⟨by decide +kernel, rfl⟩
theorem d_so_layOut_40 : bgd co_so_layOut 40 (.aload_n 0) 1 41 := ⟨by decide +kernel, rfl⟩
theorem d_so_layOut_41 : bgd co_so_layOut 41 (.iconst 0) 1 42 := ⟨by decide +kernel, rfl⟩
theorem d_so_layOut_42 : bgd co_so_layOut 42 (.invokevirtual 49) 3 45 := ⟨by decide +kernel, rfl⟩
theorem d_so_layOut_45 : bgd co_so_layOut 45 (.ifCond .eq 15) 3 48 := ⟨by decide +kernel, rfl⟩
theorem d_so_layOut_48 : bgd co_so_layOut 48 (.aload_n 0) 1 49 := ⟨by decide +kernel, rfl⟩
theorem d_so_layOut_49 : bgd co_so_layOut 49 (.iconst 1) 1 50 := ⟨by decide +kernel, rfl⟩
theorem d_so_layOut_50 : bgd co_so_layOut 50 (.invokevirtual 41) 3 53 := ⟨by decide +kernel, rfl⟩
theorem d_so_layOut_53 : bgd co_so_layOut 53 (.ifCond .eq 7) 3 56 := ⟨by decide +kernel, rfl⟩
theorem d_so_layOut_56 : bgd co_so_layOut 56 (.iconst 1) 1 57 := ⟨by decide +kernel, rfl⟩
theorem d_so_layOut_57 : bgd co_so_layOut 57 (.goto 4) 3 60 := ⟨by decide +kernel, rfl⟩
theorem d_so_layOut_60 : bgd co_so_layOut 60 (.iconst 0) 1 61 := ⟨by decide +kernel, rfl⟩
theorem d_so_layOut_61 : bgd co_so_layOut 61 (.ireturn) 1 62 := ⟨by decide +kernel, rfl⟩
theorem d_so_replay_0 : bgd co_so_replay 0 (.aload_n 1) 1 1 := ⟨by decide +kernel, rfl⟩
theorem d_so_replay_1 : bgd co_so_replay 1 (.aload_n 0) 1 2 := ⟨by decide +kernel, rfl⟩
theorem d_so_replay_2 : bgd co_so_replay 2 (.getfield 21) 3 5 := ⟨by decide +kernel, rfl⟩
theorem d_so_replay_5 : bgd co_so_replay 5 (.invokevirtual 64) 3 8 := ⟨by decide +kernel, rfl⟩
theorem d_so_replay_8 : bgd co_so_replay 8 (.aload_n 0) 1 9 := ⟨by decide +kernel, rfl⟩
theorem d_so_replay_9 : bgd co_so_replay 9 (.getfield 12) 3 12 := ⟨by decide +kernel, rfl⟩
theorem d_so_replay_12 : bgd co_so_replay 12 (.aload_n 1) 1 13 := ⟨by decide +kernel, rfl⟩
theorem d_so_replay_13 : bgd co_so_replay 13 (.invokevirtual 68) 3 16 := ⟨by decide +kernel, rfl⟩
theorem d_so_replay_16 : bgd co_so_replay 16 (.aload_n 0) 1 17 := ⟨by decide +kernel, rfl⟩
theorem d_so_replay_17 : bgd co_so_replay 17 (.getfield 12) 3 20 := ⟨by decide +kernel, rfl⟩
theorem d_so_replay_20 : bgd co_so_replay 20 (.getfield 53) 3 23 := ⟨by decide +kernel, rfl⟩
theorem d_so_replay_23 : bgd co_so_replay 23 (.ifCond .eq 11) 3 26 := ⟨by decide +kernel, rfl⟩
theorem d_so_replay_26 : bgd co_so_replay 26 (.aload_n 0) 1 27 := ⟨by decide +kernel, rfl⟩
theorem d_so_replay_27 : bgd co_so_replay 27 (.aload_n 1) 1 28 := ⟨by decide +kernel, rfl⟩
theorem d_so_replay_28 : bgd co_so_replay 28 (.invokevirtual 60) 3 31 := ⟨by decide +kernel, rfl⟩
theorem d_so_replay_31 : bgd co_so_replay 31 (.ifCond .eq 7) 3 34 := ⟨by decide +kernel, rfl⟩
theorem d_so_replay_34 : bgd co_so_replay 34 (.iconst 1) 1 35 := ⟨by decide +kernel, rfl⟩
theorem d_so_replay_35 : bgd co_so_replay 35 (.goto 4) 3 38 := ⟨by decide +kernel, rfl⟩
theorem d_so_replay_38 : bgd co_so_replay 38 (.iconst 0) 1 39 := ⟨by decide +kernel, rfl⟩
theorem d_so_replay_39 : bgd co_so_replay 39 (.ireturn) 1 40 := ⟨by decide +kernel, rfl⟩
theorem d_so_save_0 : bgd co_so_save 0 (.iconst 0) 1 1 := ⟨by decide +kernel, rfl⟩
theorem d_so_save_1 : bgd co_so_save 1 (.istore_n 3) 1 2 := ⟨by decide +kernel, rfl⟩
theorem d_so_save_2 : bgd co_so_save 2 (.iload_n 3) 1 3 := ⟨by decide +kernel, rfl⟩
theorem d_so_save_3 : bgd co_so_save 3 (.aload_n 1) 1 4 := ⟨by decide +kernel, rfl⟩
theorem d_so_save_4 : bgd co_so_save 4 (.getfield 53) 3 7 := ⟨by decide +kernel, rfl⟩
theorem d_so_save_7 : bgd co_so_save 7 (.if_icmp .ge 20) 3 10 := ⟨by decide +kernel, rfl⟩
theorem d_so_save_10 : bgd co_so_save 10 (.aload_n 0) 1 11 := ⟨by decide +kernel, rfl⟩
theorem d_so_save_11 : bgd co_so_save 11 (.aload_n 1) 1 12 := ⟨by decide +kernel, rfl⟩
theorem d_so_save_12 : bgd co_so_save 12 (.iload_n 3) 1 13 := ⟨by decide +kernel, rfl⟩
theorem d_so_save_13 : bgd co_so_save 13 (.invokevirtual 56) 3 16 := ⟨by decide +kernel, rfl⟩
theorem d_so_save_16 : bgd co_so_save 16 (.ifCond .ne 5) 3 19 := ⟨by decide +kernel, rfl⟩
theorem d_so_save_19 : bgd co_so_save 19 (.iconst 0) 1 20 := ⟨by decide +kernel, rfl⟩
theorem d_so_save_20 : bgd co_so_save 20 (.ireturn) 1 21 := ⟨by decide +kernel, rfl⟩
theorem d_so_save_21 : bgd co_so_save 21 (.iinc 3 1) 3 24 := ⟨by decide +kernel, rfl⟩
theorem d_so_save_24 : bgd co_so_save 24 (.goto (-22)) 3 27 := ⟨by decide +kernel, rfl⟩
theorem d_so_save_27 : bgd co_so_save 27 (.aload_n 0) 1 28 := ⟨by decide +kernel, rfl⟩
theorem d_so_save_28 : bgd co_so_save 28 (.aload_n 1) 1 29 := ⟨by decide +kernel, rfl⟩
theorem d_so_save_29 : bgd co_so_save 29 (.getfield 53) 3 32 := ⟨by decide +kernel, rfl⟩
theorem d_so_save_32 : bgd co_so_save 32 (.invokevirtual 49) 3 35 := ⟨by decide +kernel, rfl⟩
theorem d_so_save_35 : bgd co_so_save 35 (.ifCond .ne 5) 3 38 := ⟨by decide +kernel, rfl⟩
theorem d_so_save_38 : bgd co_so_save 38 (.iconst 0) 1 39 := ⟨by decide +kernel, rfl⟩
theorem d_so_save_39 : bgd co_so_save 39 (.ireturn) 1 40 := ⟨by decide +kernel, rfl⟩
theorem d_so_save_40 : bgd co_so_save 40 (.aload_n 0) 1 41 := ⟨by decide +kernel, rfl⟩
theorem d_so_save_41 : bgd co_so_save 41 (.dup) 1 42 := ⟨by decide +kernel, rfl⟩
theorem d_so_save_42 : bgd co_so_save 42 (.getfield 29) 3 45 := ⟨by decide +kernel, rfl⟩
theorem d_so_save_45 : bgd co_so_save 45 (.iconst 1) 1 46 := ⟨by decide +kernel, rfl⟩
theorem d_so_save_46 : bgd co_so_save 46 (.iadd) 1 47 := ⟨by decide +kernel, rfl⟩
theorem d_so_save_47 : bgd co_so_save 47 (.putfield 29) 3 50 := ⟨by decide +kernel, rfl⟩
theorem d_so_save_50 : bgd co_so_save 50 (.aload_n 0) 1 51 := ⟨by decide +kernel, rfl⟩
theorem d_so_save_51 : bgd co_so_save 51 (.aload_n 2) 1 52 := ⟨by decide +kernel, rfl⟩
theorem d_so_save_52 : bgd co_so_save 52 (.invokevirtual 60) 3 55 := ⟨by decide +kernel, rfl⟩
theorem d_so_save_55 : bgd co_so_save 55 (.ireturn) 1 56 := ⟨by decide +kernel, rfl⟩
theorem d_so_writeHead_0 : bgd co_so_writeHead 0 (.aload_n 0) 1 1 := ⟨by decide +kernel, rfl⟩
theorem d_so_writeHead_1 : bgd co_so_writeHead 1 (.getfield 33) 3 4 := ⟨by decide +kernel, rfl⟩
theorem d_so_writeHead_4 : bgd co_so_writeHead 4 (.invokevirtual 74) 3 7 := ⟨by decide +kernel, rfl⟩
theorem d_so_writeHead_7 : bgd co_so_writeHead 7 (.ifCond .ne 5) 3 10 := ⟨by decide +kernel, rfl⟩
theorem d_so_writeHead_10 : bgd co_so_writeHead 10 (.iconst 0) 1 11 := ⟨by decide +kernel, rfl⟩
theorem d_so_writeHead_11 : bgd co_so_writeHead 11 (.ireturn) 1 12 := ⟨by decide +kernel, rfl⟩
theorem d_so_writeHead_12 : bgd co_so_writeHead 12 (.aload_n 0) 1 13 := ⟨by decide +kernel, rfl⟩
theorem d_so_writeHead_13 : bgd co_so_writeHead 13 (.iload_n 1) 1 14 := ⟨by decide +kernel, rfl⟩
theorem d_so_writeHead_14 : bgd co_so_writeHead 14 (.putfield 25) 3 17 := ⟨by decide +kernel, rfl⟩
theorem d_so_writeHead_17 : bgd co_so_writeHead 17 (.iconst 1) 1 18 := ⟨by decide +kernel, rfl⟩
theorem d_so_writeHead_18 : bgd co_so_writeHead 18 (.ireturn) 1 19 := ⟨by decide +kernel, rfl⟩
theorem d_so_writeHome_0 : bgd co_so_writeHome 0 (.aload_n 0) 1 1 := ⟨by decide +kernel, rfl⟩
theorem d_so_writeHome_1 : bgd co_so_writeHome 1 (.getfield 33) 3 4 := ⟨by decide +kernel, rfl⟩
theorem d_so_writeHome_4 : bgd co_so_writeHome 4 (.invokevirtual 74) 3 7 := ⟨by decide +kernel, rfl⟩
theorem d_so_writeHome_7 : bgd co_so_writeHome 7 (.ifCond .ne 5) 3 10 := ⟨by decide +kernel, rfl⟩
theorem d_so_writeHome_10 : bgd co_so_writeHome 10 (.iconst 0) 1 11 := ⟨by decide +kernel, rfl⟩
theorem d_so_writeHome_11 : bgd co_so_writeHome 11 (.ireturn) 1 12 := ⟨by decide +kernel, rfl⟩
theorem d_so_writeHome_12 : bgd co_so_writeHome 12 (.aload_n 0) 1 13 := ⟨by decide +kernel, rfl⟩
theorem d_so_writeHome_13 : bgd co_so_writeHome 13 (.getfield 21) 3 16 := ⟨by decide +kernel, rfl⟩
theorem d_so_writeHome_16 : bgd co_so_writeHome 16 (.aload_n 2) 1 17 := ⟨by decide +kernel, rfl⟩
theorem d_so_writeHome_17 : bgd co_so_writeHome 17 (.iload_n 1) 1 18 := ⟨by decide +kernel, rfl⟩
theorem d_so_writeHome_18 : bgd co_so_writeHome 18 (.invokevirtual 80) 3 21 := ⟨by decide +kernel, rfl⟩
theorem d_so_writeHome_21 : bgd co_so_writeHome 21 (.aload_n 0) 1 22 := ⟨by decide +kernel, rfl⟩
theorem d_so_writeHome_22 : bgd co_so_writeHome 22 (.getfield 37) 3 25 := ⟨by decide +kernel, rfl⟩
theorem d_so_writeHome_25 : bgd co_so_writeHome 25 (.iload_n 1) 1 26 := ⟨by decide +kernel, rfl⟩
theorem d_so_writeHome_26 : bgd co_so_writeHome 26 (.invokevirtual 84) 3 29 := ⟨by decide +kernel, rfl⟩
theorem d_so_writeHome_29 : bgd co_so_writeHome 29 (.iconst 1) 1 30 := ⟨by decide +kernel, rfl⟩
theorem d_so_writeHome_30 : bgd co_so_writeHome 30 (.ireturn) 1 31 := ⟨by decide +kernel, rfl⟩
theorem d_so_writeLog_0 : bgd co_so_writeLog 0 (.aload_n 0) 1 1 := ⟨by decide +kernel, rfl⟩
theorem d_so_writeLog_1 : bgd co_so_writeLog 1 (.getfield 33) 3 4 := ⟨by decide +kernel, rfl⟩
theorem d_so_writeLog_4 : bgd co_so_writeLog 4 (.invokevirtual 74) 3 7 := ⟨by decide +kernel, rfl⟩
theorem d_so_writeLog_7 : bgd co_so_writeLog 7 (.ifCond .ne 5) 3 10 := ⟨by decide +kernel, rfl⟩
theorem d_so_writeLog_10 : bgd co_so_writeLog 10 (.iconst 0) 1 11 := ⟨by decide +kernel, rfl⟩
theorem d_so_writeLog_11 : bgd co_so_writeLog 11 (.ireturn) 1 12 := ⟨by decide +kernel, rfl⟩
theorem d_so_writeLog_12 : bgd co_so_writeLog 12 (.aload_n 0) 1 13 := ⟨by decide +kernel, rfl⟩
theorem d_so_writeLog_13 : bgd co_so_writeLog 13 (.getfield 12) 3 16 := ⟨by decide +kernel, rfl⟩
theorem d_so_writeLog_16 : bgd co_so_writeLog 16 (.aload_n 1) 1 17 := ⟨by decide +kernel, rfl⟩
theorem d_so_writeLog_17 : bgd co_so_writeLog 17 (.iload_n 2) 1 18 := ⟨by decide +kernel, rfl⟩
theorem d_so_writeLog_18 : bgd co_so_writeLog 18 (.invokevirtual 90) 3 21 := ⟨by decide +kernel, rfl⟩
theorem d_so_writeLog_21 : bgd co_so_writeLog 21 (.iconst 1) 1 22 := ⟨by decide +kernel, rfl⟩
theorem d_so_writeLog_22 : bgd co_so_writeLog 22 (.ireturn) 1 23 := ⟨by decide +kernel, rfl⟩
theorem d_so_writeMark_0 : bgd co_so_writeMark 0 (.aload_n 0) 1 1 := ⟨by decide +kernel, rfl⟩
theorem d_so_writeMark_1 : bgd co_so_writeMark 1 (.getfield 33) 3 4 := ⟨by decide +kernel, rfl⟩
theorem d_so_writeMark_4 : bgd co_so_writeMark 4 (.invokevirtual 74) 3 7 := ⟨by decide +kernel, rfl⟩
theorem d_so_writeMark_7 : bgd co_so_writeMark 7 (.ifCond .ne 5) 3 10 := ⟨by decide +kernel, rfl⟩
theorem d_so_writeMark_10 : bgd co_so_writeMark 10 (.iconst 0) 1 11 := ⟨by decide +kernel, rfl⟩
theorem d_so_writeMark_11 : bgd co_so_writeMark 11 (.ireturn) 1 12 := ⟨by decide +kernel, rfl⟩
theorem d_so_writeMark_12 : bgd co_so_writeMark 12 (.aload_n 0) 1 13 := ⟨by decide +kernel, rfl⟩
theorem d_so_writeMark_13 : bgd co_so_writeMark 13 (.getfield 12) 3 16 := ⟨by decide +kernel, rfl⟩
theorem d_so_writeMark_16 : bgd co_so_writeMark 16 (.iload_n 1) 1 17 := ⟨by decide +kernel, rfl⟩
theorem d_so_writeMark_17 : bgd co_so_writeMark 17 (.putfield 53) 3 20 := ⟨by decide +kernel, rfl⟩
theorem d_so_writeMark_20 : bgd co_so_writeMark 20 (.iconst 1) 1 21 := ⟨by decide +kernel, rfl⟩
theorem d_so_writeMark_21 : bgd co_so_writeMark 21 (.ireturn) 1 22 := ⟨by decide +kernel, rfl⟩
theorem d_wy_chooseParents_0 : bgd co_wy_chooseParents 0 (.iconst 0) 1 1 := ⟨by decide +kernel, rfl⟩
theorem d_wy_chooseParents_1 : bgd co_wy_chooseParents 1 (.istore_n 2) 1 2 := ⟨by decide +kernel, rfl⟩
theorem d_wy_chooseParents_2 : bgd co_wy_chooseParents 2 (.iload_n 2) 1 3 := ⟨by decide +kernel, rfl⟩
theorem d_wy_chooseParents_3 : bgd co_wy_chooseParents 3 (.sipush 200) 3 6 := ⟨by decide +kernel, rfl⟩
theorem d_wy_chooseParents_6 : bgd co_wy_chooseParents 6 (.if_icmp .ge 83) 3 9 := ⟨by decide +kernel, rfl⟩
theorem d_wy_chooseParents_9 : bgd co_wy_chooseParents 9 (.aload_n 0) 1 10 := ⟨by decide +kernel, rfl⟩
theorem d_wy_chooseParents_10 : bgd co_wy_chooseParents 10 (.aload_n 1) 1 11 := ⟨by decide +kernel, rfl⟩
theorem d_wy_chooseParents_11 : bgd co_wy_chooseParents 11 (.iload_n 2) 1 12 := ⟨by decide +kernel, rfl⟩
theorem d_wy_chooseParents_12 : bgd co_wy_chooseParents 12 (.invokevirtual 43) 3 15 := ⟨by decide +kernel, rfl⟩
theorem d_wy_chooseParents_15 : bgd co_wy_chooseParents 15 (.ifCond .eq 68) 3 18 := ⟨by decide +kernel, rfl⟩
theorem d_wy_chooseParents_18 : bgd co_wy_chooseParents 18 (.aload_n 1) 1 19 := ⟨by decide +kernel, rfl⟩
theorem d_wy_chooseParents_19 : bgd co_wy_chooseParents 19 (.getfield 52) 3 22 := ⟨by decide +kernel, rfl⟩
theorem d_wy_chooseParents_22 : bgd co_wy_chooseParents 22 (.iload_n 2) 1 23 := ⟨by decide +kernel, rfl⟩
theorem d_wy_chooseParents_23 : bgd co_wy_chooseParents 23 (.iaload) 1 24 := ⟨by decide +kernel, rfl⟩
theorem d_wy_chooseParents_24 : bgd co_wy_chooseParents 24 (.istore_n 3) 1 25 := ⟨by decide +kernel, rfl⟩
theorem d_wy_chooseParents_25 : bgd co_wy_chooseParents 25 (.aload_n 1) 1 26 := ⟨by decide +kernel, rfl⟩
theorem d_wy_chooseParents_26 : bgd co_wy_chooseParents 26 (.getfield 47) 3 29 := ⟨by decide +kernel, rfl⟩
theorem d_wy_chooseParents_29 : bgd co_wy_chooseParents 29 (.iload_n 2) 1 30 := ⟨by decide +kernel, rfl⟩
theorem d_wy_chooseParents_30 : bgd co_wy_chooseParents 30 (.iaload) 1 31 := ⟨by decide +kernel, rfl⟩
theorem d_wy_chooseParents_31 : bgd co_wy_chooseParents 31 (.istore 4) 2 33 := ⟨by decide +kernel, rfl⟩
theorem d_wy_chooseParents_33 : bgd co_wy_chooseParents 33 (.aload_n 0) 1 34 := ⟨by decide +kernel, rfl⟩
theorem d_wy_chooseParents_34 : bgd co_wy_chooseParents 34 (.getfield 15) 3 37 := ⟨by decide +kernel, rfl⟩
theorem d_wy_chooseParents_37 : bgd co_wy_chooseParents 37 (.iload 4) 2 39 := ⟨by decide +kernel, rfl⟩
theorem d_wy_chooseParents_39 : bgd co_wy_chooseParents 39 (.iaload) 1 40 := ⟨by decide +kernel, rfl⟩
theorem d_wy_chooseParents_40 : bgd co_wy_chooseParents 40 (.iconst (-1)) 1 41 := ⟨by decide +kernel, rfl⟩
theorem d_wy_chooseParents_41 : bgd co_wy_chooseParents 41 (.if_icmp .ne 42) 3 44 := ⟨by decide +kernel, rfl⟩
theorem d_wy_chooseParents_44 : bgd co_wy_chooseParents 44 (.aload_n 0) 1 45 := ⟨by decide +kernel, rfl⟩
theorem d_wy_chooseParents_45 : bgd co_wy_chooseParents 45 (.getfield 9) 3 48 := ⟨by decide +kernel, rfl⟩
theorem d_wy_chooseParents_48 : bgd co_wy_chooseParents 48 (.iload_n 3) 1 49 := ⟨by decide +kernel, rfl⟩
theorem d_wy_chooseParents_49 : bgd co_wy_chooseParents 49 (.iaload) 1 50 := ⟨by decide +kernel, rfl⟩
theorem d_wy_chooseParents_50 : bgd co_wy_chooseParents 50 (.aload_n 1) 1 51 := ⟨by decide +kernel, rfl⟩
theorem d_wy_chooseParents_51 : bgd co_wy_chooseParents 51 (.getfield 55) 3 54 := ⟨by decide +kernel, rfl⟩
theorem d_wy_chooseParents_54 : bgd co_wy_chooseParents 54 (.iload_n 2) 1 55 := ⟨by decide +kernel, rfl⟩
theorem d_wy_chooseParents_55 : bgd co_wy_chooseParents 55 (.iaload) 1 56 := ⟨by decide +kernel, rfl⟩
theorem d_wy_chooseParents_56 : bgd co_wy_chooseParents 56 (.iadd) 1 57 := ⟨by decide +kernel, rfl⟩
theorem d_wy_chooseParents_57 : bgd co_wy_chooseParents 57 (.aload_n 0) 1 58 := ⟨by decide +kernel, rfl⟩
theorem d_wy_chooseParents_58 : bgd co_wy_chooseParents 58 (.getfield 9) 3 61 := ⟨by decide +kernel, rfl⟩
theorem d_wy_chooseParents_61 : bgd co_wy_chooseParents 61 (.iload 4) 2 63 := ⟨by decide +kernel, rfl⟩
theorem d_wy_chooseParents_63 : bgd co_wy_chooseParents 63 (.iaload) 1 64 := ⟨by decide +kernel, rfl⟩
theorem d_wy_chooseParents_64 : bgd co_wy_chooseParents 64 (.if_icmp .ne 19) 3 67 := ⟨by decide +kernel, rfl⟩
theorem d_wy_chooseParents_67 : bgd co_wy_chooseParents 67 (.aload_n 0) 1 68 := ⟨by decide +kernel, rfl⟩
theorem d_wy_chooseParents_68 : bgd co_wy_chooseParents 68 (.getfield 15) 3 71 := ⟨by decide +kernel, rfl⟩
theorem d_wy_chooseParents_71 : bgd co_wy_chooseParents 71 (.iload 4) 2 73 := ⟨by decide +kernel, rfl⟩
theorem d_wy_chooseParents_73 : bgd co_wy_chooseParents 73 (.iload_n 2) 1 74 := ⟨by decide +kernel, rfl⟩
theorem d_wy_chooseParents_74 : bgd co_wy_chooseParents 74 (.iastore) 1 75 := ⟨by decide +kernel, rfl⟩
theorem d_wy_chooseParents_75 : bgd co_wy_chooseParents 75 (.aload_n 0) 1 76 := ⟨by decide +kernel, rfl⟩
theorem d_wy_chooseParents_76 : bgd co_wy_chooseParents 76 (.getfield 18) 3 79 := ⟨by decide +kernel, rfl⟩
theorem d_wy_chooseParents_79 : bgd co_wy_chooseParents 79 (.iload 4) 2 81 := ⟨by decide +kernel, rfl⟩
theorem d_wy_chooseParents_81 : bgd co_wy_chooseParents 81 (.iload_n 3) 1 82 := ⟨by decide +kernel, rfl⟩
theorem d_wy_chooseParents_82 : bgd co_wy_chooseParents 82 (.iastore) 1 83 := ⟨by decide +kernel, rfl⟩
theorem d_wy_chooseParents_83 : bgd co_wy_chooseParents 83 (.iinc 2 1) 3 86 := ⟨by decide +kernel, rfl⟩
theorem d_wy_chooseParents_86 : bgd co_wy_chooseParents 86 (.goto (-84)) 3 89 := ⟨by decide +kernel, rfl⟩
theorem d_wy_chooseParents_89 : bgd co_wy_chooseParents 89 (.return_) 1 90 := ⟨by decide +kernel, rfl⟩
theorem d_wy_countReached_0 : bgd co_wy_countReached 0 (.iconst 0) 1 1 := ⟨by decide +kernel, rfl⟩
theorem d_wy_countReached_1 : bgd co_wy_countReached 1 (.istore_n 1) 1 2 := ⟨by decide +kernel, rfl⟩
theorem d_wy_countReached_2 : bgd co_wy_countReached 2 (.iconst 0) 1 3 := ⟨by decide +kernel, rfl⟩
theorem d_wy_countReached_3 : bgd co_wy_countReached 3 (.istore_n 2) 1 4 := ⟨by decide +kernel, rfl⟩
theorem d_wy_countReached_4 : bgd co_wy_countReached 4 (.iload_n 2) 1 5 := ⟨by decide +kernel, rfl⟩
theorem d_wy_countReached_5 : bgd co_wy_countReached 5 (.bipush 64) 2 7 := ⟨by decide +kernel, rfl⟩
theorem d_wy_countReached_7 : bgd co_wy_countReached 7 (.if_icmp .ge 22) 3 10 := ⟨by decide +kernel, rfl⟩
theorem d_wy_countReached_10 : bgd co_wy_countReached 10 (.aload_n 0) 1 11 := ⟨by decide +kernel, rfl⟩
theorem d_wy_countReached_11 : bgd co_wy_countReached 11 (.getfield 9) 3 14 := ⟨by decide +kernel, rfl⟩
theorem d_wy_countReached_14 : bgd co_wy_countReached 14 (.iload_n 2) 1 15 := ⟨by decide +kernel, rfl⟩
theorem d_wy_countReached_15 : bgd co_wy_countReached 15 (.iaload) 1 16 := ⟨by decide +kernel, rfl⟩
theorem d_wy_countReached_16 : bgd co_wy_countReached 16 (.iconst (-1)) 1 17 := ⟨by decide +kernel, rfl⟩
theorem d_wy_countReached_17 : bgd co_wy_countReached 17 (.if_icmp .eq 6) 3 20 := ⟨by decide +kernel, rfl⟩
theorem d_wy_countReached_20 : bgd co_wy_countReached 20 (.iinc 1 1) 3 23 := ⟨by decide +kernel, rfl⟩
theorem d_wy_countReached_23 : bgd co_wy_countReached 23 (.iinc 2 1) 3 26 := ⟨by decide +kernel, rfl⟩
theorem d_wy_countReached_26 : bgd co_wy_countReached 26 (.goto (-22)) 3 29 := ⟨by decide +kernel, rfl⟩
theorem d_wy_countReached_29 : bgd co_wy_countReached 29 (.iload_n 1) 1 30 := ⟨by decide +kernel, rfl⟩
theorem d_wy_countReached_30 : bgd co_wy_countReached 30 (.ireturn) 1 31 := ⟨by decide +kernel, rfl⟩
theorem d_wy_forget_0 : bgd co_wy_forget 0 (.aload_n 0) 1 1 := ⟨by decide +kernel, rfl⟩
theorem d_wy_forget_1 : bgd co_wy_forget 1 (.iconst 0) 1 2 := ⟨by decide +kernel, rfl⟩
theorem d_wy_forget_2 : bgd co_wy_forget 2 (.putfield 21) 3 5 := ⟨by decide +kernel, rfl⟩
theorem d_wy_forget_5 : bgd co_wy_forget 5 (.return_) 1 6 := ⟨by decide +kernel, rfl⟩
theorem d_wy_goBack_0 : bgd co_wy_goBack 0 (.iload_n 1) 1 1 := ⟨by decide +kernel, rfl⟩
theorem d_wy_goBack_1 : bgd co_wy_goBack 1 (.istore_n 3) 1 2 := ⟨by decide +kernel, rfl⟩
theorem d_wy_goBack_2 : bgd co_wy_goBack 2 (.iconst 0) 1 3 := ⟨by decide +kernel, rfl⟩
theorem d_wy_goBack_3 : bgd co_wy_goBack 3 (.istore 4) 2 5 := ⟨by decide +kernel, rfl⟩
theorem d_wy_goBack_5 : bgd co_wy_goBack 5 (.iload 4) 2 7 := ⟨by decide +kernel, rfl⟩
theorem d_wy_goBack_7 : bgd co_wy_goBack 7 (.iload_n 2) 1 8 := ⟨by decide +kernel, rfl⟩
theorem d_wy_goBack_8 : bgd co_wy_goBack 8 (.if_icmp .ge 16) 3 11 := ⟨by decide +kernel, rfl⟩
theorem d_wy_goBack_11 : bgd co_wy_goBack 11 (.aload_n 0) 1 12 := ⟨by decide +kernel, rfl⟩
theorem d_wy_goBack_12 : bgd co_wy_goBack 12 (.getfield 18) 3 15 := ⟨by decide +kernel, rfl⟩
theorem d_wy_goBack_15 : bgd co_wy_goBack 15 (.iload_n 3) 1 16 := ⟨by decide +kernel, rfl⟩
theorem d_wy_goBack_16 : bgd co_wy_goBack 16 (.iaload) 1 17 := ⟨by decide +kernel, rfl⟩
theorem d_wy_goBack_17 : bgd co_wy_goBack 17 (.istore_n 3) 1 18 := ⟨by decide +kernel, rfl⟩
theorem d_wy_goBack_18 : bgd co_wy_goBack 18 (.iinc 4 1) 3 21 := ⟨by decide +kernel, rfl⟩
theorem d_wy_goBack_21 : bgd co_wy_goBack 21 (.goto (-16)) 3 24 := ⟨by decide +kernel, rfl⟩
theorem d_wy_goBack_24 : bgd co_wy_goBack 24 (.iload_n 3) 1 25 := ⟨by decide +kernel, rfl⟩
theorem d_wy_goBack_25 : bgd co_wy_goBack 25 (.ireturn) 1 26 := ⟨by decide +kernel, rfl⟩
theorem d_wy_leadsOn_0 : bgd co_wy_leadsOn 0 (.aload_n 1) 1 1 := ⟨by decide +kernel, rfl⟩
theorem d_wy_leadsOn_1 : bgd co_wy_leadsOn 1 (.iload_n 2) 1 2 := ⟨by decide +kernel, rfl⟩
theorem d_wy_leadsOn_2 : bgd co_wy_leadsOn 2 (.invokevirtual 58) 3 5 := ⟨by decide +kernel, rfl⟩
theorem d_wy_leadsOn_5 : bgd co_wy_leadsOn 5 (.ifCond .eq 22) 3 8 := ⟨by decide +kernel, rfl⟩
theorem d_wy_leadsOn_8 : bgd co_wy_leadsOn 8 (.aload_n 0) 1 9 := ⟨by decide +kernel, rfl⟩
theorem d_wy_leadsOn_9 : bgd co_wy_leadsOn 9 (.getfield 9) 3 12 := ⟨by decide +kernel, rfl⟩
theorem d_wy_leadsOn_12 : bgd co_wy_leadsOn 12 (.aload_n 1) 1 13 := ⟨by decide +kernel, rfl⟩
theorem d_wy_leadsOn_13 : bgd co_wy_leadsOn 13 (.getfield 52) 3 16 := ⟨by decide +kernel, rfl⟩
theorem d_wy_leadsOn_16 : bgd co_wy_leadsOn 16 (.iload_n 2) 1 17 := ⟨by decide +kernel, rfl⟩
theorem d_wy_leadsOn_17 : bgd co_wy_leadsOn 17 (.iaload) 1 18 := ⟨by decide +kernel, rfl⟩
theorem d_wy_leadsOn_18 : bgd co_wy_leadsOn 18 (.iaload) 1 19 := ⟨by decide +kernel, rfl⟩
theorem d_wy_leadsOn_19 : bgd co_wy_leadsOn 19 (.iconst (-1)) 1 20 := ⟨by decide +kernel, rfl⟩
theorem d_wy_leadsOn_20 : bgd co_wy_leadsOn 20 (.if_icmp .eq 7) 3 23 := ⟨by decide +kernel, rfl⟩
theorem d_wy_leadsOn_23 : bgd co_wy_leadsOn 23 (.iconst 1) 1 24 := ⟨by decide +kernel, rfl⟩
theorem d_wy_leadsOn_24 : bgd co_wy_leadsOn 24 (.goto 4) 3 27 := ⟨by decide +kernel, rfl⟩
theorem d_wy_leadsOn_27 : bgd co_wy_leadsOn 27 (.iconst 0) 1 28 := ⟨by decide +kernel, rfl⟩
theorem d_wy_leadsOn_28 : bgd co_wy_leadsOn 28 (.ireturn) 1 29 := ⟨by decide +kernel, rfl⟩
theorem d_wy_length_0 : bgd co_wy_length 0 (.aload_n 0) 1 1 := ⟨by decide +kernel, rfl⟩
theorem d_wy_length_1 : bgd co_wy_length 1 (.getfield 9) 3 4 := ⟨by decide +kernel, rfl⟩
theorem d_wy_length_4 : bgd co_wy_length 4 (.iload_n 1) 1 5 := ⟨by decide +kernel, rfl⟩
theorem d_wy_length_5 : bgd co_wy_length 5 (.iaload) 1 6 := ⟨by decide +kernel, rfl⟩
theorem d_wy_length_6 : bgd co_wy_length 6 (.iconst (-1)) 1 7 := ⟨by decide +kernel, rfl⟩
theorem d_wy_length_7 : bgd co_wy_length 7 (.if_icmp .ne 5) 3 10 := ⟨by decide +kernel, rfl⟩
theorem d_wy_length_10 : bgd co_wy_length 10 (.iconst 0) 1 11 := ⟨by decide +kernel, rfl⟩
theorem d_wy_length_11 : bgd co_wy_length 11 (.ireturn) 1 12 := ⟨by decide +kernel, rfl⟩
theorem d_wy_length_12 : bgd co_wy_length 12 (.iconst 1) 1 13 := ⟨by decide +kernel, rfl⟩
theorem d_wy_length_13 : bgd co_wy_length 13 (.istore_n 2) 1 14 := ⟨by decide +kernel, rfl⟩
theorem d_wy_length_14 : bgd co_wy_length 14 (.iload_n 1) 1 15 := ⟨by decide +kernel, rfl⟩
theorem d_wy_length_15 : bgd co_wy_length 15 (.istore_n 3) 1 16 := ⟨by decide +kernel, rfl⟩
theorem d_wy_length_16 : bgd co_wy_length 16 (.aload_n 0) 1 17 := ⟨by decide +kernel, rfl⟩
theorem d_wy_length_17 : bgd co_wy_length 17 (.getfield 15) 3 20 := ⟨by decide +kernel, rfl⟩
theorem d_wy_length_20 : bgd co_wy_length 20 (.iload_n 3) 1 21 := ⟨by decide +kernel, rfl⟩
theorem d_wy_length_21 : bgd co_wy_length 21 (.iaload) 1 22 := ⟨by decide +kernel, rfl⟩
theorem d_wy_length_22 : bgd co_wy_length 22 (.iconst (-1)) 1 23 := ⟨by decide +kernel, rfl⟩
theorem d_wy_length_23 : bgd co_wy_length 23 (.if_icmp .eq 22) 3 26 := ⟨by decide +kernel, rfl⟩
theorem d_wy_length_26 : bgd co_wy_length 26 (.iload_n 2) 1 27 := ⟨by decide +kernel, rfl⟩
theorem d_wy_length_27 : bgd co_wy_length 27 (.bipush 64) 2 29 := ⟨by decide +kernel, rfl⟩
theorem d_wy_length_29 : bgd co_wy_length 29 (.if_icmp .ge 16) 3 32 := ⟨by decide +kernel, rfl⟩
theorem d_wy_length_32 : bgd co_wy_length 32 (.iinc 2 1) 3 35 := ⟨by decide +kernel, rfl⟩
theorem d_wy_length_35 : bgd co_wy_length 35 (.aload_n 0) 1 36 := ⟨by decide +kernel, rfl⟩
theorem d_wy_length_36 : bgd co_wy_length 36 (.getfield 18) 3 39 := ⟨by decide +kernel, rfl⟩
theorem d_wy_length_39 : bgd co_wy_length 39 (.iload_n 3) 1 40 := ⟨by decide +kernel, rfl⟩
theorem d_wy_length_40 : bgd co_wy_length 40 (.iaload) 1 41 := ⟨by decide +kernel, rfl⟩
theorem d_wy_length_41 : bgd co_wy_length 41 (.istore_n 3) 1 42 := ⟨by decide +kernel, rfl⟩
theorem d_wy_length_42 : bgd co_wy_length 42 (.goto (-26)) 3 45 := ⟨by decide +kernel, rfl⟩
theorem d_wy_length_45 : bgd co_wy_length 45 (.iload_n 2) 1 46 := ⟨by decide +kernel, rfl⟩
theorem d_wy_length_46 : bgd co_wy_length 46 (.ireturn) 1 47 := ⟨by decide +kernel, rfl⟩
theorem d_wy_measure_0 : bgd co_wy_measure 0 (.aload_n 0) 1 1 := ⟨by decide +kernel, rfl⟩
theorem d_wy_measure_1 : bgd co_wy_measure 1 (.getfield 9) 3 4 := ⟨by decide +kernel, rfl⟩
theorem d_wy_measure_4 : bgd co_wy_measure 4 (.iconst (-1)) 1 5 := ⟨by decide +kernel, rfl⟩
theorem d_wy_measure_5 : bgd co_wy_measure 5 (.invokestatic 25) 3 8 := ⟨by decide +kernel, rfl⟩
theorem d_wy_measure_8 : bgd co_wy_measure 8 (.aload_n 0) 1 9 := ⟨by decide +kernel, rfl⟩
theorem d_wy_measure_9 : bgd co_wy_measure 9 (.getfield 15) 3 12 := ⟨by decide +kernel, rfl⟩
theorem d_wy_measure_12 : bgd co_wy_measure 12 (.iconst (-1)) 1 13 := ⟨by decide +kernel, rfl⟩
theorem d_wy_measure_13 : bgd co_wy_measure 13 (.invokestatic 25) 3 16 := ⟨by decide +kernel, rfl⟩
theorem d_wy_measure_16 : bgd co_wy_measure 16 (.aload_n 0) 1 17 := ⟨by decide +kernel, rfl⟩
theorem d_wy_measure_17 : bgd co_wy_measure 17 (.getfield 9) 3 20 := ⟨by decide +kernel, rfl⟩
theorem d_wy_measure_20 : bgd co_wy_measure 20 (.iload_n 2) 1 21 := ⟨by decide +kernel, rfl⟩
theorem d_wy_measure_21 : bgd co_wy_measure 21 (.iconst 0) 1 22 := ⟨by decide +kernel, rfl⟩
theorem d_wy_measure_22 : bgd co_wy_measure 22 (.iastore) 1 23 := ⟨by decide +kernel, rfl⟩
theorem d_wy_measure_23 : bgd co_wy_measure 23 (.iconst 1) 1 24 := ⟨by decide +kernel, rfl⟩
theorem d_wy_measure_24 : bgd co_wy_measure 24 (.istore_n 3) 1 25 := ⟨by decide +kernel, rfl⟩
theorem d_wy_measure_25 : bgd co_wy_measure 25 (.iconst 0) 1 26 := ⟨by decide +kernel, rfl⟩
theorem d_wy_measure_26 : bgd co_wy_measure 26 (.istore 4) 2 28 := ⟨by decide +kernel, rfl⟩
theorem d_wy_measure_28 : bgd co_wy_measure 28 (.iload_n 3) 1 29 := ⟨by decide +kernel, rfl⟩
theorem d_wy_measure_29 : bgd co_wy_measure 29 (.ifCond .eq 22) 3 32 := ⟨by decide +kernel, rfl⟩
theorem d_wy_measure_32 : bgd co_wy_measure 32 (.iload 4) 2 34 := ⟨by decide +kernel, rfl⟩
theorem d_wy_measure_34 : bgd co_wy_measure 34 (.bipush 64) 2 36 := ⟨by decide +kernel, rfl⟩
theorem d_wy_measure_36 : bgd co_wy_measure 36 (.if_icmp .ge 15) 3 39 := ⟨by decide +kernel, rfl⟩
theorem d_wy_measure_39 : bgd co_wy_measure 39 (.aload_n 0) 1 40 := ⟨by decide +kernel, rfl⟩
theorem d_wy_measure_40 : bgd co_wy_measure 40 (.aload_n 1) 1 41 := ⟨by decide +kernel, rfl⟩
theorem d_wy_measure_41 : bgd co_wy_measure 41 (.invokevirtual 31) 3 44 := ⟨by decide +kernel, rfl⟩
theorem d_wy_measure_44 : bgd co_wy_measure 44 (.istore_n 3) 1 45 := ⟨by decide +kernel, rfl⟩
theorem d_wy_measure_45 : bgd co_wy_measure 45 (.iinc 4 1) 3 48 := ⟨by decide +kernel, rfl⟩
theorem d_wy_measure_48 : bgd co_wy_measure 48 (.goto (-20)) 3 51 := ⟨by decide +kernel, rfl⟩
theorem d_wy_measure_51 : bgd co_wy_measure 51 (.aload_n 0) 1 52 := ⟨by decide +kernel, rfl⟩
theorem d_wy_measure_52 : bgd co_wy_measure 52 (.aload_n 1) 1 53 := ⟨by decide +kernel, rfl⟩
theorem d_wy_measure_53 : bgd co_wy_measure 53 (.invokevirtual 35) 3 56 := ⟨by decide +kernel, rfl⟩
theorem d_wy_measure_56 : bgd co_wy_measure 56 (.aload_n 0) 1 57 := ⟨by decide +kernel, rfl⟩
theorem d_wy_measure_57 : bgd co_wy_measure 57 (.iconst 1) 1 58 := ⟨by decide +kernel, rfl⟩
theorem d_wy_measure_58 : bgd co_wy_measure 58 (.putfield 21) 3 61 := ⟨by decide +kernel, rfl⟩
theorem d_wy_measure_61 : bgd co_wy_measure 61 (.aload_n 0) 1 62 := ⟨by decide +kernel, rfl⟩
theorem d_wy_measure_62 : bgd co_wy_measure 62 (.invokevirtual 39) 3 65 := ⟨by decide +kernel, rfl⟩
theorem d_wy_measure_65 : bgd co_wy_measure 65 (.ireturn) 1 66 := ⟨by decide +kernel, rfl⟩
theorem d_wy_shorten_0 : bgd co_wy_shorten 0 (.iconst 0) 1 1 := ⟨by decide +kernel, rfl⟩
theorem d_wy_shorten_1 : bgd co_wy_shorten 1 (.istore_n 2) 1 2 := ⟨by decide +kernel, rfl⟩
theorem d_wy_shorten_2 : bgd co_wy_shorten 2 (.iconst 0) 1 3 := ⟨by decide +kernel, rfl⟩
theorem d_wy_shorten_3 : bgd co_wy_shorten 3 (.istore_n 3) 1 4 := ⟨by decide +kernel, rfl⟩
theorem d_wy_shorten_4 : bgd co_wy_shorten 4 (.iload_n 3) 1 5 := ⟨by decide +kernel, rfl⟩
theorem d_wy_shorten_5 : bgd co_wy_shorten 5 (.sipush 200) 3 8 := ⟨by decide +kernel, rfl⟩
theorem d_wy_shorten_8 : bgd co_wy_shorten 8 (.if_icmp .ge 80) 3 11 := ⟨by decide +kernel, rfl⟩
theorem d_wy_shorten_11 : bgd co_wy_shorten 11 (.aload_n 0) 1 12 := ⟨by decide +kernel, rfl⟩
theorem d_wy_shorten_12 : bgd co_wy_shorten 12 (.aload_n 1) 1 13 := ⟨by decide +kernel, rfl⟩
theorem d_wy_shorten_13 : bgd co_wy_shorten 13 (.iload_n 3) 1 14 := ⟨by decide +kernel, rfl⟩
theorem d_wy_shorten_14 : bgd co_wy_shorten 14 (.invokevirtual 43) 3 17 := ⟨by decide +kernel, rfl⟩
theorem d_wy_shorten_17 : bgd co_wy_shorten 17 (.ifCond .eq 65) 3 20 := ⟨by decide +kernel, rfl⟩
theorem d_wy_shorten_20 : bgd co_wy_shorten 20 (.aload_n 1) 1 21 := ⟨by decide +kernel, rfl⟩
theorem d_wy_shorten_21 : bgd co_wy_shorten 21 (.getfield 47) 3 24 := ⟨by decide +kernel, rfl⟩
theorem d_wy_shorten_24 : bgd co_wy_shorten 24 (.iload_n 3) 1 25 := ⟨by decide +kernel, rfl⟩
theorem d_wy_shorten_25 : bgd co_wy_shorten 25 (.iaload) 1 26 := ⟨by decide +kernel, rfl⟩
theorem d_wy_shorten_26 : bgd co_wy_shorten 26 (.istore 4) 2 28 := ⟨by decide +kernel, rfl⟩
theorem d_wy_shorten_28 : bgd co_wy_shorten 28 (.aload_n 0) 1 29 := ⟨by decide +kernel, rfl⟩
theorem d_wy_shorten_29 : bgd co_wy_shorten 29 (.getfield 9) 3 32 := ⟨by decide +kernel, rfl⟩
theorem d_wy_shorten_32 : bgd co_wy_shorten 32 (.aload_n 1) 1 33 := ⟨by decide +kernel, rfl⟩
theorem d_wy_shorten_33 : bgd co_wy_shorten 33 (.getfield 52) 3 36 := ⟨by decide +kernel, rfl⟩
theorem d_wy_shorten_36 : bgd co_wy_shorten 36 (.iload_n 3) 1 37 := ⟨by decide +kernel, rfl⟩
theorem d_wy_shorten_37 : bgd co_wy_shorten 37 (.iaload) 1 38 := ⟨by decide +kernel, rfl⟩
theorem d_wy_shorten_38 : bgd co_wy_shorten 38 (.iaload) 1 39 := ⟨by decide +kernel, rfl⟩
theorem d_wy_shorten_39 : bgd co_wy_shorten 39 (.aload_n 1) 1 40 := ⟨by decide +kernel, rfl⟩
theorem d_wy_shorten_40 : bgd co_wy_shorten 40 (.getfield 55) 3 43 := ⟨by decide +kernel, rfl⟩
theorem d_wy_shorten_43 : bgd co_wy_shorten 43 (.iload_n 3) 1 44 := ⟨by decide +kernel, rfl⟩
theorem d_wy_shorten_44 : bgd co_wy_shorten 44 (.iaload) 1 45 := ⟨by decide +kernel, rfl⟩
theorem d_wy_shorten_45 : bgd co_wy_shorten 45 (.iadd) 1 46 := ⟨by decide +kernel, rfl⟩
theorem d_wy_shorten_46 : bgd co_wy_shorten 46 (.istore 5) 2 48 := ⟨by decide +kernel, rfl⟩
theorem d_wy_shorten_48 : bgd co_wy_shorten 48 (.aload_n 0) 1 49 := ⟨by decide +kernel, rfl⟩
theorem d_wy_shorten_49 : bgd co_wy_shorten 49 (.getfield 9) 3 52 := ⟨by decide +kernel, rfl⟩
theorem d_wy_shorten_52 : bgd co_wy_shorten 52 (.iload 4) 2 54 := ⟨by decide +kernel, rfl⟩
theorem d_wy_shorten_54 : bgd co_wy_shorten 54 (.iaload) 1 55 := ⟨by decide +kernel, rfl⟩
theorem d_wy_shorten_55 : bgd co_wy_shorten 55 (.iconst (-1)) 1 56 := ⟨by decide +kernel, rfl⟩
theorem d_wy_shorten_56 : bgd co_wy_shorten 56 (.if_icmp .eq 15) 3 59 := ⟨by decide +kernel, rfl⟩
theorem d_wy_shorten_59 : bgd co_wy_shorten 59 (.iload 5) 2 61 := ⟨by decide +kernel, rfl⟩
theorem d_wy_shorten_61 : bgd co_wy_shorten 61 (.aload_n 0) 1 62 := ⟨by decide +kernel, rfl⟩
theorem d_wy_shorten_62 : bgd co_wy_shorten 62 (.getfield 9) 3 65 := ⟨by decide +kernel, rfl⟩
theorem d_wy_shorten_65 : bgd co_wy_shorten 65 (.iload 4) 2 67 := ⟨by decide +kernel, rfl⟩
theorem d_wy_shorten_67 : bgd co_wy_shorten 67 (.iaload) 1 68 := ⟨by decide +kernel, rfl⟩
theorem d_wy_shorten_68 : bgd co_wy_shorten 68 (.if_icmp .ge 14) 3 71 := ⟨by decide +kernel, rfl⟩
theorem d_wy_shorten_71 : bgd co_wy_shorten 71 (.aload_n 0) 1 72 := ⟨by decide +kernel, rfl⟩
theorem d_wy_shorten_72 : bgd co_wy_shorten 72 (.getfield 9) 3 75 := ⟨by decide +kernel, rfl⟩
theorem d_wy_shorten_75 : bgd co_wy_shorten 75 (.iload 4) 2 77 := ⟨by decide +kernel, rfl⟩
theorem d_wy_shorten_77 : bgd co_wy_shorten 77 (.iload 5) 2 79 := ⟨by decide +kernel, rfl⟩
theorem d_wy_shorten_79 : bgd co_wy_shorten 79 (.iastore) 1 80 := ⟨by decide +kernel, rfl⟩
theorem d_wy_shorten_80 : bgd co_wy_shorten 80 (.iconst 1) 1 81 := ⟨by decide +kernel, rfl⟩
theorem d_wy_shorten_81 : bgd co_wy_shorten 81 (.istore_n 2) 1 82 := ⟨by decide +kernel, rfl⟩
theorem d_wy_shorten_82 : bgd co_wy_shorten 82 (.iinc 3 1) 3 85 := ⟨by decide +kernel, rfl⟩
theorem d_wy_shorten_85 : bgd co_wy_shorten 85 (.goto (-81)) 3 88 := ⟨by decide +kernel, rfl⟩
theorem d_wy_shorten_88 : bgd co_wy_shorten 88 (.iload_n 2) 1 89 := ⟨by decide +kernel, rfl⟩
theorem d_wy_shorten_89 : bgd co_wy_shorten 89 (.ireturn) 1 90 := ⟨by decide +kernel, rfl⟩
end
section
theorem tc_bg_abort : Cond.code y_bg_abort co_bg_abort 2 (some .int) ∈ bgTs := bg_tw 536 (by decide +kernel) (by decide +kernel)
theorem ti_bg_abort : Cond.instanceMethod y_bg_abort ∈ bgTs := bg_tw 534 (by decide +kernel) (by decide +kernel)
theorem ts_bg_abort : Cond.selects "BlockGraph" y_bg_abort y_bg_abort ∈ bgTs := bg_tw 535 (by decide +kernel) (by decide +kernel)
theorem tc_bg_add : Cond.code y_bg_add co_bg_add 5 (some .int) ∈ bgTs := bg_tw 418 (by decide +kernel) (by decide +kernel)
theorem ti_bg_add : Cond.instanceMethod y_bg_add ∈ bgTs := bg_tw 416 (by decide +kernel) (by decide +kernel)
theorem ts_bg_add : Cond.selects "BlockGraph" y_bg_add y_bg_add ∈ bgTs := bg_tw 417 (by decide +kernel) (by decide +kernel)
theorem tc_bg_arm : Cond.code y_bg_arm co_bg_arm 2 none ∈ bgTs := bg_tw 544 (by decide +kernel) (by decide +kernel)
theorem ti_bg_arm : Cond.instanceMethod y_bg_arm ∈ bgTs := bg_tw 542 (by decide +kernel) (by decide +kernel)
theorem ts_bg_arm : Cond.selects "BlockGraph" y_bg_arm y_bg_arm ∈ bgTs := bg_tw 543 (by decide +kernel) (by decide +kernel)
theorem tc_bg_atHand : Cond.code y_bg_atHand co_bg_atHand 2 (some .int) ∈ bgTs := bg_tw 657 (by decide +kernel) (by decide +kernel)
theorem ti_bg_atHand : Cond.instanceMethod y_bg_atHand ∈ bgTs := bg_tw 655 (by decide +kernel) (by decide +kernel)
theorem ts_bg_atHand : Cond.selects "BlockGraph" y_bg_atHand y_bg_atHand ∈ bgTs := bg_tw 656 (by decide +kernel) (by decide +kernel)
theorem tc_bg_begin : Cond.code y_bg_begin co_bg_begin 1 none ∈ bgTs := bg_tw 334 (by decide +kernel) (by decide +kernel)
theorem ti_bg_begin : Cond.instanceMethod y_bg_begin ∈ bgTs := bg_tw 332 (by decide +kernel) (by decide +kernel)
theorem ts_bg_begin : Cond.selects "BlockGraph" y_bg_begin y_bg_begin ∈ bgTs := bg_tw 333 (by decide +kernel) (by decide +kernel)
theorem tc_bg_closeTransaction : Cond.code y_bg_closeTransaction co_bg_closeTransaction 1 none ∈ bgTs := bg_tw 243 (by decide +kernel) (by decide +kernel)
theorem ti_bg_closeTransaction : Cond.instanceMethod y_bg_closeTransaction ∈ bgTs := bg_tw 242 (by decide +kernel) (by decide +kernel)
theorem ts_bg_closeTransaction : Cond.selects "BlockGraph" y_bg_closeTransaction y_bg_closeTransaction ∈ bgTs := bg_tw 1 (by decide +kernel) (by decide +kernel)
theorem tc_bg_commit : Cond.code y_bg_commit co_bg_commit 2 (some .boolean) ∈ bgTs := bg_tw 517 (by decide +kernel) (by decide +kernel)
theorem ti_bg_commit : Cond.instanceMethod y_bg_commit ∈ bgTs := bg_tw 515 (by decide +kernel) (by decide +kernel)
theorem ts_bg_commit : Cond.selects "BlockGraph" y_bg_commit y_bg_commit ∈ bgTs := bg_tw 516 (by decide +kernel) (by decide +kernel)
theorem tc_bg_count : Cond.code y_bg_count co_bg_count 2 (some .int) ∈ bgTs := bg_tw 665 (by decide +kernel) (by decide +kernel)
theorem ti_bg_count : Cond.instanceMethod y_bg_count ∈ bgTs := bg_tw 663 (by decide +kernel) (by decide +kernel)
theorem ts_bg_count : Cond.selects "BlockGraph" y_bg_count y_bg_count ∈ bgTs := bg_tw 664 (by decide +kernel) (by decide +kernel)
theorem tc_bg_distance : Cond.code y_bg_distance co_bg_distance 2 (some .int) ∈ bgTs := bg_tw 606 (by decide +kernel) (by decide +kernel)
theorem ti_bg_distance : Cond.instanceMethod y_bg_distance ∈ bgTs := bg_tw 604 (by decide +kernel) (by decide +kernel)
theorem ts_bg_distance : Cond.selects "BlockGraph" y_bg_distance y_bg_distance ∈ bgTs := bg_tw 605 (by decide +kernel) (by decide +kernel)
theorem tc_bg_format : Cond.code y_bg_format co_bg_format 1 (some .boolean) ∈ bgTs := bg_tw 235 (by decide +kernel) (by decide +kernel)
theorem ti_bg_format : Cond.instanceMethod y_bg_format ∈ bgTs := bg_tw 233 (by decide +kernel) (by decide +kernel)
theorem ts_bg_format : Cond.selects "BlockGraph" y_bg_format y_bg_format ∈ bgTs := bg_tw 234 (by decide +kernel) (by decide +kernel)
theorem tc_bg_mustBeOpen : Cond.code y_bg_mustBeOpen co_bg_mustBeOpen 1 none ∈ bgTs := bg_tw 422 (by decide +kernel) (by decide +kernel)
theorem ti_bg_mustBeOpen : Cond.instanceMethod y_bg_mustBeOpen ∈ bgTs := bg_tw 421 (by decide +kernel) (by decide +kernel)
theorem ts_bg_mustBeOpen : Cond.selects "BlockGraph" y_bg_mustBeOpen y_bg_mustBeOpen ∈ bgTs := bg_tw 10 (by decide +kernel) (by decide +kernel)
theorem tc_bg_mustBeUp : Cond.code y_bg_mustBeUp co_bg_mustBeUp 1 none ∈ bgTs := bg_tw 338 (by decide +kernel) (by decide +kernel)
theorem ti_bg_mustBeUp : Cond.instanceMethod y_bg_mustBeUp ∈ bgTs := bg_tw 337 (by decide +kernel) (by decide +kernel)
theorem ts_bg_mustBeUp : Cond.selects "BlockGraph" y_bg_mustBeUp y_bg_mustBeUp ∈ bgTs := bg_tw 8 (by decide +kernel) (by decide +kernel)
theorem tc_bg_mustBeVertex : Cond.code y_bg_mustBeVertex co_bg_mustBeVertex 2 none ∈ bgTs := bg_tw 427 (by decide +kernel) (by decide +kernel)
theorem ti_bg_mustBeVertex : Cond.instanceMethod y_bg_mustBeVertex ∈ bgTs := bg_tw 426 (by decide +kernel) (by decide +kernel)
theorem ts_bg_mustBeVertex : Cond.selects "BlockGraph" y_bg_mustBeVertex y_bg_mustBeVertex ∈ bgTs := bg_tw 11 (by decide +kernel) (by decide +kernel)
theorem tc_bg_mustHaveRoomForOperation : Cond.code y_bg_mustHaveRoomForOperation co_bg_mustHaveRoomForOperation 1 none ∈ bgTs := bg_tw 464 (by decide +kernel) (by decide +kernel)
theorem ti_bg_mustHaveRoomForOperation : Cond.instanceMethod y_bg_mustHaveRoomForOperation ∈ bgTs := bg_tw 463 (by decide +kernel) (by decide +kernel)
theorem ts_bg_mustHaveRoomForOperation : Cond.selects "BlockGraph" y_bg_mustHaveRoomForOperation y_bg_mustHaveRoomForOperation ∈ bgTs := bg_tw 12 (by decide +kernel) (by decide +kernel)
theorem tc_bg_mustHaveWayTo : Cond.code y_bg_mustHaveWayTo co_bg_mustHaveWayTo 2 none ∈ bgTs := bg_tw 610 (by decide +kernel) (by decide +kernel)
theorem ti_bg_mustHaveWayTo : Cond.instanceMethod y_bg_mustHaveWayTo ∈ bgTs := bg_tw 609 (by decide +kernel) (by decide +kernel)
theorem ts_bg_mustHaveWayTo : Cond.selects "BlockGraph" y_bg_mustHaveWayTo y_bg_mustHaveWayTo ∈ bgTs := bg_tw 20 (by decide +kernel) (by decide +kernel)
theorem tc_bg_operate : Cond.code y_bg_operate co_bg_operate 5 none ∈ bgTs := bg_tw 473 (by decide +kernel) (by decide +kernel)
theorem ti_bg_operate : Cond.instanceMethod y_bg_operate ∈ bgTs := bg_tw 472 (by decide +kernel) (by decide +kernel)
theorem ts_bg_operate : Cond.selects "BlockGraph" y_bg_operate y_bg_operate ∈ bgTs := bg_tw 13 (by decide +kernel) (by decide +kernel)
theorem tc_bg_parent : Cond.code y_bg_parent co_bg_parent 2 (some .int) ∈ bgTs := bg_tw 618 (by decide +kernel) (by decide +kernel)
theorem ti_bg_parent : Cond.instanceMethod y_bg_parent ∈ bgTs := bg_tw 616 (by decide +kernel) (by decide +kernel)
theorem ts_bg_parent : Cond.selects "BlockGraph" y_bg_parent y_bg_parent ∈ bgTs := bg_tw 617 (by decide +kernel) (by decide +kernel)
theorem tc_bg_recover : Cond.code y_bg_recover co_bg_recover 2 (some .int) ∈ bgTs := bg_tw 304 (by decide +kernel) (by decide +kernel)
theorem ti_bg_recover : Cond.instanceMethod y_bg_recover ∈ bgTs := bg_tw 302 (by decide +kernel) (by decide +kernel)
theorem ts_bg_recover : Cond.selects "BlockGraph" y_bg_recover y_bg_recover ∈ bgTs := bg_tw 303 (by decide +kernel) (by decide +kernel)
theorem tc_bg_room : Cond.code y_bg_room co_bg_room 2 none ∈ bgTs := bg_tw 565 (by decide +kernel) (by decide +kernel)
theorem ti_bg_room : Cond.instanceMethod y_bg_room ∈ bgTs := bg_tw 563 (by decide +kernel) (by decide +kernel)
theorem ts_bg_room : Cond.selects "BlockGraph" y_bg_room y_bg_room ∈ bgTs := bg_tw 564 (by decide +kernel) (by decide +kernel)
theorem tc_bg_run : Cond.code y_bg_run co_bg_run 3 (some .int) ∈ bgTs := bg_tw 577 (by decide +kernel) (by decide +kernel)
theorem ti_bg_run : Cond.instanceMethod y_bg_run ∈ bgTs := bg_tw 575 (by decide +kernel) (by decide +kernel)
theorem ts_bg_run : Cond.selects "BlockGraph" y_bg_run y_bg_run ∈ bgTs := bg_tw 576 (by decide +kernel) (by decide +kernel)
theorem tc_bg_settleState : Cond.code y_bg_settleState co_bg_settleState 2 none ∈ bgTs := bg_tw 300 (by decide +kernel) (by decide +kernel)
theorem ti_bg_settleState : Cond.instanceMethod y_bg_settleState ∈ bgTs := bg_tw 299 (by decide +kernel) (by decide +kernel)
theorem ts_bg_settleState : Cond.selects "BlockGraph" y_bg_settleState y_bg_settleState ∈ bgTs := bg_tw 6 (by decide +kernel) (by decide +kernel)
theorem tc_bg_startAnew : Cond.code y_bg_startAnew co_bg_startAnew 1 none ∈ bgTs := bg_tw 239 (by decide +kernel) (by decide +kernel)
theorem ti_bg_startAnew : Cond.instanceMethod y_bg_startAnew ∈ bgTs := bg_tw 238 (by decide +kernel) (by decide +kernel)
theorem ts_bg_startAnew : Cond.selects "BlockGraph" y_bg_startAnew y_bg_startAnew ∈ bgTs := bg_tw 0 (by decide +kernel) (by decide +kernel)
theorem tc_bg_way : Cond.code y_bg_way co_bg_way 4 (some .int) ∈ bgTs := bg_tw 626 (by decide +kernel) (by decide +kernel)
theorem ti_bg_way : Cond.instanceMethod y_bg_way ∈ bgTs := bg_tw 624 (by decide +kernel) (by decide +kernel)
theorem ts_bg_way : Cond.selects "BlockGraph" y_bg_way y_bg_way ∈ bgTs := bg_tw 625 (by decide +kernel) (by decide +kernel)
theorem tc_et_copyAll : Cond.code y_et_copyAll co_et_copyAll 2 none ∈ bgTs := bg_tw 312 (by decide +kernel) (by decide +kernel)
theorem ti_et_copyAll : Cond.instanceMethod y_et_copyAll ∈ bgTs := bg_tw 310 (by decide +kernel) (by decide +kernel)
theorem ts_et_copyAll : Cond.selects "BlockGraph$EdgeTable" y_et_copyAll y_et_copyAll ∈ bgTs := bg_tw 311 (by decide +kernel) (by decide +kernel)
theorem tc_et_copyBlock : Cond.code y_et_copyBlock co_et_copyBlock 5 none ∈ bgTs := bg_tw 274 (by decide +kernel) (by decide +kernel)
theorem ti_et_copyBlock : Cond.instanceMethod y_et_copyBlock ∈ bgTs := bg_tw 272 (by decide +kernel) (by decide +kernel)
theorem ts_et_copyBlock : Cond.selects "BlockGraph$EdgeTable" y_et_copyBlock y_et_copyBlock ∈ bgTs := bg_tw 273 (by decide +kernel) (by decide +kernel)
theorem tc_et_erase : Cond.code y_et_erase co_et_erase 1 none ∈ bgTs := bg_tw 251 (by decide +kernel) (by decide +kernel)
theorem ti_et_erase : Cond.instanceMethod y_et_erase ∈ bgTs := bg_tw 249 (by decide +kernel) (by decide +kernel)
theorem ts_et_erase : Cond.selects "BlockGraph$EdgeTable" y_et_erase y_et_erase ∈ bgTs := bg_tw 250 (by decide +kernel) (by decide +kernel)
theorem tc_et_has : Cond.code y_et_has co_et_has 2 (some .boolean) ∈ bgTs := bg_tw 494 (by decide +kernel) (by decide +kernel)
theorem ti_et_has : Cond.instanceMethod y_et_has ∈ bgTs := bg_tw 492 (by decide +kernel) (by decide +kernel)
theorem ts_et_has : Cond.selects "BlockGraph$EdgeTable" y_et_has y_et_has ∈ bgTs := bg_tw 493 (by decide +kernel) (by decide +kernel)
theorem tc_et_leastFree : Cond.code y_et_leastFree co_et_leastFree 2 (some .int) ∈ bgTs := bg_tw 469 (by decide +kernel) (by decide +kernel)
theorem ti_et_leastFree : Cond.instanceMethod y_et_leastFree ∈ bgTs := bg_tw 467 (by decide +kernel) (by decide +kernel)
theorem ts_et_leastFree : Cond.selects "BlockGraph$EdgeTable" y_et_leastFree y_et_leastFree ∈ bgTs := bg_tw 468 (by decide +kernel) (by decide +kernel)
theorem tc_et_put : Cond.code y_et_put co_et_put 5 none ∈ bgTs := bg_tw 278 (by decide +kernel) (by decide +kernel)
theorem ti_et_put : Cond.instanceMethod y_et_put ∈ bgTs := bg_tw 276 (by decide +kernel) (by decide +kernel)
theorem ts_et_put : Cond.selects "BlockGraph$EdgeTable" y_et_put y_et_put ∈ bgTs := bg_tw 277 (by decide +kernel) (by decide +kernel)
theorem tc_hd_limit : Cond.code y_hd_limit co_hd_limit 2 none ∈ bgTs := bg_tw 570 (by decide +kernel) (by decide +kernel)
theorem ti_hd_limit : Cond.instanceMethod y_hd_limit ∈ bgTs := bg_tw 568 (by decide +kernel) (by decide +kernel)
theorem ts_hd_limit : Cond.selects "BlockGraph$Hand" y_hd_limit y_hd_limit ∈ bgTs := bg_tw 569 (by decide +kernel) (by decide +kernel)
theorem tc_hd_look : Cond.code y_hd_look co_hd_look 2 none ∈ bgTs := bg_tw 557 (by decide +kernel) (by decide +kernel)
theorem ti_hd_look : Cond.instanceMethod y_hd_look ∈ bgTs := bg_tw 555 (by decide +kernel) (by decide +kernel)
theorem ts_hd_look : Cond.selects "BlockGraph$Hand" y_hd_look y_hd_look ∈ bgTs := bg_tw 556 (by decide +kernel) (by decide +kernel)
theorem tc_hd_place : Cond.code y_hd_place co_hd_place 3 (some .int) ∈ bgTs := bg_tw 286 (by decide +kernel) (by decide +kernel)
theorem ti_hd_place : Cond.instanceMethod y_hd_place ∈ bgTs := bg_tw 285 (by decide +kernel) (by decide +kernel)
theorem ts_hd_place : Cond.selects "BlockGraph$Hand" y_hd_place y_hd_place ∈ bgTs := bg_tw 4 (by decide +kernel) (by decide +kernel)
theorem tc_hd_putFirst : Cond.code y_hd_putFirst co_hd_putFirst 3 none ∈ bgTs := bg_tw 282 (by decide +kernel) (by decide +kernel)
theorem ti_hd_putFirst : Cond.instanceMethod y_hd_putFirst ∈ bgTs := bg_tw 280 (by decide +kernel) (by decide +kernel)
theorem ts_hd_putFirst : Cond.selects "BlockGraph$Hand" y_hd_putFirst y_hd_putFirst ∈ bgTs := bg_tw 281 (by decide +kernel) (by decide +kernel)
theorem tc_ja_fill : Cond.code y_ja_fill co_ja_fill 4 none ∈ bgTs := bg_tw 254 (by decide +kernel) (by decide +kernel)
theorem tt_ja_fill : Cond.static y_ja_fill ∈ bgTs := bg_tw 253 (by decide +kernel) (by decide +kernel)
theorem tc_op_append : Cond.code y_op_append co_op_append 5 none ∈ bgTs := bg_tw 477 (by decide +kernel) (by decide +kernel)
theorem ti_op_append : Cond.instanceMethod y_op_append ∈ bgTs := bg_tw 475 (by decide +kernel) (by decide +kernel)
theorem ts_op_append : Cond.selects "BlockGraph$Operations" y_op_append y_op_append ∈ bgTs := bg_tw 476 (by decide +kernel) (by decide +kernel)
theorem tc_op_areAbout : Cond.code y_op_areAbout co_op_areAbout 3 (some .boolean) ∈ bgTs := bg_tw 326 (by decide +kernel) (by decide +kernel)
theorem ti_op_areAbout : Cond.instanceMethod y_op_areAbout ∈ bgTs := bg_tw 324 (by decide +kernel) (by decide +kernel)
theorem ts_op_areAbout : Cond.selects "BlockGraph$Operations" y_op_areAbout y_op_areAbout ∈ bgTs := bg_tw 325 (by decide +kernel) (by decide +kernel)
theorem tc_op_copyOne : Cond.code y_op_copyOne co_op_copyOne 3 none ∈ bgTs := bg_tw 529 (by decide +kernel) (by decide +kernel)
theorem ti_op_copyOne : Cond.instanceMethod y_op_copyOne ∈ bgTs := bg_tw 527 (by decide +kernel) (by decide +kernel)
theorem ts_op_copyOne : Cond.selects "BlockGraph$Operations" y_op_copyOne y_op_copyOne ∈ bgTs := bg_tw 528 (by decide +kernel) (by decide +kernel)
theorem tc_op_doAll : Cond.code y_op_doAll co_op_doAll 3 none ∈ bgTs := bg_tw 317 (by decide +kernel) (by decide +kernel)
theorem ti_op_doAll : Cond.instanceMethod y_op_doAll ∈ bgTs := bg_tw 315 (by decide +kernel) (by decide +kernel)
theorem ts_op_doAll : Cond.selects "BlockGraph$Operations" y_op_doAll y_op_doAll ∈ bgTs := bg_tw 316 (by decide +kernel) (by decide +kernel)
theorem tc_pw_holds : Cond.code y_pw_holds co_pw_holds 1 (some .boolean) ∈ bgTs := bg_tw 266 (by decide +kernel) (by decide +kernel)
theorem ti_pw_holds : Cond.instanceMethod y_pw_holds ∈ bgTs := bg_tw 264 (by decide +kernel) (by decide +kernel)
theorem ts_pw_holds : Cond.selects "BlockGraph$Power" y_pw_holds y_pw_holds ∈ bgTs := bg_tw 265 (by decide +kernel) (by decide +kernel)
theorem tc_so_bringHome : Cond.code y_so_bringHome co_so_bringHome 3 (some .boolean) ∈ bgTs := bg_tw 322 (by decide +kernel) (by decide +kernel)
theorem ti_so_bringHome : Cond.instanceMethod y_so_bringHome ∈ bgTs := bg_tw 321 (by decide +kernel) (by decide +kernel)
theorem ts_so_bringHome : Cond.selects "BlockGraph$Store" y_so_bringHome y_so_bringHome ∈ bgTs := bg_tw 7 (by decide +kernel) (by decide +kernel)
theorem tc_so_layOut : Cond.code y_so_layOut co_so_layOut 3 (some .boolean) ∈ bgTs := bg_tw 258 (by decide +kernel) (by decide +kernel)
theorem ti_so_layOut : Cond.instanceMethod y_so_layOut ∈ bgTs := bg_tw 256 (by decide +kernel) (by decide +kernel)
theorem ts_so_layOut : Cond.selects "BlockGraph$Store" y_so_layOut y_so_layOut ∈ bgTs := bg_tw 257 (by decide +kernel) (by decide +kernel)
theorem tc_so_replay : Cond.code y_so_replay co_so_replay 2 (some .boolean) ∈ bgTs := bg_tw 308 (by decide +kernel) (by decide +kernel)
theorem ti_so_replay : Cond.instanceMethod y_so_replay ∈ bgTs := bg_tw 306 (by decide +kernel) (by decide +kernel)
theorem ts_so_replay : Cond.selects "BlockGraph$Store" y_so_replay y_so_replay ∈ bgTs := bg_tw 307 (by decide +kernel) (by decide +kernel)
theorem tc_so_save : Cond.code y_so_save co_so_save 4 (some .boolean) ∈ bgTs := bg_tw 521 (by decide +kernel) (by decide +kernel)
theorem ti_so_save : Cond.instanceMethod y_so_save ∈ bgTs := bg_tw 519 (by decide +kernel) (by decide +kernel)
theorem ts_so_save : Cond.selects "BlockGraph$Store" y_so_save y_so_save ∈ bgTs := bg_tw 520 (by decide +kernel) (by decide +kernel)
theorem tc_so_writeHead : Cond.code y_so_writeHead co_so_writeHead 2 (some .boolean) ∈ bgTs := bg_tw 262 (by decide +kernel) (by decide +kernel)
theorem ti_so_writeHead : Cond.instanceMethod y_so_writeHead ∈ bgTs := bg_tw 261 (by decide +kernel) (by decide +kernel)
theorem ts_so_writeHead : Cond.selects "BlockGraph$Store" y_so_writeHead y_so_writeHead ∈ bgTs := bg_tw 2 (by decide +kernel) (by decide +kernel)
theorem tc_so_writeHome : Cond.code y_so_writeHome co_so_writeHome 3 (some .boolean) ∈ bgTs := bg_tw 270 (by decide +kernel) (by decide +kernel)
theorem ti_so_writeHome : Cond.instanceMethod y_so_writeHome ∈ bgTs := bg_tw 269 (by decide +kernel) (by decide +kernel)
theorem ts_so_writeHome : Cond.selects "BlockGraph$Store" y_so_writeHome y_so_writeHome ∈ bgTs := bg_tw 3 (by decide +kernel) (by decide +kernel)
theorem tc_so_writeLog : Cond.code y_so_writeLog co_so_writeLog 3 (some .boolean) ∈ bgTs := bg_tw 525 (by decide +kernel) (by decide +kernel)
theorem ti_so_writeLog : Cond.instanceMethod y_so_writeLog ∈ bgTs := bg_tw 524 (by decide +kernel) (by decide +kernel)
theorem ts_so_writeLog : Cond.selects "BlockGraph$Store" y_so_writeLog y_so_writeLog ∈ bgTs := bg_tw 15 (by decide +kernel) (by decide +kernel)
theorem tc_so_writeMark : Cond.code y_so_writeMark co_so_writeMark 2 (some .boolean) ∈ bgTs := bg_tw 296 (by decide +kernel) (by decide +kernel)
theorem ti_so_writeMark : Cond.instanceMethod y_so_writeMark ∈ bgTs := bg_tw 295 (by decide +kernel) (by decide +kernel)
theorem ts_so_writeMark : Cond.selects "BlockGraph$Store" y_so_writeMark y_so_writeMark ∈ bgTs := bg_tw 5 (by decide +kernel) (by decide +kernel)
theorem tc_wy_chooseParents : Cond.code y_wy_chooseParents co_wy_chooseParents 5 none ∈ bgTs := bg_tw 595 (by decide +kernel) (by decide +kernel)
theorem ti_wy_chooseParents : Cond.instanceMethod y_wy_chooseParents ∈ bgTs := bg_tw 594 (by decide +kernel) (by decide +kernel)
theorem ts_wy_chooseParents : Cond.selects "BlockGraph$Ways" y_wy_chooseParents y_wy_chooseParents ∈ bgTs := bg_tw 18 (by decide +kernel) (by decide +kernel)
theorem tc_wy_countReached : Cond.code y_wy_countReached co_wy_countReached 3 (some .int) ∈ bgTs := bg_tw 599 (by decide +kernel) (by decide +kernel)
theorem ti_wy_countReached : Cond.instanceMethod y_wy_countReached ∈ bgTs := bg_tw 598 (by decide +kernel) (by decide +kernel)
theorem ts_wy_countReached : Cond.selects "BlockGraph$Ways" y_wy_countReached y_wy_countReached ∈ bgTs := bg_tw 19 (by decide +kernel) (by decide +kernel)
theorem tc_wy_forget : Cond.code y_wy_forget co_wy_forget 1 none ∈ bgTs := bg_tw 247 (by decide +kernel) (by decide +kernel)
theorem ti_wy_forget : Cond.instanceMethod y_wy_forget ∈ bgTs := bg_tw 245 (by decide +kernel) (by decide +kernel)
theorem ts_wy_forget : Cond.selects "BlockGraph$Ways" y_wy_forget y_wy_forget ∈ bgTs := bg_tw 246 (by decide +kernel) (by decide +kernel)
theorem tc_wy_goBack : Cond.code y_wy_goBack co_wy_goBack 5 (some .int) ∈ bgTs := bg_tw 650 (by decide +kernel) (by decide +kernel)
theorem ti_wy_goBack : Cond.instanceMethod y_wy_goBack ∈ bgTs := bg_tw 648 (by decide +kernel) (by decide +kernel)
theorem ts_wy_goBack : Cond.selects "BlockGraph$Ways" y_wy_goBack y_wy_goBack ∈ bgTs := bg_tw 649 (by decide +kernel) (by decide +kernel)
theorem tc_wy_leadsOn : Cond.code y_wy_leadsOn co_wy_leadsOn 3 (some .boolean) ∈ bgTs := bg_tw 590 (by decide +kernel) (by decide +kernel)
theorem ti_wy_leadsOn : Cond.instanceMethod y_wy_leadsOn ∈ bgTs := bg_tw 589 (by decide +kernel) (by decide +kernel)
theorem ts_wy_leadsOn : Cond.selects "BlockGraph$Ways" y_wy_leadsOn y_wy_leadsOn ∈ bgTs := bg_tw 17 (by decide +kernel) (by decide +kernel)
theorem tc_wy_length : Cond.code y_wy_length co_wy_length 4 (some .int) ∈ bgTs := bg_tw 630 (by decide +kernel) (by decide +kernel)
theorem ti_wy_length : Cond.instanceMethod y_wy_length ∈ bgTs := bg_tw 628 (by decide +kernel) (by decide +kernel)
theorem ts_wy_length : Cond.selects "BlockGraph$Ways" y_wy_length y_wy_length ∈ bgTs := bg_tw 629 (by decide +kernel) (by decide +kernel)
theorem tc_wy_measure : Cond.code y_wy_measure co_wy_measure 5 (some .int) ∈ bgTs := bg_tw 581 (by decide +kernel) (by decide +kernel)
theorem ti_wy_measure : Cond.instanceMethod y_wy_measure ∈ bgTs := bg_tw 579 (by decide +kernel) (by decide +kernel)
theorem ts_wy_measure : Cond.selects "BlockGraph$Ways" y_wy_measure y_wy_measure ∈ bgTs := bg_tw 580 (by decide +kernel) (by decide +kernel)
theorem tc_wy_shorten : Cond.code y_wy_shorten co_wy_shorten 6 (some .boolean) ∈ bgTs := bg_tw 586 (by decide +kernel) (by decide +kernel)
theorem ti_wy_shorten : Cond.instanceMethod y_wy_shorten ∈ bgTs := bg_tw 585 (by decide +kernel) (by decide +kernel)
theorem ts_wy_shorten : Cond.selects "BlockGraph$Ways" y_wy_shorten y_wy_shorten ∈ bgTs := bg_tw 16 (by decide +kernel) (by decide +kernel)
theorem tw_35 : (Jvm.Cond.initialized "BlockGraph") ∈ bgTs := bg_tw 35 (by decide +kernel) (by decide +kernel)
theorem tw_36 : (Jvm.Cond.initialized "BlockGraph$Power") ∈ bgTs := bg_tw 36 (by decide +kernel) (by decide +kernel)
theorem tw_37 : (Jvm.Cond.initialized "BlockGraph$Hand") ∈ bgTs := bg_tw 37 (by decide +kernel) (by decide +kernel)
theorem tw_38 : (Jvm.Cond.initialized "BlockGraph$Store") ∈ bgTs := bg_tw 38 (by decide +kernel) (by decide +kernel)
theorem tw_39 : (Jvm.Cond.initialized "BlockGraph$Operations") ∈ bgTs := bg_tw 39 (by decide +kernel) (by decide +kernel)
theorem tw_40 : (Jvm.Cond.initialized "BlockGraph$EdgeTable") ∈ bgTs := bg_tw 40 (by decide +kernel) (by decide +kernel)
theorem tw_41 : (Jvm.Cond.initialized "BlockGraph$Ways") ∈ bgTs := bg_tw 41 (by decide +kernel) (by decide +kernel)
theorem tw_43 : (Jvm.Cond.initialized "java/util/Arrays") ∈ bgTs := bg_tw 43 (by decide +kernel) (by decide +kernel)
theorem tw_68 : (Jvm.Cond.fieldLink "BlockGraph$Power" (9 : Nat) "BlockGraph$Power" "left" "I") ∈ bgTs := bg_tw 68 (by decide +kernel) (by decide +kernel)
theorem tw_69 : (Jvm.Cond.fieldLink "BlockGraph" (142 : Nat) "BlockGraph$Power" "left" "I") ∈ bgTs := bg_tw 69 (by decide +kernel) (by decide +kernel)
theorem tw_70 : (Jvm.Cond.fieldLink "BlockGraph$Power" (15 : Nat) "BlockGraph$Power" "writes" "I") ∈ bgTs := bg_tw 70 (by decide +kernel) (by decide +kernel)
theorem tw_71 : (Jvm.Cond.fieldLink "BlockGraph" (203 : Nat) "BlockGraph$Power" "writes" "I") ∈ bgTs := bg_tw 71 (by decide +kernel) (by decide +kernel)
theorem tw_83 : (Jvm.Cond.fieldLink "BlockGraph$Hand" (9 : Nat) "BlockGraph$Hand" "blocks" "[I") ∈ bgTs := bg_tw 83 (by decide +kernel) (by decide +kernel)
theorem tw_84 : (Jvm.Cond.fieldLink "BlockGraph" (200 : Nat) "BlockGraph$Hand" "blocks" "[I") ∈ bgTs := bg_tw 84 (by decide +kernel) (by decide +kernel)
theorem tw_85 : (Jvm.Cond.fieldLink "BlockGraph$Hand" (15 : Nat) "BlockGraph$Hand" "size" "I") ∈ bgTs := bg_tw 85 (by decide +kernel) (by decide +kernel)
theorem tw_86 : (Jvm.Cond.fieldLink "BlockGraph" (197 : Nat) "BlockGraph$Hand" "size" "I") ∈ bgTs := bg_tw 86 (by decide +kernel) (by decide +kernel)
theorem tw_87 : (Jvm.Cond.fieldLink "BlockGraph$Hand" (19 : Nat) "BlockGraph$Hand" "reads" "I") ∈ bgTs := bg_tw 87 (by decide +kernel) (by decide +kernel)
theorem tw_88 : (Jvm.Cond.fieldLink "BlockGraph" (206 : Nat) "BlockGraph$Hand" "reads" "I") ∈ bgTs := bg_tw 88 (by decide +kernel) (by decide +kernel)
theorem tw_89 : (Jvm.Cond.fieldLink "BlockGraph$Hand" (22 : Nat) "BlockGraph$Hand" "most" "I") ∈ bgTs := bg_tw 89 (by decide +kernel) (by decide +kernel)
theorem tw_112 : (Jvm.Cond.fieldLink "BlockGraph$Operations" (9 : Nat) "BlockGraph$Operations" "edge" "[I") ∈ bgTs := bg_tw 112 (by decide +kernel) (by decide +kernel)
theorem tw_113 : (Jvm.Cond.fieldLink "BlockGraph$Operations" (15 : Nat) "BlockGraph$Operations" "from" "[I") ∈ bgTs := bg_tw 113 (by decide +kernel) (by decide +kernel)
theorem tw_114 : (Jvm.Cond.fieldLink "BlockGraph$Operations" (18 : Nat) "BlockGraph$Operations" "to" "[I") ∈ bgTs := bg_tw 114 (by decide +kernel) (by decide +kernel)
theorem tw_115 : (Jvm.Cond.fieldLink "BlockGraph$Operations" (21 : Nat) "BlockGraph$Operations" "weight" "[I") ∈ bgTs := bg_tw 115 (by decide +kernel) (by decide +kernel)
theorem tw_116 : (Jvm.Cond.fieldLink "BlockGraph$Operations" (24 : Nat) "BlockGraph$Operations" "size" "I") ∈ bgTs := bg_tw 116 (by decide +kernel) (by decide +kernel)
theorem tw_117 : (Jvm.Cond.fieldLink "BlockGraph$Store" (53 : Nat) "BlockGraph$Operations" "size" "I") ∈ bgTs := bg_tw 117 (by decide +kernel) (by decide +kernel)
theorem tw_118 : (Jvm.Cond.fieldLink "BlockGraph" (122 : Nat) "BlockGraph$Operations" "size" "I") ∈ bgTs := bg_tw 118 (by decide +kernel) (by decide +kernel)
theorem tw_136 : (Jvm.Cond.fieldLink "BlockGraph$EdgeTable" (9 : Nat) "BlockGraph$EdgeTable" "from" "[I") ∈ bgTs := bg_tw 136 (by decide +kernel) (by decide +kernel)
theorem tw_137 : (Jvm.Cond.fieldLink "BlockGraph$Ways" (52 : Nat) "BlockGraph$EdgeTable" "from" "[I") ∈ bgTs := bg_tw 137 (by decide +kernel) (by decide +kernel)
theorem tw_139 : (Jvm.Cond.fieldLink "BlockGraph$EdgeTable" (15 : Nat) "BlockGraph$EdgeTable" "to" "[I") ∈ bgTs := bg_tw 139 (by decide +kernel) (by decide +kernel)
theorem tw_140 : (Jvm.Cond.fieldLink "BlockGraph$Ways" (47 : Nat) "BlockGraph$EdgeTable" "to" "[I") ∈ bgTs := bg_tw 140 (by decide +kernel) (by decide +kernel)
theorem tw_142 : (Jvm.Cond.fieldLink "BlockGraph$EdgeTable" (18 : Nat) "BlockGraph$EdgeTable" "weight" "[I") ∈ bgTs := bg_tw 142 (by decide +kernel) (by decide +kernel)
theorem tw_143 : (Jvm.Cond.fieldLink "BlockGraph$Ways" (55 : Nat) "BlockGraph$EdgeTable" "weight" "[I") ∈ bgTs := bg_tw 143 (by decide +kernel) (by decide +kernel)
theorem tw_145 : (Jvm.Cond.fieldLink "BlockGraph$EdgeTable" (21 : Nat) "BlockGraph$EdgeTable" "size" "I") ∈ bgTs := bg_tw 145 (by decide +kernel) (by decide +kernel)
theorem tw_146 : (Jvm.Cond.fieldLink "BlockGraph" (100 : Nat) "BlockGraph$EdgeTable" "size" "I") ∈ bgTs := bg_tw 146 (by decide +kernel) (by decide +kernel)
theorem tw_156 : (Jvm.Cond.fieldLink "BlockGraph$Store" (33 : Nat) "BlockGraph$Store" "power" "LBlockGraph$Power;") ∈ bgTs := bg_tw 156 (by decide +kernel) (by decide +kernel)
theorem tw_157 : (Jvm.Cond.fieldLink "BlockGraph$Store" (37 : Nat) "BlockGraph$Store" "hand" "LBlockGraph$Hand;") ∈ bgTs := bg_tw 157 (by decide +kernel) (by decide +kernel)
theorem tw_158 : (Jvm.Cond.fieldLink "BlockGraph$Store" (12 : Nat) "BlockGraph$Store" "log" "LBlockGraph$Operations;") ∈ bgTs := bg_tw 158 (by decide +kernel) (by decide +kernel)
theorem tw_159 : (Jvm.Cond.fieldLink "BlockGraph$Store" (21 : Nat) "BlockGraph$Store" "home" "LBlockGraph$EdgeTable;") ∈ bgTs := bg_tw 159 (by decide +kernel) (by decide +kernel)
theorem tw_160 : (Jvm.Cond.fieldLink "BlockGraph" (130 : Nat) "BlockGraph$Store" "home" "LBlockGraph$EdgeTable;") ∈ bgTs := bg_tw 160 (by decide +kernel) (by decide +kernel)
theorem tw_161 : (Jvm.Cond.fieldLink "BlockGraph$Store" (25 : Nat) "BlockGraph$Store" "hasGraph" "Z") ∈ bgTs := bg_tw 161 (by decide +kernel) (by decide +kernel)
theorem tw_162 : (Jvm.Cond.fieldLink "BlockGraph" (148 : Nat) "BlockGraph$Store" "hasGraph" "Z") ∈ bgTs := bg_tw 162 (by decide +kernel) (by decide +kernel)
theorem tw_163 : (Jvm.Cond.fieldLink "BlockGraph$Store" (29 : Nat) "BlockGraph$Store" "committed" "I") ∈ bgTs := bg_tw 163 (by decide +kernel) (by decide +kernel)
theorem tw_164 : (Jvm.Cond.fieldLink "BlockGraph" (239 : Nat) "BlockGraph$Store" "committed" "I") ∈ bgTs := bg_tw 164 (by decide +kernel) (by decide +kernel)
theorem tw_188 : (Jvm.Cond.fieldLink "BlockGraph$Ways" (9 : Nat) "BlockGraph$Ways" "distances" "[I") ∈ bgTs := bg_tw 188 (by decide +kernel) (by decide +kernel)
theorem tw_189 : (Jvm.Cond.fieldLink "BlockGraph" (178 : Nat) "BlockGraph$Ways" "distances" "[I") ∈ bgTs := bg_tw 189 (by decide +kernel) (by decide +kernel)
theorem tw_190 : (Jvm.Cond.fieldLink "BlockGraph$Ways" (15 : Nat) "BlockGraph$Ways" "parents" "[I") ∈ bgTs := bg_tw 190 (by decide +kernel) (by decide +kernel)
theorem tw_191 : (Jvm.Cond.fieldLink "BlockGraph" (181 : Nat) "BlockGraph$Ways" "parents" "[I") ∈ bgTs := bg_tw 191 (by decide +kernel) (by decide +kernel)
theorem tw_192 : (Jvm.Cond.fieldLink "BlockGraph$Ways" (18 : Nat) "BlockGraph$Ways" "before" "[I") ∈ bgTs := bg_tw 192 (by decide +kernel) (by decide +kernel)
theorem tw_193 : (Jvm.Cond.fieldLink "BlockGraph$Ways" (21 : Nat) "BlockGraph$Ways" "fresh" "Z") ∈ bgTs := bg_tw 193 (by decide +kernel) (by decide +kernel)
theorem tw_194 : (Jvm.Cond.fieldLink "BlockGraph" (228 : Nat) "BlockGraph$Ways" "fresh" "Z") ∈ bgTs := bg_tw 194 (by decide +kernel) (by decide +kernel)
theorem tw_204 : (Jvm.Cond.fieldLink "BlockGraph" (10 : Nat) "BlockGraph" "power" "LBlockGraph$Power;") ∈ bgTs := bg_tw 204 (by decide +kernel) (by decide +kernel)
theorem tw_205 : (Jvm.Cond.fieldLink "BlockGraph" (19 : Nat) "BlockGraph" "hand" "LBlockGraph$Hand;") ∈ bgTs := bg_tw 205 (by decide +kernel) (by decide +kernel)
theorem tw_206 : (Jvm.Cond.fieldLink "BlockGraph" (28 : Nat) "BlockGraph" "store" "LBlockGraph$Store;") ∈ bgTs := bg_tw 206 (by decide +kernel) (by decide +kernel)
theorem tw_207 : (Jvm.Cond.fieldLink "BlockGraph" (35 : Nat) "BlockGraph" "visible" "LBlockGraph$EdgeTable;") ∈ bgTs := bg_tw 207 (by decide +kernel) (by decide +kernel)
theorem tw_208 : (Jvm.Cond.fieldLink "BlockGraph" (42 : Nat) "BlockGraph" "pending" "LBlockGraph$Operations;") ∈ bgTs := bg_tw 208 (by decide +kernel) (by decide +kernel)
theorem tw_209 : (Jvm.Cond.fieldLink "BlockGraph" (49 : Nat) "BlockGraph" "ways" "LBlockGraph$Ways;") ∈ bgTs := bg_tw 209 (by decide +kernel) (by decide +kernel)
theorem tw_210 : (Jvm.Cond.fieldLink "BlockGraph" (53 : Nat) "BlockGraph" "up" "Z") ∈ bgTs := bg_tw 210 (by decide +kernel) (by decide +kernel)
theorem tw_211 : (Jvm.Cond.fieldLink "BlockGraph" (57 : Nat) "BlockGraph" "open" "Z") ∈ bgTs := bg_tw 211 (by decide +kernel) (by decide +kernel)
theorem tw_212 : (Jvm.Cond.fieldLink "BlockGraph" (60 : Nat) "BlockGraph" "known" "I") ∈ bgTs := bg_tw 212 (by decide +kernel) (by decide +kernel)
theorem tw_236 : (Jvm.Cond.methodLink "BlockGraph" (64 : Nat) ({ cls := "BlockGraph", name := "startAnew", desc := "()V" } : Jvm.MethodName)) ∈ bgTs := bg_tw 236 (by decide +kernel) (by decide +kernel)
theorem tw_240 : (Jvm.Cond.methodLink "BlockGraph" (127 : Nat) ({ cls := "BlockGraph", name := "closeTransaction", desc := "()V" } : Jvm.MethodName)) ∈ bgTs := bg_tw 240 (by decide +kernel) (by decide +kernel)
theorem tw_244 : (Jvm.Cond.methodLink "BlockGraph" (137 : Nat) ({ cls := "BlockGraph$Ways", name := "forget", desc := "()V" } : Jvm.MethodName)) ∈ bgTs := bg_tw 244 (by decide +kernel) (by decide +kernel)
theorem tw_248 : (Jvm.Cond.methodLink "BlockGraph" (67 : Nat) ({ cls := "BlockGraph$EdgeTable", name := "erase", desc := "()V" } : Jvm.MethodName)) ∈ bgTs := bg_tw 248 (by decide +kernel) (by decide +kernel)
theorem tw_252 : (Jvm.Cond.methodLink "BlockGraph$EdgeTable" (25 : Nat) ({ cls := "java/util/Arrays", name := "fill", desc := "([II)V" } : Jvm.MethodName)) ∈ bgTs := bg_tw 252 (by decide +kernel) (by decide +kernel)
theorem tw_255 : (Jvm.Cond.methodLink "BlockGraph" (70 : Nat) ({ cls := "BlockGraph$Store", name := "layOut", desc := "(LBlockGraph$EdgeTable;)Z" } : Jvm.MethodName)) ∈ bgTs := bg_tw 255 (by decide +kernel) (by decide +kernel)
theorem tw_259 : (Jvm.Cond.methodLink "BlockGraph$Store" (41 : Nat) ({ cls := "BlockGraph$Store", name := "writeHead", desc := "(Z)Z" } : Jvm.MethodName)) ∈ bgTs := bg_tw 259 (by decide +kernel) (by decide +kernel)
theorem tw_263 : (Jvm.Cond.methodLink "BlockGraph$Store" (74 : Nat) ({ cls := "BlockGraph$Power", name := "holds", desc := "()Z" } : Jvm.MethodName)) ∈ bgTs := bg_tw 263 (by decide +kernel) (by decide +kernel)
theorem tw_267 : (Jvm.Cond.methodLink "BlockGraph$Store" (45 : Nat) ({ cls := "BlockGraph$Store", name := "writeHome", desc := "(ILBlockGraph$EdgeTable;)Z" } : Jvm.MethodName)) ∈ bgTs := bg_tw 267 (by decide +kernel) (by decide +kernel)
theorem tw_271 : (Jvm.Cond.methodLink "BlockGraph$Store" (80 : Nat) ({ cls := "BlockGraph$EdgeTable", name := "copyBlock", desc := "(LBlockGraph$EdgeTable;I)V" } : Jvm.MethodName)) ∈ bgTs := bg_tw 271 (by decide +kernel) (by decide +kernel)
theorem tw_275 : (Jvm.Cond.methodLink "BlockGraph$EdgeTable" (31 : Nat) ({ cls := "BlockGraph$EdgeTable", name := "put", desc := "(IIII)V" } : Jvm.MethodName)) ∈ bgTs := bg_tw 275 (by decide +kernel) (by decide +kernel)
theorem tw_279 : (Jvm.Cond.methodLink "BlockGraph$Store" (84 : Nat) ({ cls := "BlockGraph$Hand", name := "putFirst", desc := "(I)V" } : Jvm.MethodName)) ∈ bgTs := bg_tw 279 (by decide +kernel) (by decide +kernel)
theorem tw_283 : (Jvm.Cond.methodLink "BlockGraph$Hand" (31 : Nat) ({ cls := "BlockGraph$Hand", name := "place", desc := "(I)I" } : Jvm.MethodName)) ∈ bgTs := bg_tw 283 (by decide +kernel) (by decide +kernel)
theorem tw_287 : (Jvm.Cond.methodLink "BlockGraph$Hand" (25 : Nat) ({ cls := "java/lang/Math", name := "min", desc := "(II)I" } : Jvm.MethodName)) ∈ bgTs := bg_tw 287 (by decide +kernel) (by decide +kernel)
theorem tw_290 : (Jvm.Cond.methodLink "BlockGraph$Hand" (39 : Nat) ({ cls := "java/lang/System", name := "arraycopy", desc := "(Ljava/lang/Object;ILjava/lang/Object;II)V" } : Jvm.MethodName)) ∈ bgTs := bg_tw 290 (by decide +kernel) (by decide +kernel)
theorem tw_293 : (Jvm.Cond.methodLink "BlockGraph$Store" (49 : Nat) ({ cls := "BlockGraph$Store", name := "writeMark", desc := "(I)Z" } : Jvm.MethodName)) ∈ bgTs := bg_tw 293 (by decide +kernel) (by decide +kernel)
theorem tw_297 : (Jvm.Cond.methodLink "BlockGraph" (74 : Nat) ({ cls := "BlockGraph", name := "settleState", desc := "(Z)V" } : Jvm.MethodName)) ∈ bgTs := bg_tw 297 (by decide +kernel) (by decide +kernel)
theorem tw_305 : (Jvm.Cond.methodLink "BlockGraph" (145 : Nat) ({ cls := "BlockGraph$Store", name := "replay", desc := "(LBlockGraph$EdgeTable;)Z" } : Jvm.MethodName)) ∈ bgTs := bg_tw 305 (by decide +kernel) (by decide +kernel)
theorem tw_309 : (Jvm.Cond.methodLink "BlockGraph$Store" (64 : Nat) ({ cls := "BlockGraph$EdgeTable", name := "copyAll", desc := "(LBlockGraph$EdgeTable;)V" } : Jvm.MethodName)) ∈ bgTs := bg_tw 309 (by decide +kernel) (by decide +kernel)
theorem tw_313 : (Jvm.Cond.methodLink "BlockGraph$EdgeTable" (35 : Nat) ({ cls := "java/lang/System", name := "arraycopy", desc := "(Ljava/lang/Object;ILjava/lang/Object;II)V" } : Jvm.MethodName)) ∈ bgTs := bg_tw 313 (by decide +kernel) (by decide +kernel)
theorem tw_314 : (Jvm.Cond.methodLink "BlockGraph$Store" (68 : Nat) ({ cls := "BlockGraph$Operations", name := "doAll", desc := "(LBlockGraph$EdgeTable;)V" } : Jvm.MethodName)) ∈ bgTs := bg_tw 314 (by decide +kernel) (by decide +kernel)
theorem tw_318 : (Jvm.Cond.methodLink "BlockGraph$Operations" (28 : Nat) ({ cls := "BlockGraph$EdgeTable", name := "put", desc := "(IIII)V" } : Jvm.MethodName)) ∈ bgTs := bg_tw 318 (by decide +kernel) (by decide +kernel)
theorem tw_319 : (Jvm.Cond.methodLink "BlockGraph$Store" (60 : Nat) ({ cls := "BlockGraph$Store", name := "bringHome", desc := "(LBlockGraph$EdgeTable;)Z" } : Jvm.MethodName)) ∈ bgTs := bg_tw 319 (by decide +kernel) (by decide +kernel)
theorem tw_323 : (Jvm.Cond.methodLink "BlockGraph$Store" (71 : Nat) ({ cls := "BlockGraph$Operations", name := "areAbout", desc := "(I)Z" } : Jvm.MethodName)) ∈ bgTs := bg_tw 323 (by decide +kernel) (by decide +kernel)
theorem tw_335 : (Jvm.Cond.methodLink "BlockGraph" (78 : Nat) ({ cls := "BlockGraph", name := "mustBeUp", desc := "()V" } : Jvm.MethodName)) ∈ bgTs := bg_tw 335 (by decide +kernel) (by decide +kernel)
theorem tw_339 : (Jvm.Cond.classLink "BlockGraph" (81 : Nat) "java/lang/IllegalStateException") ∈ bgTs := bg_tw 339 (by decide +kernel) (by decide +kernel)
theorem tw_419 : (Jvm.Cond.methodLink "BlockGraph" (88 : Nat) ({ cls := "BlockGraph", name := "mustBeOpen", desc := "()V" } : Jvm.MethodName)) ∈ bgTs := bg_tw 419 (by decide +kernel) (by decide +kernel)
theorem tw_424 : (Jvm.Cond.methodLink "BlockGraph" (91 : Nat) ({ cls := "BlockGraph", name := "mustBeVertex", desc := "(I)V" } : Jvm.MethodName)) ∈ bgTs := bg_tw 424 (by decide +kernel) (by decide +kernel)
theorem tw_428 : (Jvm.Cond.classLink "BlockGraph" (95 : Nat) "java/lang/IllegalArgumentException") ∈ bgTs := bg_tw 428 (by decide +kernel) (by decide +kernel)
theorem tw_445 : (Jvm.Cond.classLink "BlockGraph" (103 : Nat) "java/lang/UnsupportedOperationException") ∈ bgTs := bg_tw 445 (by decide +kernel) (by decide +kernel)
theorem tw_461 : (Jvm.Cond.methodLink "BlockGraph" (108 : Nat) ({ cls := "BlockGraph", name := "mustHaveRoomForOperation", desc := "()V" } : Jvm.MethodName)) ∈ bgTs := bg_tw 461 (by decide +kernel) (by decide +kernel)
theorem tw_466 : (Jvm.Cond.methodLink "BlockGraph" (111 : Nat) ({ cls := "BlockGraph$EdgeTable", name := "leastFree", desc := "()I" } : Jvm.MethodName)) ∈ bgTs := bg_tw 466 (by decide +kernel) (by decide +kernel)
theorem tw_470 : (Jvm.Cond.methodLink "BlockGraph" (115 : Nat) ({ cls := "BlockGraph", name := "operate", desc := "(IIII)V" } : Jvm.MethodName)) ∈ bgTs := bg_tw 470 (by decide +kernel) (by decide +kernel)
theorem tw_474 : (Jvm.Cond.methodLink "BlockGraph" (233 : Nat) ({ cls := "BlockGraph$Operations", name := "append", desc := "(IIII)V" } : Jvm.MethodName)) ∈ bgTs := bg_tw 474 (by decide +kernel) (by decide +kernel)
theorem tw_478 : (Jvm.Cond.methodLink "BlockGraph" (236 : Nat) ({ cls := "BlockGraph$EdgeTable", name := "put", desc := "(IIII)V" } : Jvm.MethodName)) ∈ bgTs := bg_tw 478 (by decide +kernel) (by decide +kernel)
theorem tw_518 : (Jvm.Cond.methodLink "BlockGraph" (123 : Nat) ({ cls := "BlockGraph$Store", name := "save", desc := "(LBlockGraph$Operations;LBlockGraph$EdgeTable;)Z" } : Jvm.MethodName)) ∈ bgTs := bg_tw 518 (by decide +kernel) (by decide +kernel)
theorem tw_522 : (Jvm.Cond.methodLink "BlockGraph$Store" (56 : Nat) ({ cls := "BlockGraph$Store", name := "writeLog", desc := "(LBlockGraph$Operations;I)Z" } : Jvm.MethodName)) ∈ bgTs := bg_tw 522 (by decide +kernel) (by decide +kernel)
theorem tw_526 : (Jvm.Cond.methodLink "BlockGraph$Store" (90 : Nat) ({ cls := "BlockGraph$Operations", name := "copyOne", desc := "(LBlockGraph$Operations;I)V" } : Jvm.MethodName)) ∈ bgTs := bg_tw 526 (by decide +kernel) (by decide +kernel)
theorem tw_537 : (Jvm.Cond.methodLink "BlockGraph" (133 : Nat) ({ cls := "BlockGraph$EdgeTable", name := "copyAll", desc := "(LBlockGraph$EdgeTable;)V" } : Jvm.MethodName)) ∈ bgTs := bg_tw 537 (by decide +kernel) (by decide +kernel)
theorem tw_554 : (Jvm.Cond.methodLink "BlockGraph" (153 : Nat) ({ cls := "BlockGraph$Hand", name := "look", desc := "(I)V" } : Jvm.MethodName)) ∈ bgTs := bg_tw 554 (by decide +kernel) (by decide +kernel)
theorem tw_558 : (Jvm.Cond.methodLink "BlockGraph$Hand" (35 : Nat) ({ cls := "BlockGraph$Hand", name := "putFirst", desc := "(I)V" } : Jvm.MethodName)) ∈ bgTs := bg_tw 558 (by decide +kernel) (by decide +kernel)
theorem tw_567 : (Jvm.Cond.methodLink "BlockGraph" (168 : Nat) ({ cls := "BlockGraph$Hand", name := "limit", desc := "(I)V" } : Jvm.MethodName)) ∈ bgTs := bg_tw 567 (by decide +kernel) (by decide +kernel)
theorem tw_578 : (Jvm.Cond.methodLink "BlockGraph" (171 : Nat) ({ cls := "BlockGraph$Ways", name := "measure", desc := "(LBlockGraph$EdgeTable;I)I" } : Jvm.MethodName)) ∈ bgTs := bg_tw 578 (by decide +kernel) (by decide +kernel)
theorem tw_582 : (Jvm.Cond.methodLink "BlockGraph$Ways" (25 : Nat) ({ cls := "java/util/Arrays", name := "fill", desc := "([II)V" } : Jvm.MethodName)) ∈ bgTs := bg_tw 582 (by decide +kernel) (by decide +kernel)
theorem tw_583 : (Jvm.Cond.methodLink "BlockGraph$Ways" (31 : Nat) ({ cls := "BlockGraph$Ways", name := "shorten", desc := "(LBlockGraph$EdgeTable;)Z" } : Jvm.MethodName)) ∈ bgTs := bg_tw 583 (by decide +kernel) (by decide +kernel)
theorem tw_587 : (Jvm.Cond.methodLink "BlockGraph$Ways" (43 : Nat) ({ cls := "BlockGraph$Ways", name := "leadsOn", desc := "(LBlockGraph$EdgeTable;I)Z" } : Jvm.MethodName)) ∈ bgTs := bg_tw 587 (by decide +kernel) (by decide +kernel)
theorem tw_591 : (Jvm.Cond.methodLink "BlockGraph$Ways" (58 : Nat) ({ cls := "BlockGraph$EdgeTable", name := "has", desc := "(I)Z" } : Jvm.MethodName)) ∈ bgTs := bg_tw 591 (by decide +kernel) (by decide +kernel)
theorem tw_592 : (Jvm.Cond.methodLink "BlockGraph$Ways" (35 : Nat) ({ cls := "BlockGraph$Ways", name := "chooseParents", desc := "(LBlockGraph$EdgeTable;)V" } : Jvm.MethodName)) ∈ bgTs := bg_tw 592 (by decide +kernel) (by decide +kernel)
theorem tw_596 : (Jvm.Cond.methodLink "BlockGraph$Ways" (39 : Nat) ({ cls := "BlockGraph$Ways", name := "countReached", desc := "()I" } : Jvm.MethodName)) ∈ bgTs := bg_tw 596 (by decide +kernel) (by decide +kernel)
theorem tw_607 : (Jvm.Cond.methodLink "BlockGraph" (175 : Nat) ({ cls := "BlockGraph", name := "mustHaveWayTo", desc := "(I)V" } : Jvm.MethodName)) ∈ bgTs := bg_tw 607 (by decide +kernel) (by decide +kernel)
theorem tw_627 : (Jvm.Cond.methodLink "BlockGraph" (184 : Nat) ({ cls := "BlockGraph$Ways", name := "length", desc := "(I)I" } : Jvm.MethodName)) ∈ bgTs := bg_tw 627 (by decide +kernel) (by decide +kernel)
theorem tw_631 : (Jvm.Cond.classLink "BlockGraph" (188 : Nat) "java/lang/IndexOutOfBoundsException") ∈ bgTs := bg_tw 631 (by decide +kernel) (by decide +kernel)
theorem tw_647 : (Jvm.Cond.methodLink "BlockGraph" (193 : Nat) ({ cls := "BlockGraph$Ways", name := "goBack", desc := "(II)I" } : Jvm.MethodName)) ∈ bgTs := bg_tw 647 (by decide +kernel) (by decide +kernel)
theorem tl_382 : (Jvm.Cond.stringRef "BlockGraph" (211 : Nat) "the store is down, or there is no graph") ∈ lw_tbl := List.mem_of_getElem? (i := 382) (by decide +kernel)
theorem tl_409 : (Jvm.Cond.stringRef "BlockGraph" (83 : Nat) "a transaction is open") ∈ lw_tbl := List.mem_of_getElem? (i := 409) (by decide +kernel)
theorem tl_423 : (Jvm.Cond.stringRef "BlockGraph" (213 : Nat) "no transaction is open") ∈ lw_tbl := List.mem_of_getElem? (i := 423) (by decide +kernel)
theorem tl_437 : (Jvm.Cond.stringRef "BlockGraph" (215 : Nat) "no such vertex") ∈ lw_tbl := List.mem_of_getElem? (i := 437) (by decide +kernel)
theorem tl_444 : (Jvm.Cond.stringRef "BlockGraph" (97 : Nat) "no such weight") ∈ lw_tbl := List.mem_of_getElem? (i := 444) (by decide +kernel)
theorem tl_454 : (Jvm.Cond.stringRef "BlockGraph" (105 : Nat) "there are 200 edges") ∈ lw_tbl := List.mem_of_getElem? (i := 454) (by decide +kernel)
theorem tl_465 : (Jvm.Cond.stringRef "BlockGraph" (226 : Nat) "the transaction has 20 operations") ∈ lw_tbl := List.mem_of_getElem? (i := 465) (by decide +kernel)
theorem tl_545 : (Jvm.Cond.stringRef "BlockGraph" (140 : Nat) "fewer than no writes") ∈ lw_tbl := List.mem_of_getElem? (i := 545) (by decide +kernel)
theorem tl_566 : (Jvm.Cond.stringRef "BlockGraph" (166 : Nat) "no such room") ∈ lw_tbl := List.mem_of_getElem? (i := 566) (by decide +kernel)
theorem tl_611 : (Jvm.Cond.stringRef "BlockGraph" (231 : Nat) "the distances are stale") ∈ lw_tbl := List.mem_of_getElem? (i := 611) (by decide +kernel)
theorem tl_640 : (Jvm.Cond.stringRef "BlockGraph" (190 : Nat) "not so many vertices on the way") ∈ lw_tbl := List.mem_of_getElem? (i := 640) (by decide +kernel)
theorem tl_658 : (Jvm.Cond.stringRef "BlockGraph" (198 : Nat) "not so many blocks at hand") ∈ lw_tbl := List.mem_of_getElem? (i := 658) (by decide +kernel)
theorem tl_666 : (Jvm.Cond.stringRef "BlockGraph" (209 : Nat) "no such count") ∈ lw_tbl := List.mem_of_getElem? (i := 666) (by decide +kernel)
theorem tm_sta : Cond.static Lib.Math.min.name ∈ bgTs := bg_tw 288 (by decide +kernel) (by decide +kernel)
theorem tm_ini : Cond.initialized "java/lang/Math" ∈ bgTs := bg_tw 44 (by decide +kernel) (by decide +kernel)
theorem tm_cod : Cond.code Lib.Math.min.name Lib.Math.min.code 2 (some .int) ∈ bgTs := bg_tw 289 (by decide +kernel) (by decide +kernel)
theorem ta_nat : Cond.native arraycopyName ∈ bgTs := bg_tw 292 (by decide +kernel) (by decide +kernel)
theorem ta_sta : Cond.static arraycopyName ∈ bgTs := bg_tw 291 (by decide +kernel) (by decide +kernel)
theorem ta_ini : Cond.initialized "java/lang/System" ∈ bgTs := bg_tw 45 (by decide +kernel) (by decide +kernel)
theorem cf_bg : bgCF 0 R_bg T_bg ty_bg 9 := ⟨rfl, rfl, bg_in [213, 215, 217, 219, 221, 223, 225, 227, 229] (by decide +kernel) (by decide +kernel), by decide +kernel, by decide +kernel, by decide +kernel⟩
theorem cf_pw : bgCF 1 R_pw T_pw ty_pw 2 := ⟨rfl, rfl, bg_in [72, 74] (by decide +kernel) (by decide +kernel), by decide +kernel, by decide +kernel, by decide +kernel⟩
theorem cf_hd : bgCF 2 R_hd T_hd ty_hd 4 := ⟨rfl, rfl, bg_in [90, 92, 94, 96] (by decide +kernel) (by decide +kernel), by decide +kernel, by decide +kernel, by decide +kernel⟩
theorem cf_so : bgCF 3 R_so T_so ty_so 6 := ⟨rfl, rfl, bg_in [165, 167, 169, 171, 173, 175] (by decide +kernel) (by decide +kernel), by decide +kernel, by decide +kernel, by decide +kernel⟩
theorem cf_op : bgCF 4 R_op T_op ty_op 5 := ⟨rfl, rfl, bg_in [119, 121, 123, 125, 127] (by decide +kernel) (by decide +kernel), by decide +kernel, by decide +kernel, by decide +kernel⟩
theorem cf_et : bgCF 5 R_et T_et ty_et 4 := ⟨rfl, rfl, bg_in [147, 149, 151, 153] (by decide +kernel) (by decide +kernel), by decide +kernel, by decide +kernel, by decide +kernel⟩
theorem cf_wy : bgCF 6 R_wy T_wy ty_wy 4 := ⟨rfl, rfl, bg_in [195, 197, 199, 201] (by decide +kernel) (by decide +kernel), by decide +kernel, by decide +kernel, by decide +kernel⟩
theorem cf_mo : bgCF 7 R_mo T_mo ty_mo 23 := ⟨rfl, rfl, bg_in [700, 702, 704, 706, 708, 710, 712, 714, 716, 718, 720, 722, 724, 726, 728, 730, 732, 734, 736, 738, 740, 742, 744] (by decide +kernel) (by decide +kernel), by decide +kernel, by decide +kernel, by decide +kernel⟩
def xn : List String := ["java/lang/RuntimeException", "java/lang/Exception"]
theorem xf : ∀ n ∈ xn, Bundle.fit n = true := by decide +kernel
theorem xi_0 : Cond.instantiable (bgXn 0) 6 ∈ bgTs := bg_tw 340 (by decide +kernel) (by decide +kernel)
theorem xj_0 : Cond.initialized (bgXn 0) ∈ bgTs := bg_tw 49 (by decide +kernel) (by decide +kernel)
theorem xa_0 : bgAt "BlockGraph" 85 (bgXn 0) xn := bg_atOf [some 46, some 361, some 370, some 376, some 379, some 381, some 362, some 363, some 60, some 61, some 364, some 369, some 377, some 397, some 351, some 398, some 353, some 399, some 355, some 365, some 366, some 367, some 368, some 357, some 393, some 394, some 396, some 357, some 384, some 385, some 386, some 387, some 343, some 387, some 388, some 389, some 390, some 345, some 390, some 391, some 392, some 393, some 347, some 383, some 340, some 341, some 348, some 349, some 350, some 352, some 354, some 356, none, none, some 360, some 359, some 358] (by decide +kernel) (by decide +kernel)
theorem xi_1 : Cond.instantiable (bgXn 1) 6 ∈ bgTs := bg_tw 429 (by decide +kernel) (by decide +kernel)
theorem xj_1 : Cond.initialized (bgXn 1) ∈ bgTs := bg_tw 50 (by decide +kernel) (by decide +kernel)
theorem xa_1 : bgAt "BlockGraph" 99 (bgXn 1) xn := bg_atOf [some 46, some 361, some 370, some 376, some 379, some 381, some 362, some 363, some 60, some 61, some 364, some 369, some 377, some 397, some 351, some 398, some 353, some 399, some 355, some 365, some 366, some 367, some 368, some 357, some 393, some 394, some 396, some 357, some 439, some 440, some 441, some 387, some 343, some 387, some 388, some 389, some 390, some 345, some 390, some 391, some 392, some 393, some 347, some 438, some 429, some 430, some 431, some 372, some 432, some 433, some 434, some 435, none, none, some 360, some 359, some 436] (by decide +kernel) (by decide +kernel)
theorem xi_2 : Cond.instantiable (bgXn 2) 6 ∈ bgTs := bg_tw 446 (by decide +kernel) (by decide +kernel)
theorem xj_2 : Cond.initialized (bgXn 2) ∈ bgTs := bg_tw 51 (by decide +kernel) (by decide +kernel)
theorem xa_2 : bgAt "BlockGraph" 107 (bgXn 2) xn := bg_atOf [some 46, some 361, some 370, some 376, some 379, some 381, some 362, some 363, some 60, some 61, some 364, some 369, some 377, some 397, some 351, some 398, some 353, some 399, some 355, some 365, some 366, some 367, some 368, some 357, some 393, some 394, some 396, some 357, some 456, some 457, some 458, some 387, some 343, some 387, some 388, some 389, some 390, some 345, some 390, some 391, some 392, some 393, some 347, some 455, some 446, some 447, some 448, some 374, some 449, some 450, some 451, some 452, none, none, some 360, some 359, some 453] (by decide +kernel) (by decide +kernel)
theorem xi_4 : Cond.instantiable (bgXn 4) 6 ∈ bgTs := bg_tw 632 (by decide +kernel) (by decide +kernel)
theorem xj_4 : Cond.initialized (bgXn 4) ∈ bgTs := bg_tw 53 (by decide +kernel) (by decide +kernel)
theorem xa_4 : bgAt "BlockGraph" 192 (bgXn 4) xn := bg_atOf [some 46, some 361, some 370, some 376, some 379, some 381, some 362, some 363, some 60, some 61, some 364, some 369, some 377, some 397, some 351, some 398, some 353, some 399, some 355, some 365, some 366, some 367, some 368, some 357, some 393, some 394, some 396, some 357, some 642, some 643, some 644, some 387, some 343, some 387, some 388, some 389, some 390, some 345, some 390, some 391, some 392, some 393, some 347, some 641, some 632, some 633, some 634, some 373, some 635, some 636, some 637, some 638, none, none, some 360, some 359, some 639] (by decide +kernel) (by decide +kernel)
end
section
def rm_et_has : Room := { frames := 0, cells := 0, slots := 0, locals := 0 }
set_option maxRecDepth 20000 in
set_option maxHeartbeats 4000000 in
theorem m_et_has {G : bgGl} (hG : bgOk G) {w0 : bgW} (hw : bgN w0) {e : Int} (z0 : -2147483648 ≤ e) (z1 : e ≤ 2147483647) : bgM G true 0 0 y_et_has (.code y_et_has co_et_has 2 (some .boolean)) rm_et_has [br 14, bi e] w0 (bgPi (fun v w' => w0 = w' ∧ 0 ≤ v ∧ v ≤ 1 ∧ (v = 0 ∨ (0 ≤ e ∧ e ≤ 199)))) := by
  refine bg_met hG (by decide +kernel) (bg_cat rfl) (Nat.le_of_ble_eq_true rfl) ?_
  intro K hK hR hex C
  subst hK
  have hI := bgRel.rfl hw
  show bgX K true 0 0 _ w0 0 [some (br 14), some (bi e)] []
  refine bg_iload_n C d_et_has_0 rfl rfl ?_
  refine bg_if_lt (tgt := 24) C d_et_has_1 (by decide) ⟨by omega, by omega⟩ (fun h1 => ?_) (fun h1 => ?_)
  · refine bg_iconst C d_et_has_24 ?_
    exact bg_iret C d_et_has_25 (fun _ => rfl) (Or.inr ⟨rfl, by omega⟩) (Nat.zero_le _) (Nat.zero_le _) ⟨_, rfl, rfl, by omega, by omega, by omega⟩
  · refine bg_iload_n C d_et_has_4 rfl rfl ?_
    refine bg_sipush C d_et_has_5 (by decide +kernel) ?_
    refine bg_icmp_ge (tgt := 24) C d_et_has_8 (by decide) ⟨by omega, by omega⟩ ⟨by omega, by omega⟩ (fun h2 => ?_) (fun h2 => ?_)
    · refine bg_iconst C d_et_has_24 ?_
      exact bg_iret C d_et_has_25 (fun _ => rfl) (Or.inr ⟨rfl, by omega⟩) (Nat.zero_le _) (Nat.zero_le _) ⟨_, rfl, rfl, by omega, by omega, by omega⟩
    · refine bg_aload_n C d_et_has_11 rfl rfl ?_
      refine bg_getr (i := 2) C cf_et rfl (by decide) rfl tw_142 d_et_has_12 ?_
      refine bg_iload_n C d_et_has_15 rfl rfl ?_
      refine bq_iald0 C rfl (by omega) (by omega) d_et_has_16 (fun v3 e3 => ?_)
      refine bg_if_eq0 (tgt := 24) C d_et_has_17 (by decide) ?_ ?_
      · refine bg_iconst C d_et_has_24 ?_
        exact bg_iret C d_et_has_25 (fun _ => rfl) (Or.inr ⟨rfl, by omega⟩) (Nat.zero_le _) (Nat.zero_le _) ⟨_, rfl, rfl, by omega, by omega, by omega⟩
      · refine bg_iconst C d_et_has_20 ?_
        refine bg_goto (l := 25) C d_et_has_21 (by decide) ?_
        exact bg_iret C d_et_has_25 (fun _ => rfl) (Or.inr ⟨rfl, by omega⟩) (Nat.zero_le _) (Nat.zero_le _) ⟨_, rfl, rfl, by omega, by omega, by omega⟩
def rm_et_leastFree : Room := { frames := 0, cells := 0, slots := 0, locals := 0 }
set_option maxRecDepth 20000 in
set_option maxHeartbeats 4000000 in
theorem m_et_leastFree {G : bgGl} (hG : bgOk G) {w0 : bgW} (hw : bgN w0) : bgM G true 0 0 y_et_leastFree (.code y_et_leastFree co_et_leastFree 2 (some .int)) rm_et_leastFree [br 14] w0 (bgPi (fun v w' => w0 = w' ∧ -1 ≤ v ∧ v ≤ 199)) := by
  refine bg_met hG (by decide +kernel) (bg_cat rfl) (Nat.le_of_ble_eq_true rfl) ?_
  intro K hK hR hex C
  subst hK
  have hI := bgRel.rfl hw
  show bgX K true 0 0 _ w0 0 [some (br 14), none] []
  refine bg_iconst C d_et_leastFree_0 ?_
  refine bg_istore_n C d_et_leastFree_1 rfl (Nat.le_of_ble_eq_true rfl) ?_
  refine bg_loop (α := Int) (fun a => (200 - a).toNat) (fun a => 0 ≤ a ∧ a ≤ 200) (fun a => (w0, [some (br 14), some (bi a)], [])) ?_ 0 ⟨by (try dsimp only) <;> omega, by (try dsimp only) <;> omega⟩
  rintro i1 ⟨q1_0, q1_1⟩ ih2
  try dsimp only at ih2
  try dsimp only at q1_0
  try dsimp only at q1_1
  try dsimp only
  refine bg_iload_n C d_et_leastFree_2 rfl rfl ?_
  refine bg_sipush C d_et_leastFree_3 (by decide +kernel) ?_
  refine bg_icmp_ge (tgt := 26) C d_et_leastFree_6 (by decide) ⟨by omega, by omega⟩ ⟨by omega, by omega⟩ (fun h2 => ?_) (fun h2 => ?_)
  · refine bg_iconst C d_et_leastFree_26 ?_
    exact bg_iret C d_et_leastFree_27 (fun _ => rfl) (Or.inl rfl) (Nat.zero_le _) (Nat.zero_le _) ⟨_, rfl, rfl, by omega, by omega⟩
  · refine bg_aload_n C d_et_leastFree_9 rfl rfl ?_
    refine bg_getr (i := 2) C cf_et rfl (by decide) rfl tw_142 d_et_leastFree_10 ?_
    refine bg_iload_n C d_et_leastFree_13 rfl rfl ?_
    refine bq_iald0 C rfl (by omega) (by omega) d_et_leastFree_14 (fun v3 e3 => ?_)
    refine bg_if_ne0 (tgt := 20) C d_et_leastFree_15 (by decide) ?_ ?_
    · refine bg_iinc C d_et_leastFree_20 rfl ?_
      refine bg_goto (l := 2) C d_et_leastFree_23 (by decide) ?_
      exact ih2 (i1 + 1) ⟨by omega, by omega⟩ (by omega)
    · refine bg_iload_n C d_et_leastFree_18 rfl rfl ?_
      exact bg_iret C d_et_leastFree_19 (fun _ => rfl) (Or.inl rfl) (Nat.zero_le _) (Nat.zero_le _) ⟨_, rfl, rfl, by omega, by omega⟩
def rm_et_put_vs : Room := { frames := 0, cells := 0, slots := 0, locals := 0 }
set_option maxRecDepth 20000 in
set_option maxHeartbeats 4000000 in
theorem m_et_put_vs {G : bgGl} (hG : bgOk G) {w0 : bgW} (hw : bgN w0) {e f t x : Int} (z0 : -2147483648 ≤ e) (z1 : e ≤ 2147483647) (z2 : 0 ≤ f) (z3 : f ≤ 63) (z4 : 0 ≤ t) (z5 : t ≤ 63) : bgM G false 0 0 y_et_put (.code y_et_put co_et_put 5 none) rm_et_put_vs [br 14, bi e, bi f, bi t, bi x] w0 (bgPv (fun w' => bgRel w0 w')) := by
  refine bg_met hG (by decide +kernel) (bg_cat rfl) (Nat.le_of_ble_eq_true rfl) ?_
  intro K hK hR hex C
  subst hK
  have hI := bgRel.rfl hw
  show bgX K true 0 0 _ w0 0 [some (br 14), some (bi e), some (bi f), some (bi t), some (bi x)] []
  refine bg_iload_n C d_et_put_0 rfl rfl ?_
  refine bg_if_lt (tgt := 11) C d_et_put_1 (by decide) ⟨by omega, by omega⟩ (fun h1 => ?_) (fun h1 => ?_)
  · exact bg_ret C d_et_put_11 (fun h => by cases h) rfl (Nat.zero_le _) (Nat.zero_le _) ⟨rfl, hI⟩
  · refine bg_iload_n C d_et_put_4 rfl rfl ?_
    refine bg_sipush C d_et_put_5 (by decide +kernel) ?_
    refine bg_icmp_lt (tgt := 12) C d_et_put_8 (by decide) ⟨by omega, by omega⟩ ⟨by omega, by omega⟩ (fun h2 => ?_) (fun h2 => ?_)
    · refine bg_aload_n C d_et_put_12 rfl rfl ?_
      refine bg_dup C d_et_put_13 rfl ?_
      refine bq_get0 C cf_et 3 3 rfl rfl (by decide) rfl tw_145 d_et_put_14 (fun v3 e3 => ?_)
      refine bg_iload C d_et_put_17 rfl ?_
      refine bg_if_ne0 (tgt := 26) C d_et_put_19 (by decide) ?_ ?_
      · refine bg_iconst C d_et_put_26 ?_
        refine bg_aload_n C d_et_put_27 rfl rfl ?_
        refine bg_getr (i := 2) C cf_et rfl (by decide) rfl tw_142 d_et_put_28 ?_
        refine bg_iload_n C d_et_put_31 rfl rfl ?_
        refine bq_iald0 C rfl (by omega) (by omega) d_et_put_32 (fun v5 e5 => ?_)
        refine bg_if_ne0 (tgt := 40) C d_et_put_33 (by decide) ?_ ?_
        · refine bg_iconst C d_et_put_40 ?_
          refine bg_isub C d_et_put_41 ?_
          refine bg_iadd C d_et_put_42 ?_
          refine bq_put0 C cf_et hI 3 3 rfl rfl (by decide) rfl (by decide) rfl rfl rfl tw_145 d_et_put_43 (fun w7 hI7 e7 => ?_)
          refine bg_aload_n C d_et_put_46 rfl rfl ?_
          refine bg_getr (i := 0) C cf_et rfl (by decide) rfl tw_136 d_et_put_47 ?_
          refine bg_iload_n C d_et_put_50 rfl rfl ?_
          refine bg_iload_n C d_et_put_51 rfl rfl ?_
          refine bq_iast C hI7 rfl (by decide) rfl (by omega) (by omega) (by omega) (by omega) d_et_put_52 (fun w8 hI8 e8 => ?_)
          refine bg_aload_n C d_et_put_53 rfl rfl ?_
          refine bg_getr (i := 1) C cf_et rfl (by decide) rfl tw_139 d_et_put_54 ?_
          refine bg_iload_n C d_et_put_57 rfl rfl ?_
          refine bg_iload_n C d_et_put_58 rfl rfl ?_
          refine bq_iast C hI8 rfl (by decide) rfl (by omega) (by omega) (by omega) (by omega) d_et_put_59 (fun w9 hI9 e9 => ?_)
          refine bg_aload_n C d_et_put_60 rfl rfl ?_
          refine bg_getr (i := 2) C cf_et rfl (by decide) rfl tw_142 d_et_put_61 ?_
          refine bg_iload_n C d_et_put_64 rfl rfl ?_
          refine bg_iload C d_et_put_65 rfl ?_
          refine bq_iast0 C hI9 rfl (by decide) rfl (by omega) (by omega) d_et_put_67 (fun w10 hI10 e10 => ?_)
          exact bg_ret C d_et_put_68 (fun h => by cases h) rfl (Nat.zero_le _) (Nat.zero_le _) ⟨rfl, hI10⟩
        · refine bg_iconst C d_et_put_36 ?_
          refine bg_goto (l := 41) C d_et_put_37 (by decide) ?_
          refine bg_isub C d_et_put_41 ?_
          refine bg_iadd C d_et_put_42 ?_
          refine bq_put0 C cf_et hI 3 3 rfl rfl (by decide) rfl (by decide) rfl rfl rfl tw_145 d_et_put_43 (fun w11 hI11 e11 => ?_)
          refine bg_aload_n C d_et_put_46 rfl rfl ?_
          refine bg_getr (i := 0) C cf_et rfl (by decide) rfl tw_136 d_et_put_47 ?_
          refine bg_iload_n C d_et_put_50 rfl rfl ?_
          refine bg_iload_n C d_et_put_51 rfl rfl ?_
          refine bq_iast C hI11 rfl (by decide) rfl (by omega) (by omega) (by omega) (by omega) d_et_put_52 (fun w12 hI12 e12 => ?_)
          refine bg_aload_n C d_et_put_53 rfl rfl ?_
          refine bg_getr (i := 1) C cf_et rfl (by decide) rfl tw_139 d_et_put_54 ?_
          refine bg_iload_n C d_et_put_57 rfl rfl ?_
          refine bg_iload_n C d_et_put_58 rfl rfl ?_
          refine bq_iast C hI12 rfl (by decide) rfl (by omega) (by omega) (by omega) (by omega) d_et_put_59 (fun w13 hI13 e13 => ?_)
          refine bg_aload_n C d_et_put_60 rfl rfl ?_
          refine bg_getr (i := 2) C cf_et rfl (by decide) rfl tw_142 d_et_put_61 ?_
          refine bg_iload_n C d_et_put_64 rfl rfl ?_
          refine bg_iload C d_et_put_65 rfl ?_
          refine bq_iast0 C hI13 rfl (by decide) rfl (by omega) (by omega) d_et_put_67 (fun w14 hI14 e14 => ?_)
          exact bg_ret C d_et_put_68 (fun h => by cases h) rfl (Nat.zero_le _) (Nat.zero_le _) ⟨rfl, hI14⟩
      · refine bg_iconst C d_et_put_22 ?_
        refine bg_goto (l := 27) C d_et_put_23 (by decide) ?_
        refine bg_aload_n C d_et_put_27 rfl rfl ?_
        refine bg_getr (i := 2) C cf_et rfl (by decide) rfl tw_142 d_et_put_28 ?_
        refine bg_iload_n C d_et_put_31 rfl rfl ?_
        refine bq_iald0 C rfl (by omega) (by omega) d_et_put_32 (fun v15 e15 => ?_)
        refine bg_if_ne0 (tgt := 40) C d_et_put_33 (by decide) ?_ ?_
        · refine bg_iconst C d_et_put_40 ?_
          refine bg_isub C d_et_put_41 ?_
          refine bg_iadd C d_et_put_42 ?_
          refine bq_put0 C cf_et hI 3 3 rfl rfl (by decide) rfl (by decide) rfl rfl rfl tw_145 d_et_put_43 (fun w17 hI17 e17 => ?_)
          refine bg_aload_n C d_et_put_46 rfl rfl ?_
          refine bg_getr (i := 0) C cf_et rfl (by decide) rfl tw_136 d_et_put_47 ?_
          refine bg_iload_n C d_et_put_50 rfl rfl ?_
          refine bg_iload_n C d_et_put_51 rfl rfl ?_
          refine bq_iast C hI17 rfl (by decide) rfl (by omega) (by omega) (by omega) (by omega) d_et_put_52 (fun w18 hI18 e18 => ?_)
          refine bg_aload_n C d_et_put_53 rfl rfl ?_
          refine bg_getr (i := 1) C cf_et rfl (by decide) rfl tw_139 d_et_put_54 ?_
          refine bg_iload_n C d_et_put_57 rfl rfl ?_
          refine bg_iload_n C d_et_put_58 rfl rfl ?_
          refine bq_iast C hI18 rfl (by decide) rfl (by omega) (by omega) (by omega) (by omega) d_et_put_59 (fun w19 hI19 e19 => ?_)
          refine bg_aload_n C d_et_put_60 rfl rfl ?_
          refine bg_getr (i := 2) C cf_et rfl (by decide) rfl tw_142 d_et_put_61 ?_
          refine bg_iload_n C d_et_put_64 rfl rfl ?_
          refine bg_iload C d_et_put_65 rfl ?_
          refine bq_iast0 C hI19 rfl (by decide) rfl (by omega) (by omega) d_et_put_67 (fun w20 hI20 e20 => ?_)
          exact bg_ret C d_et_put_68 (fun h => by cases h) rfl (Nat.zero_le _) (Nat.zero_le _) ⟨rfl, hI20⟩
        · refine bg_iconst C d_et_put_36 ?_
          refine bg_goto (l := 41) C d_et_put_37 (by decide) ?_
          refine bg_isub C d_et_put_41 ?_
          refine bg_iadd C d_et_put_42 ?_
          refine bq_put0 C cf_et hI 3 3 rfl rfl (by decide) rfl (by decide) rfl rfl rfl tw_145 d_et_put_43 (fun w21 hI21 e21 => ?_)
          refine bg_aload_n C d_et_put_46 rfl rfl ?_
          refine bg_getr (i := 0) C cf_et rfl (by decide) rfl tw_136 d_et_put_47 ?_
          refine bg_iload_n C d_et_put_50 rfl rfl ?_
          refine bg_iload_n C d_et_put_51 rfl rfl ?_
          refine bq_iast C hI21 rfl (by decide) rfl (by omega) (by omega) (by omega) (by omega) d_et_put_52 (fun w22 hI22 e22 => ?_)
          refine bg_aload_n C d_et_put_53 rfl rfl ?_
          refine bg_getr (i := 1) C cf_et rfl (by decide) rfl tw_139 d_et_put_54 ?_
          refine bg_iload_n C d_et_put_57 rfl rfl ?_
          refine bg_iload_n C d_et_put_58 rfl rfl ?_
          refine bq_iast C hI22 rfl (by decide) rfl (by omega) (by omega) (by omega) (by omega) d_et_put_59 (fun w23 hI23 e23 => ?_)
          refine bg_aload_n C d_et_put_60 rfl rfl ?_
          refine bg_getr (i := 2) C cf_et rfl (by decide) rfl tw_142 d_et_put_61 ?_
          refine bg_iload_n C d_et_put_64 rfl rfl ?_
          refine bg_iload C d_et_put_65 rfl ?_
          refine bq_iast0 C hI23 rfl (by decide) rfl (by omega) (by omega) d_et_put_67 (fun w24 hI24 e24 => ?_)
          exact bg_ret C d_et_put_68 (fun h => by cases h) rfl (Nat.zero_le _) (Nat.zero_le _) ⟨rfl, hI24⟩
    · exact bg_ret C d_et_put_11 (fun h => by cases h) rfl (Nat.zero_le _) (Nat.zero_le _) ⟨rfl, hI⟩
def rm_et_put_hm : Room := { frames := 0, cells := 0, slots := 0, locals := 0 }
set_option maxRecDepth 20000 in
set_option maxHeartbeats 4000000 in
theorem m_et_put_hm {G : bgGl} (hG : bgOk G) {w0 : bgW} (hw : bgN w0) {e f t x : Int} (z0 : -2147483648 ≤ e) (z1 : e ≤ 2147483647) (z2 : 0 ≤ f) (z3 : f ≤ 63) (z4 : 0 ≤ t) (z5 : t ≤ 63) : bgM G false 0 0 y_et_put (.code y_et_put co_et_put 5 none) rm_et_put_hm [br 10, bi e, bi f, bi t, bi x] w0 (bgPv (fun w' => bgRel w0 w')) := by
  refine bg_met hG (by decide +kernel) (bg_cat rfl) (Nat.le_of_ble_eq_true rfl) ?_
  intro K hK hR hex C
  subst hK
  have hI := bgRel.rfl hw
  show bgX K true 0 0 _ w0 0 [some (br 10), some (bi e), some (bi f), some (bi t), some (bi x)] []
  refine bg_iload_n C d_et_put_0 rfl rfl ?_
  refine bg_if_lt (tgt := 11) C d_et_put_1 (by decide) ⟨by omega, by omega⟩ (fun h1 => ?_) (fun h1 => ?_)
  · exact bg_ret C d_et_put_11 (fun h => by cases h) rfl (Nat.zero_le _) (Nat.zero_le _) ⟨rfl, hI⟩
  · refine bg_iload_n C d_et_put_4 rfl rfl ?_
    refine bg_sipush C d_et_put_5 (by decide +kernel) ?_
    refine bg_icmp_lt (tgt := 12) C d_et_put_8 (by decide) ⟨by omega, by omega⟩ ⟨by omega, by omega⟩ (fun h2 => ?_) (fun h2 => ?_)
    · refine bg_aload_n C d_et_put_12 rfl rfl ?_
      refine bg_dup C d_et_put_13 rfl ?_
      refine bq_get0 C cf_et 3 3 rfl rfl (by decide) rfl tw_145 d_et_put_14 (fun v3 e3 => ?_)
      refine bg_iload C d_et_put_17 rfl ?_
      refine bg_if_ne0 (tgt := 26) C d_et_put_19 (by decide) ?_ ?_
      · refine bg_iconst C d_et_put_26 ?_
        refine bg_aload_n C d_et_put_27 rfl rfl ?_
        refine bg_getr (i := 2) C cf_et rfl (by decide) rfl tw_142 d_et_put_28 ?_
        refine bg_iload_n C d_et_put_31 rfl rfl ?_
        refine bq_iald0 C rfl (by omega) (by omega) d_et_put_32 (fun v5 e5 => ?_)
        refine bg_if_ne0 (tgt := 40) C d_et_put_33 (by decide) ?_ ?_
        · refine bg_iconst C d_et_put_40 ?_
          refine bg_isub C d_et_put_41 ?_
          refine bg_iadd C d_et_put_42 ?_
          refine bq_put0 C cf_et hI 3 3 rfl rfl (by decide) rfl (by decide) rfl rfl rfl tw_145 d_et_put_43 (fun w7 hI7 e7 => ?_)
          refine bg_aload_n C d_et_put_46 rfl rfl ?_
          refine bg_getr (i := 0) C cf_et rfl (by decide) rfl tw_136 d_et_put_47 ?_
          refine bg_iload_n C d_et_put_50 rfl rfl ?_
          refine bg_iload_n C d_et_put_51 rfl rfl ?_
          refine bq_iast C hI7 rfl (by decide) rfl (by omega) (by omega) (by omega) (by omega) d_et_put_52 (fun w8 hI8 e8 => ?_)
          refine bg_aload_n C d_et_put_53 rfl rfl ?_
          refine bg_getr (i := 1) C cf_et rfl (by decide) rfl tw_139 d_et_put_54 ?_
          refine bg_iload_n C d_et_put_57 rfl rfl ?_
          refine bg_iload_n C d_et_put_58 rfl rfl ?_
          refine bq_iast C hI8 rfl (by decide) rfl (by omega) (by omega) (by omega) (by omega) d_et_put_59 (fun w9 hI9 e9 => ?_)
          refine bg_aload_n C d_et_put_60 rfl rfl ?_
          refine bg_getr (i := 2) C cf_et rfl (by decide) rfl tw_142 d_et_put_61 ?_
          refine bg_iload_n C d_et_put_64 rfl rfl ?_
          refine bg_iload C d_et_put_65 rfl ?_
          refine bq_iast0 C hI9 rfl (by decide) rfl (by omega) (by omega) d_et_put_67 (fun w10 hI10 e10 => ?_)
          exact bg_ret C d_et_put_68 (fun h => by cases h) rfl (Nat.zero_le _) (Nat.zero_le _) ⟨rfl, hI10⟩
        · refine bg_iconst C d_et_put_36 ?_
          refine bg_goto (l := 41) C d_et_put_37 (by decide) ?_
          refine bg_isub C d_et_put_41 ?_
          refine bg_iadd C d_et_put_42 ?_
          refine bq_put0 C cf_et hI 3 3 rfl rfl (by decide) rfl (by decide) rfl rfl rfl tw_145 d_et_put_43 (fun w11 hI11 e11 => ?_)
          refine bg_aload_n C d_et_put_46 rfl rfl ?_
          refine bg_getr (i := 0) C cf_et rfl (by decide) rfl tw_136 d_et_put_47 ?_
          refine bg_iload_n C d_et_put_50 rfl rfl ?_
          refine bg_iload_n C d_et_put_51 rfl rfl ?_
          refine bq_iast C hI11 rfl (by decide) rfl (by omega) (by omega) (by omega) (by omega) d_et_put_52 (fun w12 hI12 e12 => ?_)
          refine bg_aload_n C d_et_put_53 rfl rfl ?_
          refine bg_getr (i := 1) C cf_et rfl (by decide) rfl tw_139 d_et_put_54 ?_
          refine bg_iload_n C d_et_put_57 rfl rfl ?_
          refine bg_iload_n C d_et_put_58 rfl rfl ?_
          refine bq_iast C hI12 rfl (by decide) rfl (by omega) (by omega) (by omega) (by omega) d_et_put_59 (fun w13 hI13 e13 => ?_)
          refine bg_aload_n C d_et_put_60 rfl rfl ?_
          refine bg_getr (i := 2) C cf_et rfl (by decide) rfl tw_142 d_et_put_61 ?_
          refine bg_iload_n C d_et_put_64 rfl rfl ?_
          refine bg_iload C d_et_put_65 rfl ?_
          refine bq_iast0 C hI13 rfl (by decide) rfl (by omega) (by omega) d_et_put_67 (fun w14 hI14 e14 => ?_)
          exact bg_ret C d_et_put_68 (fun h => by cases h) rfl (Nat.zero_le _) (Nat.zero_le _) ⟨rfl, hI14⟩
      · refine bg_iconst C d_et_put_22 ?_
        refine bg_goto (l := 27) C d_et_put_23 (by decide) ?_
        refine bg_aload_n C d_et_put_27 rfl rfl ?_
        refine bg_getr (i := 2) C cf_et rfl (by decide) rfl tw_142 d_et_put_28 ?_
        refine bg_iload_n C d_et_put_31 rfl rfl ?_
        refine bq_iald0 C rfl (by omega) (by omega) d_et_put_32 (fun v15 e15 => ?_)
        refine bg_if_ne0 (tgt := 40) C d_et_put_33 (by decide) ?_ ?_
        · refine bg_iconst C d_et_put_40 ?_
          refine bg_isub C d_et_put_41 ?_
          refine bg_iadd C d_et_put_42 ?_
          refine bq_put0 C cf_et hI 3 3 rfl rfl (by decide) rfl (by decide) rfl rfl rfl tw_145 d_et_put_43 (fun w17 hI17 e17 => ?_)
          refine bg_aload_n C d_et_put_46 rfl rfl ?_
          refine bg_getr (i := 0) C cf_et rfl (by decide) rfl tw_136 d_et_put_47 ?_
          refine bg_iload_n C d_et_put_50 rfl rfl ?_
          refine bg_iload_n C d_et_put_51 rfl rfl ?_
          refine bq_iast C hI17 rfl (by decide) rfl (by omega) (by omega) (by omega) (by omega) d_et_put_52 (fun w18 hI18 e18 => ?_)
          refine bg_aload_n C d_et_put_53 rfl rfl ?_
          refine bg_getr (i := 1) C cf_et rfl (by decide) rfl tw_139 d_et_put_54 ?_
          refine bg_iload_n C d_et_put_57 rfl rfl ?_
          refine bg_iload_n C d_et_put_58 rfl rfl ?_
          refine bq_iast C hI18 rfl (by decide) rfl (by omega) (by omega) (by omega) (by omega) d_et_put_59 (fun w19 hI19 e19 => ?_)
          refine bg_aload_n C d_et_put_60 rfl rfl ?_
          refine bg_getr (i := 2) C cf_et rfl (by decide) rfl tw_142 d_et_put_61 ?_
          refine bg_iload_n C d_et_put_64 rfl rfl ?_
          refine bg_iload C d_et_put_65 rfl ?_
          refine bq_iast0 C hI19 rfl (by decide) rfl (by omega) (by omega) d_et_put_67 (fun w20 hI20 e20 => ?_)
          exact bg_ret C d_et_put_68 (fun h => by cases h) rfl (Nat.zero_le _) (Nat.zero_le _) ⟨rfl, hI20⟩
        · refine bg_iconst C d_et_put_36 ?_
          refine bg_goto (l := 41) C d_et_put_37 (by decide) ?_
          refine bg_isub C d_et_put_41 ?_
          refine bg_iadd C d_et_put_42 ?_
          refine bq_put0 C cf_et hI 3 3 rfl rfl (by decide) rfl (by decide) rfl rfl rfl tw_145 d_et_put_43 (fun w21 hI21 e21 => ?_)
          refine bg_aload_n C d_et_put_46 rfl rfl ?_
          refine bg_getr (i := 0) C cf_et rfl (by decide) rfl tw_136 d_et_put_47 ?_
          refine bg_iload_n C d_et_put_50 rfl rfl ?_
          refine bg_iload_n C d_et_put_51 rfl rfl ?_
          refine bq_iast C hI21 rfl (by decide) rfl (by omega) (by omega) (by omega) (by omega) d_et_put_52 (fun w22 hI22 e22 => ?_)
          refine bg_aload_n C d_et_put_53 rfl rfl ?_
          refine bg_getr (i := 1) C cf_et rfl (by decide) rfl tw_139 d_et_put_54 ?_
          refine bg_iload_n C d_et_put_57 rfl rfl ?_
          refine bg_iload_n C d_et_put_58 rfl rfl ?_
          refine bq_iast C hI22 rfl (by decide) rfl (by omega) (by omega) (by omega) (by omega) d_et_put_59 (fun w23 hI23 e23 => ?_)
          refine bg_aload_n C d_et_put_60 rfl rfl ?_
          refine bg_getr (i := 2) C cf_et rfl (by decide) rfl tw_142 d_et_put_61 ?_
          refine bg_iload_n C d_et_put_64 rfl rfl ?_
          refine bg_iload C d_et_put_65 rfl ?_
          refine bq_iast0 C hI23 rfl (by decide) rfl (by omega) (by omega) d_et_put_67 (fun w24 hI24 e24 => ?_)
          exact bg_ret C d_et_put_68 (fun h => by cases h) rfl (Nat.zero_le _) (Nat.zero_le _) ⟨rfl, hI24⟩
    · exact bg_ret C d_et_put_11 (fun h => by cases h) rfl (Nat.zero_le _) (Nat.zero_le _) ⟨rfl, hI⟩
def rm_ja_fill_vsw : Room := { frames := 0, cells := 0, slots := 0, locals := 0 }
set_option maxRecDepth 20000 in
set_option maxHeartbeats 4000000 in
theorem m_ja_fill_vsw {G : bgGl} (hG : bgOk G) {w0 : bgW} (hw : bgN w0) {x : Int} : bgM G false 0 0 y_ja_fill (.code y_ja_fill co_ja_fill 4 none) rm_ja_fill_vsw [br 17, bi x] w0 (bgPv (fun w' => bgRel w0 w')) := by
  refine bg_met hG (by decide +kernel) (bg_cat rfl) (Nat.le_of_ble_eq_true rfl) ?_
  intro K hK hR hex C
  subst hK
  have hI := bgRel.rfl hw
  show bgX K true 0 0 _ w0 0 [some (br 17), some (bi x), none, none] []
  refine bg_iconst C d_ja_fill_0 ?_
  refine bg_istore_n C d_ja_fill_1 rfl (Nat.le_of_ble_eq_true rfl) ?_
  refine bg_aload_n C d_ja_fill_2 rfl rfl ?_
  refine bg_alen (v := 200) C rfl rfl d_ja_fill_3 ?_
  refine bg_istore_n C d_ja_fill_4 rfl (Nat.le_of_ble_eq_true rfl) ?_
  refine bg_weak ?_
  refine bg_loop (α := bgW × Int) (fun a => (200 - a.2).toNat) (fun a => bgRel w0 a.1 ∧ 0 ≤ a.2 ∧ a.2 ≤ 200) (fun a => (a.1, [some (br 17), some (bi x), some (bi a.2), some (bi 200)], [])) ?_ (w0, 0) ⟨hI, by (try dsimp only) <;> omega, by (try dsimp only) <;> omega⟩
  rintro ⟨w1, i1⟩ ⟨hI1, q1_0, q1_1⟩ ih5
  try dsimp only at ih5
  try dsimp only at q1_0
  try dsimp only at q1_1
  try dsimp only
  refine bg_iload_n C d_ja_fill_5 rfl rfl ?_
  refine bg_iload_n C d_ja_fill_6 rfl rfl ?_
  refine bg_icmp_ge (tgt := 20) C d_ja_fill_7 (by decide) ⟨by omega, by omega⟩ ⟨by omega, by omega⟩ (fun h2 => ?_) (fun h2 => ?_)
  · exact bg_ret C d_ja_fill_20 (fun h => by cases h) rfl (Nat.zero_le _) (Nat.zero_le _) ⟨rfl, hI1⟩
  · refine bg_aload_n C d_ja_fill_10 rfl rfl ?_
    refine bg_iload_n C d_ja_fill_11 rfl rfl ?_
    refine bg_iload_n C d_ja_fill_12 rfl rfl ?_
    refine bq_iast0 C hI1 rfl (by decide) rfl (by omega) (by omega) d_ja_fill_13 (fun w3 hI3 e3 => ?_)
    refine bg_iinc C d_ja_fill_14 rfl ?_
    refine bg_goto (l := 5) C d_ja_fill_17 (by decide) ?_
    exact ih5 (w3, (i1 + 1)) ⟨hI3, by (try dsimp only) <;> omega, by (try dsimp only) <;> omega⟩ (by (try dsimp only) <;> omega)
def rm_ja_fill_wyd : Room := { frames := 0, cells := 0, slots := 0, locals := 0 }
set_option maxRecDepth 20000 in
set_option maxHeartbeats 4000000 in
theorem m_ja_fill_wyd {G : bgGl} (hG : bgOk G) {w0 : bgW} (hw : bgN w0) {x : Int} : bgM G false 0 0 y_ja_fill (.code y_ja_fill co_ja_fill 4 none) rm_ja_fill_wyd [br 24, bi x] w0 (bgPv (fun w' => bgRel w0 w')) := by
  refine bg_met hG (by decide +kernel) (bg_cat rfl) (Nat.le_of_ble_eq_true rfl) ?_
  intro K hK hR hex C
  subst hK
  have hI := bgRel.rfl hw
  show bgX K true 0 0 _ w0 0 [some (br 24), some (bi x), none, none] []
  refine bg_iconst C d_ja_fill_0 ?_
  refine bg_istore_n C d_ja_fill_1 rfl (Nat.le_of_ble_eq_true rfl) ?_
  refine bg_aload_n C d_ja_fill_2 rfl rfl ?_
  refine bg_alen (v := 64) C rfl rfl d_ja_fill_3 ?_
  refine bg_istore_n C d_ja_fill_4 rfl (Nat.le_of_ble_eq_true rfl) ?_
  refine bg_weak ?_
  refine bg_loop (α := bgW × Int) (fun a => (64 - a.2).toNat) (fun a => bgRel w0 a.1 ∧ 0 ≤ a.2 ∧ a.2 ≤ 64) (fun a => (a.1, [some (br 24), some (bi x), some (bi a.2), some (bi 64)], [])) ?_ (w0, 0) ⟨hI, by (try dsimp only) <;> omega, by (try dsimp only) <;> omega⟩
  rintro ⟨w1, i1⟩ ⟨hI1, q1_0, q1_1⟩ ih5
  try dsimp only at ih5
  try dsimp only at q1_0
  try dsimp only at q1_1
  try dsimp only
  refine bg_iload_n C d_ja_fill_5 rfl rfl ?_
  refine bg_iload_n C d_ja_fill_6 rfl rfl ?_
  refine bg_icmp_ge (tgt := 20) C d_ja_fill_7 (by decide) ⟨by omega, by omega⟩ ⟨by omega, by omega⟩ (fun h2 => ?_) (fun h2 => ?_)
  · exact bg_ret C d_ja_fill_20 (fun h => by cases h) rfl (Nat.zero_le _) (Nat.zero_le _) ⟨rfl, hI1⟩
  · refine bg_aload_n C d_ja_fill_10 rfl rfl ?_
    refine bg_iload_n C d_ja_fill_11 rfl rfl ?_
    refine bg_iload_n C d_ja_fill_12 rfl rfl ?_
    refine bq_iast0 C hI1 rfl (by decide) rfl (by omega) (by omega) d_ja_fill_13 (fun w3 hI3 e3 => ?_)
    refine bg_iinc C d_ja_fill_14 rfl ?_
    refine bg_goto (l := 5) C d_ja_fill_17 (by decide) ?_
    exact ih5 (w3, (i1 + 1)) ⟨hI3, by (try dsimp only) <;> omega, by (try dsimp only) <;> omega⟩ (by (try dsimp only) <;> omega)
def rm_ja_fill_wyp : Room := { frames := 0, cells := 0, slots := 0, locals := 0 }
set_option maxRecDepth 20000 in
set_option maxHeartbeats 4000000 in
theorem m_ja_fill_wyp {G : bgGl} (hG : bgOk G) {w0 : bgW} (hw : bgN w0) {x : Int} : bgM G false 0 0 y_ja_fill (.code y_ja_fill co_ja_fill 4 none) rm_ja_fill_wyp [br 25, bi x] w0 (bgPv (fun w' => bgRel w0 w')) := by
  refine bg_met hG (by decide +kernel) (bg_cat rfl) (Nat.le_of_ble_eq_true rfl) ?_
  intro K hK hR hex C
  subst hK
  have hI := bgRel.rfl hw
  show bgX K true 0 0 _ w0 0 [some (br 25), some (bi x), none, none] []
  refine bg_iconst C d_ja_fill_0 ?_
  refine bg_istore_n C d_ja_fill_1 rfl (Nat.le_of_ble_eq_true rfl) ?_
  refine bg_aload_n C d_ja_fill_2 rfl rfl ?_
  refine bg_alen (v := 64) C rfl rfl d_ja_fill_3 ?_
  refine bg_istore_n C d_ja_fill_4 rfl (Nat.le_of_ble_eq_true rfl) ?_
  refine bg_weak ?_
  refine bg_loop (α := bgW × Int) (fun a => (64 - a.2).toNat) (fun a => bgRel w0 a.1 ∧ 0 ≤ a.2 ∧ a.2 ≤ 64) (fun a => (a.1, [some (br 25), some (bi x), some (bi a.2), some (bi 64)], [])) ?_ (w0, 0) ⟨hI, by (try dsimp only) <;> omega, by (try dsimp only) <;> omega⟩
  rintro ⟨w1, i1⟩ ⟨hI1, q1_0, q1_1⟩ ih5
  try dsimp only at ih5
  try dsimp only at q1_0
  try dsimp only at q1_1
  try dsimp only
  refine bg_iload_n C d_ja_fill_5 rfl rfl ?_
  refine bg_iload_n C d_ja_fill_6 rfl rfl ?_
  refine bg_icmp_ge (tgt := 20) C d_ja_fill_7 (by decide) ⟨by omega, by omega⟩ ⟨by omega, by omega⟩ (fun h2 => ?_) (fun h2 => ?_)
  · exact bg_ret C d_ja_fill_20 (fun h => by cases h) rfl (Nat.zero_le _) (Nat.zero_le _) ⟨rfl, hI1⟩
  · refine bg_aload_n C d_ja_fill_10 rfl rfl ?_
    refine bg_iload_n C d_ja_fill_11 rfl rfl ?_
    refine bg_iload_n C d_ja_fill_12 rfl rfl ?_
    refine bq_iast0 C hI1 rfl (by decide) rfl (by omega) (by omega) d_ja_fill_13 (fun w3 hI3 e3 => ?_)
    refine bg_iinc C d_ja_fill_14 rfl ?_
    refine bg_goto (l := 5) C d_ja_fill_17 (by decide) ?_
    exact ih5 (w3, (i1 + 1)) ⟨hI3, by (try dsimp only) <;> omega, by (try dsimp only) <;> omega⟩ (by (try dsimp only) <;> omega)
def rm_et_erase : Room := { frames := 1, cells := 0, slots := 0, locals := 23 }
set_option maxRecDepth 20000 in
set_option maxHeartbeats 4000000 in
theorem m_et_erase {G : bgGl} (hG : bgOk G) {w0 : bgW} (hw : bgN w0) : bgM G false 0 0 y_et_erase (.code y_et_erase co_et_erase 1 none) rm_et_erase [br 14] w0 (bgPv (fun w' => bgRel w0 w')) := by
  refine bg_met hG (by decide +kernel) (bg_cat rfl) (Nat.le_of_ble_eq_true rfl) ?_
  intro K hK hR hex C
  subst hK
  have hI := bgRel.rfl hw
  show bgX K true 0 0 _ w0 0 [some (br 14)] []
  refine bg_aload_n C d_et_erase_0 rfl rfl ?_
  refine bg_getr (i := 2) C cf_et rfl (by decide) rfl tw_142 d_et_erase_1 ?_
  refine bg_iconst C d_et_erase_4 ?_
  refine bg_cv C (m_ja_fill_vsw hG hI.1) (bg_invS C tw_252 tt_ja_fill tc_ja_fill tw_43 ⟨by decide, by decide⟩ (nA := 2) (by decide +kernel) rfl d_et_erase_5 rfl) rfl (by rw [hR]; exact ⟨by decide, by decide⟩) (by rw [hR]; exact ⟨by decide, by decide⟩) (Nat.le_of_ble_eq_true rfl) rfl (fun w1 p1 => ?_)
  have j1 := p1
  have hI1 := hI.trans j1
  refine bg_aload_n C d_et_erase_8 rfl rfl ?_
  refine bg_iconst C d_et_erase_9 ?_
  refine bq_put0 C cf_et hI1 3 3 rfl rfl (by decide) rfl (by decide) rfl rfl rfl tw_145 d_et_erase_10 (fun w2 hI2 e2 => ?_)
  exact bg_ret C d_et_erase_13 (fun h => by cases h) rfl (Nat.zero_le _) (Nat.zero_le _) ⟨rfl, hI2⟩
def rm_et_copyBlock : Room := { frames := 1, cells := 0, slots := 0, locals := 24 }
set_option maxRecDepth 20000 in
set_option maxHeartbeats 4000000 in
theorem m_et_copyBlock {G : bgGl} (hG : bgOk G) {w0 : bgW} (hw : bgN w0) {k : Int} (z0 : 0 ≤ k) (z1 : k ≤ 49) : bgM G false 0 0 y_et_copyBlock (.code y_et_copyBlock co_et_copyBlock 5 none) rm_et_copyBlock [br 10, br 14, bi k] w0 (bgPv (fun w' => bgRel w0 w')) := by
  refine bg_met hG (by decide +kernel) (bg_cat rfl) (Nat.le_of_ble_eq_true rfl) ?_
  intro K hK hR hex C
  subst hK
  have hI := bgRel.rfl hw
  show bgX K true 0 0 _ w0 0 [some (br 10), some (br 14), some (bi k), none, none] []
  refine bg_iload_n C d_et_copyBlock_0 rfl rfl ?_
  refine bg_iconst C d_et_copyBlock_1 ?_
  refine bg_imul C d_et_copyBlock_2 ?_
  refine bg_istore_n C d_et_copyBlock_3 rfl (Nat.le_of_ble_eq_true rfl) ?_
  refine bg_iload_n C d_et_copyBlock_4 rfl rfl ?_
  refine bg_istore C d_et_copyBlock_5 (Nat.le_of_ble_eq_true rfl) ?_
  refine bg_weak ?_
  refine bg_loop (α := bgW × Int) (fun a => (k * 4 + 4 - a.2).toNat) (fun a => bgRel w0 a.1 ∧ k * 4 ≤ a.2 ∧ a.2 ≤ k * 4 + 4) (fun a => (a.1, [some (br 10), some (br 14), some (bi k), some (bi (k * 4)), some (bi a.2)], [])) ?_ (w0, (k * 4)) ⟨hI, by (try dsimp only) <;> omega, by (try dsimp only) <;> omega⟩
  rintro ⟨w1, i1⟩ ⟨hI1, q1_0, q1_1⟩ ih7
  try dsimp only at ih7
  try dsimp only at q1_0
  try dsimp only at q1_1
  try dsimp only
  refine bg_iload C d_et_copyBlock_7 rfl ?_
  refine bg_iload_n C d_et_copyBlock_9 rfl rfl ?_
  refine bg_iconst C d_et_copyBlock_10 ?_
  refine bg_iadd C d_et_copyBlock_11 ?_
  refine bg_icmp_ge (tgt := 61) C d_et_copyBlock_12 (by decide) ⟨by omega, by omega⟩ ⟨by omega, by omega⟩ (fun h2 => ?_) (fun h2 => ?_)
  · exact bg_ret C d_et_copyBlock_61 (fun h => by cases h) rfl (Nat.zero_le _) (Nat.zero_le _) ⟨rfl, hI1⟩
  · refine bg_iload C d_et_copyBlock_15 rfl ?_
    refine bg_if_lt (tgt := 55) C d_et_copyBlock_17 (by decide) ⟨by omega, by omega⟩ (fun h3 => ?_) (fun h3 => ?_)
    · refine bg_iinc C d_et_copyBlock_55 rfl ?_
      refine bg_goto (l := 7) C d_et_copyBlock_58 (by decide) ?_
      exact ih7 (w1, (i1 + 1)) ⟨hI1, by (try dsimp only) <;> omega, by (try dsimp only) <;> omega⟩ (by (try dsimp only) <;> omega)
    · refine bg_iload C d_et_copyBlock_20 rfl ?_
      refine bg_sipush C d_et_copyBlock_22 (by decide +kernel) ?_
      refine bg_icmp_ge (tgt := 55) C d_et_copyBlock_25 (by decide) ⟨by omega, by omega⟩ ⟨by omega, by omega⟩ (fun h4 => ?_) (fun h4 => ?_)
      · refine bg_iinc C d_et_copyBlock_55 rfl ?_
        refine bg_goto (l := 7) C d_et_copyBlock_58 (by decide) ?_
        exact ih7 (w1, (i1 + 1)) ⟨hI1, by (try dsimp only) <;> omega, by (try dsimp only) <;> omega⟩ (by (try dsimp only) <;> omega)
      · refine bg_aload_n C d_et_copyBlock_28 rfl rfl ?_
        refine bg_iload C d_et_copyBlock_29 rfl ?_
        refine bg_aload_n C d_et_copyBlock_31 rfl rfl ?_
        refine bg_getr (i := 0) C cf_et rfl (by decide) rfl tw_136 d_et_copyBlock_32 ?_
        refine bg_iload C d_et_copyBlock_35 rfl ?_
        refine bq_iald C hI1 rfl (by decide) rfl (by omega) (by omega) d_et_copyBlock_37 (fun v5 e5 a5 b5 => ?_)
        refine bg_aload_n C d_et_copyBlock_38 rfl rfl ?_
        refine bg_getr (i := 1) C cf_et rfl (by decide) rfl tw_139 d_et_copyBlock_39 ?_
        refine bg_iload C d_et_copyBlock_42 rfl ?_
        refine bq_iald C hI1 rfl (by decide) rfl (by omega) (by omega) d_et_copyBlock_44 (fun v6 e6 a6 b6 => ?_)
        refine bg_aload_n C d_et_copyBlock_45 rfl rfl ?_
        refine bg_getr (i := 2) C cf_et rfl (by decide) rfl tw_142 d_et_copyBlock_46 ?_
        refine bg_iload C d_et_copyBlock_49 rfl ?_
        refine bq_iald0 C rfl (by omega) (by omega) d_et_copyBlock_51 (fun v7 e7 => ?_)
        refine bg_cv C (m_et_put_hm hG hI1.1 (by omega) (by omega) (by omega) (by omega) (by omega) (by omega)) (bg_invV C cf_et rfl tw_275 ti_et_put ts_et_put tc_et_put tw_40 ⟨by decide, by decide⟩ (nA := 4) (by decide +kernel) rfl d_et_copyBlock_52 rfl) rfl (by rw [hR]; exact ⟨by decide, by decide⟩) (by rw [hR]; exact ⟨by decide, by decide⟩) (Nat.le_of_ble_eq_true rfl) rfl (fun w8 p8 => ?_)
        have j8 := p8
        have hI8 := hI1.trans j8
        refine bg_iinc C d_et_copyBlock_55 rfl ?_
        refine bg_goto (l := 7) C d_et_copyBlock_58 (by decide) ?_
        exact ih7 (w8, (i1 + 1)) ⟨hI8, by (try dsimp only) <;> omega, by (try dsimp only) <;> omega⟩ (by (try dsimp only) <;> omega)
def rm_et_copyAll : Room := { frames := 1, cells := 0, slots := 0, locals := 60 }
set_option maxRecDepth 20000 in
set_option maxHeartbeats 4000000 in
theorem m_et_copyAll {G : bgGl} (hG : bgOk G) {w0 : bgW} (hw : bgN w0) : bgM G false 0 0 y_et_copyAll (.code y_et_copyAll co_et_copyAll 2 none) rm_et_copyAll [br 14, br 10] w0 (bgPv (fun w' => bgRel w0 w')) := by
  refine bg_met hG (by decide +kernel) (bg_cat rfl) (Nat.le_of_ble_eq_true rfl) ?_
  intro K hK hR hex C
  subst hK
  have hI := bgRel.rfl hw
  show bgX K true 0 0 _ w0 0 [some (br 14), some (br 10)] []
  refine bg_aload_n C d_et_copyAll_0 rfl rfl ?_
  refine bg_getr (i := 0) C cf_et rfl (by decide) rfl tw_136 d_et_copyAll_1 ?_
  refine bg_iconst C d_et_copyAll_4 ?_
  refine bg_aload_n C d_et_copyAll_5 rfl rfl ?_
  refine bg_getr (i := 0) C cf_et rfl (by decide) rfl tw_136 d_et_copyAll_6 ?_
  refine bg_iconst C d_et_copyAll_9 ?_
  refine bg_sipush C d_et_copyAll_10 (by decide +kernel) ?_
  refine bg_copyi C tw_313 ta_nat ta_sta ta_ini rfl rfl (by omega) (by omega) (by omega) (by omega) (by omega) rfl (by rw [hR]; decide) (by rw [hR]; exact Nat.le_of_ble_eq_true rfl) d_et_copyAll_13 (fun w1 e1 => ?_)
  have hI1 : bgRel w0 w1 := by rw [e1]; exact hI.cp (by decide) (by decide) (fun _ _ => rfl)
  refine bg_aload_n C d_et_copyAll_16 rfl rfl ?_
  refine bg_getr (i := 1) C cf_et rfl (by decide) rfl tw_139 d_et_copyAll_17 ?_
  refine bg_iconst C d_et_copyAll_20 ?_
  refine bg_aload_n C d_et_copyAll_21 rfl rfl ?_
  refine bg_getr (i := 1) C cf_et rfl (by decide) rfl tw_139 d_et_copyAll_22 ?_
  refine bg_iconst C d_et_copyAll_25 ?_
  refine bg_sipush C d_et_copyAll_26 (by decide +kernel) ?_
  refine bg_copyi C tw_313 ta_nat ta_sta ta_ini rfl rfl (by omega) (by omega) (by omega) (by omega) (by omega) rfl (by rw [hR]; decide) (by rw [hR]; exact Nat.le_of_ble_eq_true rfl) d_et_copyAll_29 (fun w2 e2 => ?_)
  have hI2 : bgRel w0 w2 := by rw [e2]; exact hI1.cp (by decide) (by decide) (fun _ _ => rfl)
  refine bg_aload_n C d_et_copyAll_32 rfl rfl ?_
  refine bg_getr (i := 2) C cf_et rfl (by decide) rfl tw_142 d_et_copyAll_33 ?_
  refine bg_iconst C d_et_copyAll_36 ?_
  refine bg_aload_n C d_et_copyAll_37 rfl rfl ?_
  refine bg_getr (i := 2) C cf_et rfl (by decide) rfl tw_142 d_et_copyAll_38 ?_
  refine bg_iconst C d_et_copyAll_41 ?_
  refine bg_sipush C d_et_copyAll_42 (by decide +kernel) ?_
  refine bg_copyi C tw_313 ta_nat ta_sta ta_ini rfl rfl (by omega) (by omega) (by omega) (by omega) (by omega) rfl (by rw [hR]; decide) (by rw [hR]; exact Nat.le_of_ble_eq_true rfl) d_et_copyAll_45 (fun w3 e3 => ?_)
  have hI3 : bgRel w0 w3 := by rw [e3]; exact hI2.cp (by decide) (by decide) (fun _ _ => rfl)
  refine bg_aload_n C d_et_copyAll_48 rfl rfl ?_
  refine bg_aload_n C d_et_copyAll_49 rfl rfl ?_
  refine bq_get0 C cf_et 3 3 rfl rfl (by decide) rfl tw_145 d_et_copyAll_50 (fun v4 e4 => ?_)
  refine bq_put0 C cf_et hI3 3 3 rfl rfl (by decide) rfl (by decide) rfl rfl rfl tw_145 d_et_copyAll_53 (fun w5 hI5 e5 => ?_)
  exact bg_ret C d_et_copyAll_56 (fun h => by cases h) rfl (Nat.zero_le _) (Nat.zero_le _) ⟨rfl, hI5⟩
end
section
def rm_op_append : Room := { frames := 0, cells := 0, slots := 0, locals := 0 }
set_option maxRecDepth 20000 in
set_option maxHeartbeats 4000000 in
theorem m_op_append {G : bgGl} (hG : bgOk G) {w0 : bgW} (hw : bgN w0) {e f t x : Int} (z0 : -1 ≤ e) (z1 : e ≤ 199) (z2 : 0 ≤ f) (z3 : f ≤ 63) (z4 : 0 ≤ t) (z5 : t ≤ 63) : bgM G false 0 0 y_op_append (.code y_op_append co_op_append 5 none) rm_op_append [br 18, bi e, bi f, bi t, bi x] w0 (bgPv (fun w' => bgRel w0 w')) := by
  refine bg_met hG (by decide +kernel) (bg_cat rfl) (Nat.le_of_ble_eq_true rfl) ?_
  intro K hK hR hex C
  subst hK
  have hI := bgRel.rfl hw
  show bgX K true 0 0 _ w0 0 [some (br 18), some (bi e), some (bi f), some (bi t), some (bi x)] []
  refine bg_aload_n C d_op_append_0 rfl rfl ?_
  refine bq_geti C cf_op hI 4 4 rfl rfl (by decide) rfl (by decide) rfl tw_116 d_op_append_1 (fun v1 e1 a1 b1 => ?_)
  refine bg_bipush C d_op_append_4 (by decide +kernel) ?_
  refine bg_icmp_lt (tgt := 10) C d_op_append_6 (by decide) ⟨by omega, by omega⟩ ⟨by omega, by omega⟩ (fun h2 => ?_) (fun h2 => ?_)
  · refine bg_aload_n C d_op_append_10 rfl rfl ?_
    refine bg_getr (i := 0) C cf_op rfl (by decide) rfl tw_112 d_op_append_11 ?_
    refine bg_aload_n C d_op_append_14 rfl rfl ?_
    refine bq_geti C cf_op hI 4 4 rfl rfl (by decide) rfl (by decide) rfl tw_116 d_op_append_15 (fun v3 e3 a3 b3 => ?_)
    refine bg_iload_n C d_op_append_18 rfl rfl ?_
    refine bq_iast C hI rfl (by decide) rfl (by omega) (by omega) (by omega) (by omega) d_op_append_19 (fun w4 hI4 e4 => ?_)
    have g4_0 : w4 18 4 = w0 18 4 := by rw [e4]; exact bgU_ne _ (by decide)
    refine bg_aload_n C d_op_append_20 rfl rfl ?_
    refine bg_getr (i := 1) C cf_op rfl (by decide) rfl tw_113 d_op_append_21 ?_
    refine bg_aload_n C d_op_append_24 rfl rfl ?_
    refine bq_geti C cf_op hI4 4 4 rfl rfl (by decide) rfl (by decide) rfl tw_116 d_op_append_25 (fun v5 e5 a5 b5 => ?_)
    refine bg_iload_n C d_op_append_28 rfl rfl ?_
    refine bq_iast C hI4 rfl (by decide) rfl (by omega) (by omega) (by omega) (by omega) d_op_append_29 (fun w6 hI6 e6 => ?_)
    have g6_0 : w6 18 4 = w4 18 4 := by rw [e6]; exact bgU_ne _ (by decide)
    refine bg_aload_n C d_op_append_30 rfl rfl ?_
    refine bg_getr (i := 2) C cf_op rfl (by decide) rfl tw_114 d_op_append_31 ?_
    refine bg_aload_n C d_op_append_34 rfl rfl ?_
    refine bq_geti C cf_op hI6 4 4 rfl rfl (by decide) rfl (by decide) rfl tw_116 d_op_append_35 (fun v7 e7 a7 b7 => ?_)
    refine bg_iload_n C d_op_append_38 rfl rfl ?_
    refine bq_iast C hI6 rfl (by decide) rfl (by omega) (by omega) (by omega) (by omega) d_op_append_39 (fun w8 hI8 e8 => ?_)
    have g8_0 : w8 18 4 = w6 18 4 := by rw [e8]; exact bgU_ne _ (by decide)
    refine bg_aload_n C d_op_append_40 rfl rfl ?_
    refine bg_getr (i := 3) C cf_op rfl (by decide) rfl tw_115 d_op_append_41 ?_
    refine bg_aload_n C d_op_append_44 rfl rfl ?_
    refine bq_geti C cf_op hI8 4 4 rfl rfl (by decide) rfl (by decide) rfl tw_116 d_op_append_45 (fun v9 e9 a9 b9 => ?_)
    refine bg_iload C d_op_append_48 rfl ?_
    refine bq_iast0 C hI8 rfl (by decide) rfl (by omega) (by omega) d_op_append_50 (fun w10 hI10 e10 => ?_)
    have g10_0 : w10 18 4 = w8 18 4 := by rw [e10]; exact bgU_ne _ (by decide)
    refine bg_aload_n C d_op_append_51 rfl rfl ?_
    refine bg_dup C d_op_append_52 rfl ?_
    refine bq_geti C cf_op hI10 4 4 rfl rfl (by decide) rfl (by decide) rfl tw_116 d_op_append_53 (fun v11 e11 a11 b11 => ?_)
    refine bg_iconst C d_op_append_56 ?_
    refine bg_iadd C d_op_append_57 ?_
    refine bq_puti C cf_op hI10 4 4 rfl rfl (by decide) rfl (by decide) rfl (by omega) (by omega) rfl (Or.inl rfl) tw_116 d_op_append_58 (fun w12 hI12 e12 => ?_)
    have g12_0 : w12 18 4 = (v11 + 1) := by rw [e12]; exact bgU_eq
    exact bg_ret C d_op_append_61 (fun h => by cases h) rfl (Nat.zero_le _) (Nat.zero_le _) ⟨rfl, hI12⟩
  · exact bg_ret C d_op_append_9 (fun h => by cases h) rfl (Nat.zero_le _) (Nat.zero_le _) ⟨rfl, hI⟩
def rm_op_copyOne : Room := { frames := 0, cells := 0, slots := 0, locals := 0 }
set_option maxRecDepth 20000 in
set_option maxHeartbeats 4000000 in
theorem m_op_copyOne {G : bgGl} (hG : bgOk G) {w0 : bgW} (hw : bgN w0) {k : Int} (z0 : -2147483648 ≤ k) (z1 : k ≤ 2147483647) : bgM G false 0 0 y_op_copyOne (.code y_op_copyOne co_op_copyOne 3 none) rm_op_copyOne [br 5, br 18, bi k] w0 (bgPv (fun w' => bgRel w0 w')) := by
  refine bg_met hG (by decide +kernel) (bg_cat rfl) (Nat.le_of_ble_eq_true rfl) ?_
  intro K hK hR hex C
  subst hK
  have hI := bgRel.rfl hw
  show bgX K true 0 0 _ w0 0 [some (br 5), some (br 18), some (bi k)] []
  refine bg_iload_n C d_op_copyOne_0 rfl rfl ?_
  refine bg_if_lt (tgt := 10) C d_op_copyOne_1 (by decide) ⟨by omega, by omega⟩ (fun h1 => ?_) (fun h1 => ?_)
  · exact bg_ret C d_op_copyOne_10 (fun h => by cases h) rfl (Nat.zero_le _) (Nat.zero_le _) ⟨rfl, hI⟩
  · refine bg_iload_n C d_op_copyOne_4 rfl rfl ?_
    refine bg_bipush C d_op_copyOne_5 (by decide +kernel) ?_
    refine bg_icmp_lt (tgt := 11) C d_op_copyOne_7 (by decide) ⟨by omega, by omega⟩ ⟨by omega, by omega⟩ (fun h2 => ?_) (fun h2 => ?_)
    · refine bg_aload_n C d_op_copyOne_11 rfl rfl ?_
      refine bg_getr (i := 0) C cf_op rfl (by decide) rfl tw_112 d_op_copyOne_12 ?_
      refine bg_iload_n C d_op_copyOne_15 rfl rfl ?_
      refine bg_aload_n C d_op_copyOne_16 rfl rfl ?_
      refine bg_getr (i := 0) C cf_op rfl (by decide) rfl tw_112 d_op_copyOne_17 ?_
      refine bg_iload_n C d_op_copyOne_20 rfl rfl ?_
      refine bq_iald C hI rfl (by decide) rfl (by omega) (by omega) d_op_copyOne_21 (fun v3 e3 a3 b3 => ?_)
      refine bq_iast C hI rfl (by decide) rfl (by omega) (by omega) (by omega) (by omega) d_op_copyOne_22 (fun w4 hI4 e4 => ?_)
      refine bg_aload_n C d_op_copyOne_23 rfl rfl ?_
      refine bg_getr (i := 1) C cf_op rfl (by decide) rfl tw_113 d_op_copyOne_24 ?_
      refine bg_iload_n C d_op_copyOne_27 rfl rfl ?_
      refine bg_aload_n C d_op_copyOne_28 rfl rfl ?_
      refine bg_getr (i := 1) C cf_op rfl (by decide) rfl tw_113 d_op_copyOne_29 ?_
      refine bg_iload_n C d_op_copyOne_32 rfl rfl ?_
      refine bq_iald C hI4 rfl (by decide) rfl (by omega) (by omega) d_op_copyOne_33 (fun v5 e5 a5 b5 => ?_)
      refine bq_iast C hI4 rfl (by decide) rfl (by omega) (by omega) (by omega) (by omega) d_op_copyOne_34 (fun w6 hI6 e6 => ?_)
      refine bg_aload_n C d_op_copyOne_35 rfl rfl ?_
      refine bg_getr (i := 2) C cf_op rfl (by decide) rfl tw_114 d_op_copyOne_36 ?_
      refine bg_iload_n C d_op_copyOne_39 rfl rfl ?_
      refine bg_aload_n C d_op_copyOne_40 rfl rfl ?_
      refine bg_getr (i := 2) C cf_op rfl (by decide) rfl tw_114 d_op_copyOne_41 ?_
      refine bg_iload_n C d_op_copyOne_44 rfl rfl ?_
      refine bq_iald C hI6 rfl (by decide) rfl (by omega) (by omega) d_op_copyOne_45 (fun v7 e7 a7 b7 => ?_)
      refine bq_iast C hI6 rfl (by decide) rfl (by omega) (by omega) (by omega) (by omega) d_op_copyOne_46 (fun w8 hI8 e8 => ?_)
      refine bg_aload_n C d_op_copyOne_47 rfl rfl ?_
      refine bg_getr (i := 3) C cf_op rfl (by decide) rfl tw_115 d_op_copyOne_48 ?_
      refine bg_iload_n C d_op_copyOne_51 rfl rfl ?_
      refine bg_aload_n C d_op_copyOne_52 rfl rfl ?_
      refine bg_getr (i := 3) C cf_op rfl (by decide) rfl tw_115 d_op_copyOne_53 ?_
      refine bg_iload_n C d_op_copyOne_56 rfl rfl ?_
      refine bq_iald0 C rfl (by omega) (by omega) d_op_copyOne_57 (fun v9 e9 => ?_)
      refine bq_iast0 C hI8 rfl (by decide) rfl (by omega) (by omega) d_op_copyOne_58 (fun w10 hI10 e10 => ?_)
      exact bg_ret C d_op_copyOne_59 (fun h => by cases h) rfl (Nat.zero_le _) (Nat.zero_le _) ⟨rfl, hI10⟩
    · exact bg_ret C d_op_copyOne_10 (fun h => by cases h) rfl (Nat.zero_le _) (Nat.zero_le _) ⟨rfl, hI⟩
def rm_op_doAll : Room := { frames := 1, cells := 0, slots := 0, locals := 24 }
set_option maxRecDepth 20000 in
set_option maxHeartbeats 4000000 in
theorem m_op_doAll {G : bgGl} (hG : bgOk G) {w0 : bgW} (hw : bgN w0) : bgM G false 0 0 y_op_doAll (.code y_op_doAll co_op_doAll 3 none) rm_op_doAll [br 5, br 14] w0 (bgPv (fun w' => bgRel w0 w')) := by
  refine bg_met hG (by decide +kernel) (bg_cat rfl) (Nat.le_of_ble_eq_true rfl) ?_
  intro K hK hR hex C
  subst hK
  have hI := bgRel.rfl hw
  show bgX K true 0 0 _ w0 0 [some (br 5), some (br 14), none] []
  refine bg_iconst C d_op_doAll_0 ?_
  refine bg_istore_n C d_op_doAll_1 rfl (Nat.le_of_ble_eq_true rfl) ?_
  refine bg_weak ?_
  refine bg_loop (α := bgW × Int) (fun a => (20 - a.2).toNat) (fun a => bgRel w0 a.1 ∧ 0 ≤ a.2 ∧ a.2 ≤ 20) (fun a => (a.1, [some (br 5), some (br 14), some (bi a.2)], [])) ?_ (w0, 0) ⟨hI, by (try dsimp only) <;> omega, by (try dsimp only) <;> omega⟩
  rintro ⟨w1, i1⟩ ⟨hI1, q1_0, q1_1⟩ ih2
  try dsimp only at ih2
  try dsimp only at q1_0
  try dsimp only at q1_1
  try dsimp only
  refine bg_iload_n C d_op_doAll_2 rfl rfl ?_
  refine bg_aload_n C d_op_doAll_3 rfl rfl ?_
  refine bq_geti C cf_op hI1 4 4 rfl rfl (by decide) rfl (by decide) rfl tw_116 d_op_doAll_4 (fun v2 e2 a2 b2 => ?_)
  refine bg_icmp_ge (tgt := 50) C d_op_doAll_7 (by decide) ⟨by omega, by omega⟩ ⟨by omega, by omega⟩ (fun h3 => ?_) (fun h3 => ?_)
  · exact bg_ret C d_op_doAll_50 (fun h => by cases h) rfl (Nat.zero_le _) (Nat.zero_le _) ⟨rfl, hI1⟩
  · refine bg_iload_n C d_op_doAll_10 rfl rfl ?_
    refine bg_bipush C d_op_doAll_11 (by decide +kernel) ?_
    refine bg_icmp_ge (tgt := 50) C d_op_doAll_13 (by decide) ⟨by omega, by omega⟩ ⟨by omega, by omega⟩ (fun h4 => ?_) (fun h4 => ?_)
    · exact bg_ret C d_op_doAll_50 (fun h => by cases h) rfl (Nat.zero_le _) (Nat.zero_le _) ⟨rfl, hI1⟩
    · refine bg_aload_n C d_op_doAll_16 rfl rfl ?_
      refine bg_aload_n C d_op_doAll_17 rfl rfl ?_
      refine bg_getr (i := 0) C cf_op rfl (by decide) rfl tw_112 d_op_doAll_18 ?_
      refine bg_iload_n C d_op_doAll_21 rfl rfl ?_
      refine bq_iald C hI1 rfl (by decide) rfl (by omega) (by omega) d_op_doAll_22 (fun v5 e5 a5 b5 => ?_)
      refine bg_aload_n C d_op_doAll_23 rfl rfl ?_
      refine bg_getr (i := 1) C cf_op rfl (by decide) rfl tw_113 d_op_doAll_24 ?_
      refine bg_iload_n C d_op_doAll_27 rfl rfl ?_
      refine bq_iald C hI1 rfl (by decide) rfl (by omega) (by omega) d_op_doAll_28 (fun v6 e6 a6 b6 => ?_)
      refine bg_aload_n C d_op_doAll_29 rfl rfl ?_
      refine bg_getr (i := 2) C cf_op rfl (by decide) rfl tw_114 d_op_doAll_30 ?_
      refine bg_iload_n C d_op_doAll_33 rfl rfl ?_
      refine bq_iald C hI1 rfl (by decide) rfl (by omega) (by omega) d_op_doAll_34 (fun v7 e7 a7 b7 => ?_)
      refine bg_aload_n C d_op_doAll_35 rfl rfl ?_
      refine bg_getr (i := 3) C cf_op rfl (by decide) rfl tw_115 d_op_doAll_36 ?_
      refine bg_iload_n C d_op_doAll_39 rfl rfl ?_
      refine bq_iald0 C rfl (by omega) (by omega) d_op_doAll_40 (fun v8 e8 => ?_)
      refine bg_cv C (m_et_put_vs hG hI1.1 (by omega) (by omega) (by omega) (by omega) (by omega) (by omega)) (bg_invV C cf_et rfl tw_318 ti_et_put ts_et_put tc_et_put tw_40 ⟨by decide, by decide⟩ (nA := 4) (by decide +kernel) rfl d_op_doAll_41 rfl) rfl (by rw [hR]; exact ⟨by decide, by decide⟩) (by rw [hR]; exact ⟨by decide, by decide⟩) (Nat.le_of_ble_eq_true rfl) rfl (fun w9 p9 => ?_)
      have j9 := p9
      have hI9 := hI1.trans j9
      refine bg_iinc C d_op_doAll_44 rfl ?_
      refine bg_goto (l := 2) C d_op_doAll_47 (by decide) ?_
      exact ih2 (w9, (i1 + 1)) ⟨hI9, by (try dsimp only) <;> omega, by (try dsimp only) <;> omega⟩ (by (try dsimp only) <;> omega)
def rm_op_areAbout : Room := { frames := 0, cells := 0, slots := 0, locals := 0 }
set_option maxRecDepth 20000 in
set_option maxHeartbeats 4000000 in
theorem m_op_areAbout {G : bgGl} (hG : bgOk G) {w0 : bgW} (hw : bgN w0) {b : Int} : bgM G true 0 0 y_op_areAbout (.code y_op_areAbout co_op_areAbout 3 (some .boolean)) rm_op_areAbout [br 5, bi b] w0 (bgPi (fun v w' => w0 = w' ∧ 0 ≤ v ∧ v ≤ 1)) := by
  refine bg_met hG (by decide +kernel) (bg_cat rfl) (Nat.le_of_ble_eq_true rfl) ?_
  intro K hK hR hex C
  subst hK
  have hI := bgRel.rfl hw
  show bgX K true 0 0 _ w0 0 [some (br 5), some (bi b), none] []
  refine bg_iconst C d_op_areAbout_0 ?_
  refine bg_istore_n C d_op_areAbout_1 rfl (Nat.le_of_ble_eq_true rfl) ?_
  refine bg_loop (α := Int) (fun a => (20 - a).toNat) (fun a => 0 ≤ a ∧ a ≤ 20) (fun a => (w0, [some (br 5), some (bi b), some (bi a)], [])) ?_ 0 ⟨by (try dsimp only) <;> omega, by (try dsimp only) <;> omega⟩
  rintro i1 ⟨q1_0, q1_1⟩ ih2
  try dsimp only at ih2
  try dsimp only at q1_0
  try dsimp only at q1_1
  try dsimp only
  refine bg_iload_n C d_op_areAbout_2 rfl rfl ?_
  refine bg_aload_n C d_op_areAbout_3 rfl rfl ?_
  refine bq_geti C cf_op hI 4 4 rfl rfl (by decide) rfl (by decide) rfl tw_116 d_op_areAbout_4 (fun v2 e2 a2 b2 => ?_)
  refine bg_icmp_ge (tgt := 36) C d_op_areAbout_7 (by decide) ⟨by omega, by omega⟩ ⟨by omega, by omega⟩ (fun h3 => ?_) (fun h3 => ?_)
  · refine bg_iconst C d_op_areAbout_36 ?_
    exact bg_iret C d_op_areAbout_37 (fun _ => rfl) (Or.inr ⟨rfl, by omega⟩) (Nat.zero_le _) (Nat.zero_le _) ⟨_, rfl, rfl, by omega, by omega⟩
  · refine bg_iload_n C d_op_areAbout_10 rfl rfl ?_
    refine bg_bipush C d_op_areAbout_11 (by decide +kernel) ?_
    refine bg_icmp_ge (tgt := 36) C d_op_areAbout_13 (by decide) ⟨by omega, by omega⟩ ⟨by omega, by omega⟩ (fun h4 => ?_) (fun h4 => ?_)
    · refine bg_iconst C d_op_areAbout_36 ?_
      exact bg_iret C d_op_areAbout_37 (fun _ => rfl) (Or.inr ⟨rfl, by omega⟩) (Nat.zero_le _) (Nat.zero_le _) ⟨_, rfl, rfl, by omega, by omega⟩
    · refine bg_aload_n C d_op_areAbout_16 rfl rfl ?_
      refine bg_getr (i := 0) C cf_op rfl (by decide) rfl tw_112 d_op_areAbout_17 ?_
      refine bg_iload_n C d_op_areAbout_20 rfl rfl ?_
      refine bq_iald C hI rfl (by decide) rfl (by omega) (by omega) d_op_areAbout_21 (fun v5 e5 a5 b5 => ?_)
      refine bg_iconst C d_op_areAbout_22 ?_
      refine bg_idiv0 C d_op_areAbout_23 (by decide +kernel) (fun v6 => ?_)
      refine bg_iload_n C d_op_areAbout_24 rfl rfl ?_
      refine bg_icmp_ne0 (tgt := 30) C d_op_areAbout_25 (by decide) ?_ ?_
      · refine bg_iinc C d_op_areAbout_30 rfl ?_
        refine bg_goto (l := 2) C d_op_areAbout_33 (by decide) ?_
        exact ih2 (i1 + 1) ⟨by omega, by omega⟩ (by omega)
      · refine bg_iconst C d_op_areAbout_28 ?_
        exact bg_iret C d_op_areAbout_29 (fun _ => rfl) (Or.inr ⟨rfl, by omega⟩) (Nat.zero_le _) (Nat.zero_le _) ⟨_, rfl, rfl, by omega, by omega⟩
end
section
def rm_pw_holds : Room := { frames := 0, cells := 0, slots := 0, locals := 0 }
set_option maxRecDepth 20000 in
set_option maxHeartbeats 4000000 in
theorem m_pw_holds {G : bgGl} (hG : bgOk G) {w0 : bgW} (hw : bgN w0) : bgM G false 0 0 y_pw_holds (.code y_pw_holds co_pw_holds 1 (some .boolean)) rm_pw_holds [br 1] w0 (bgPi (fun v w' => bgRel w0 w' ∧ 0 ≤ v ∧ v ≤ 1)) := by
  refine bg_met hG (by decide +kernel) (bg_cat rfl) (Nat.le_of_ble_eq_true rfl) ?_
  intro K hK hR hex C
  subst hK
  have hI := bgRel.rfl hw
  show bgX K true 0 0 _ w0 0 [some (br 1)] []
  refine bg_aload_n C d_pw_holds_0 rfl rfl ?_
  refine bq_get0 C cf_pw 0 0 rfl rfl (by decide) rfl tw_68 d_pw_holds_1 (fun v1 e1 => ?_)
  refine bg_if_ne0 (tgt := 14) C d_pw_holds_4 (by decide) ?_ ?_
  · refine bg_aload_n C d_pw_holds_14 rfl rfl ?_
    refine bq_get0 C cf_pw 0 0 rfl rfl (by decide) rfl tw_68 d_pw_holds_15 (fun v3 e3 => ?_)
    refine bg_if_le0 (tgt := 31) C d_pw_holds_18 (by decide) ?_ ?_
    · refine bg_aload_n C d_pw_holds_31 rfl rfl ?_
      refine bg_dup C d_pw_holds_32 rfl ?_
      refine bq_get0 C cf_pw 1 1 rfl rfl (by decide) rfl tw_70 d_pw_holds_33 (fun v5 e5 => ?_)
      refine bg_iconst C d_pw_holds_36 ?_
      refine bg_iadd C d_pw_holds_37 ?_
      refine bq_put0 C cf_pw hI 1 1 rfl rfl (by decide) rfl (by decide) rfl rfl rfl tw_70 d_pw_holds_38 (fun w6 hI6 e6 => ?_)
      refine bg_iconst C d_pw_holds_41 ?_
      exact bg_iret C d_pw_holds_42 (fun h => by cases h) (Or.inr ⟨rfl, by omega⟩) (Nat.zero_le _) (Nat.zero_le _) ⟨_, rfl, hI6, by omega, by omega⟩
    · refine bg_aload_n C d_pw_holds_21 rfl rfl ?_
      refine bg_dup C d_pw_holds_22 rfl ?_
      refine bq_get0 C cf_pw 0 0 rfl rfl (by decide) rfl tw_68 d_pw_holds_23 (fun v7 e7 => ?_)
      refine bg_iconst C d_pw_holds_26 ?_
      refine bg_isub C d_pw_holds_27 ?_
      refine bq_put0 C cf_pw hI 0 0 rfl rfl (by decide) rfl (by decide) rfl rfl rfl tw_68 d_pw_holds_28 (fun w8 hI8 e8 => ?_)
      refine bg_aload_n C d_pw_holds_31 rfl rfl ?_
      refine bg_dup C d_pw_holds_32 rfl ?_
      refine bq_get0 C cf_pw 1 1 rfl rfl (by decide) rfl tw_70 d_pw_holds_33 (fun v9 e9 => ?_)
      refine bg_iconst C d_pw_holds_36 ?_
      refine bg_iadd C d_pw_holds_37 ?_
      refine bq_put0 C cf_pw hI8 1 1 rfl rfl (by decide) rfl (by decide) rfl rfl rfl tw_70 d_pw_holds_38 (fun w10 hI10 e10 => ?_)
      refine bg_iconst C d_pw_holds_41 ?_
      exact bg_iret C d_pw_holds_42 (fun h => by cases h) (Or.inr ⟨rfl, by omega⟩) (Nat.zero_le _) (Nat.zero_le _) ⟨_, rfl, hI10, by omega, by omega⟩
  · refine bg_aload_n C d_pw_holds_7 rfl rfl ?_
    refine bg_iconst C d_pw_holds_8 ?_
    refine bq_put0 C cf_pw hI 0 0 rfl rfl (by decide) rfl (by decide) rfl rfl rfl tw_68 d_pw_holds_9 (fun w11 hI11 e11 => ?_)
    refine bg_iconst C d_pw_holds_12 ?_
    exact bg_iret C d_pw_holds_13 (fun h => by cases h) (Or.inr ⟨rfl, by omega⟩) (Nat.zero_le _) (Nat.zero_le _) ⟨_, rfl, hI11, by omega, by omega⟩
def rm_hd_place : Room := { frames := 0, cells := 0, slots := 0, locals := 0 }
set_option maxRecDepth 20000 in
set_option maxHeartbeats 4000000 in
theorem m_hd_place {G : bgGl} (hG : bgOk G) {w0 : bgW} (hw : bgN w0) {b : Int} : bgM G true 0 0 y_hd_place (.code y_hd_place co_hd_place 3 (some .int)) rm_hd_place [br 2, bi b] w0 (bgPi (fun v w' => w0 = w' ∧ -1 ≤ v ∧ v ≤ 49)) := by
  refine bg_met hG (by decide +kernel) (bg_cat rfl) (Nat.le_of_ble_eq_true rfl) ?_
  intro K hK hR hex C
  subst hK
  have hI := bgRel.rfl hw
  show bgX K true 0 0 _ w0 0 [some (br 2), some (bi b), none] []
  refine bg_iconst C d_hd_place_0 ?_
  refine bg_istore_n C d_hd_place_1 rfl (Nat.le_of_ble_eq_true rfl) ?_
  refine bg_loop (α := Int) (fun a => (50 - a).toNat) (fun a => 0 ≤ a ∧ a ≤ 50) (fun a => (w0, [some (br 2), some (bi b), some (bi a)], [])) ?_ 0 ⟨by (try dsimp only) <;> omega, by (try dsimp only) <;> omega⟩
  rintro i1 ⟨q1_0, q1_1⟩ ih2
  try dsimp only at ih2
  try dsimp only at q1_0
  try dsimp only at q1_1
  try dsimp only
  refine bg_iload_n C d_hd_place_2 rfl rfl ?_
  refine bg_aload_n C d_hd_place_3 rfl rfl ?_
  refine bq_geti C cf_hd hI 1 1 rfl rfl (by decide) rfl (by decide) rfl tw_85 d_hd_place_4 (fun v2 e2 a2 b2 => ?_)
  refine bg_icmp_ge (tgt := 34) C d_hd_place_7 (by decide) ⟨by omega, by omega⟩ ⟨by omega, by omega⟩ (fun h3 => ?_) (fun h3 => ?_)
  · refine bg_iconst C d_hd_place_34 ?_
    exact bg_iret C d_hd_place_35 (fun _ => rfl) (Or.inl rfl) (Nat.zero_le _) (Nat.zero_le _) ⟨_, rfl, rfl, by omega, by omega⟩
  · refine bg_iload_n C d_hd_place_10 rfl rfl ?_
    refine bg_bipush C d_hd_place_11 (by decide +kernel) ?_
    refine bg_icmp_ge (tgt := 34) C d_hd_place_13 (by decide) ⟨by omega, by omega⟩ ⟨by omega, by omega⟩ (fun h4 => ?_) (fun h4 => ?_)
    · refine bg_iconst C d_hd_place_34 ?_
      exact bg_iret C d_hd_place_35 (fun _ => rfl) (Or.inl rfl) (Nat.zero_le _) (Nat.zero_le _) ⟨_, rfl, rfl, by omega, by omega⟩
    · refine bg_aload_n C d_hd_place_16 rfl rfl ?_
      refine bg_getr (i := 0) C cf_hd rfl (by decide) rfl tw_83 d_hd_place_17 ?_
      refine bg_iload_n C d_hd_place_20 rfl rfl ?_
      refine bq_iald0 C rfl (by omega) (by omega) d_hd_place_21 (fun v5 e5 => ?_)
      refine bg_iload_n C d_hd_place_22 rfl rfl ?_
      refine bg_icmp_ne0 (tgt := 28) C d_hd_place_23 (by decide) ?_ ?_
      · refine bg_iinc C d_hd_place_28 rfl ?_
        refine bg_goto (l := 2) C d_hd_place_31 (by decide) ?_
        exact ih2 (i1 + 1) ⟨by omega, by omega⟩ (by omega)
      · refine bg_iload_n C d_hd_place_26 rfl rfl ?_
        exact bg_iret C d_hd_place_27 (fun _ => rfl) (Or.inl rfl) (Nat.zero_le _) (Nat.zero_le _) ⟨_, rfl, rfl, by omega, by omega⟩
def rm_hd_limit : Room := { frames := 1, cells := 0, slots := 0, locals := 30 }
set_option maxRecDepth 20000 in
set_option maxHeartbeats 4000000 in
theorem m_hd_limit {G : bgGl} (hG : bgOk G) {w0 : bgW} (hw : bgN w0) {b : Int} (z0 : 1 ≤ b) (z1 : b ≤ 50) : bgM G false 0 0 y_hd_limit (.code y_hd_limit co_hd_limit 2 none) rm_hd_limit [br 2, bi b] w0 (bgPv (fun w' => bgRel w0 w')) := by
  refine bg_met hG (by decide +kernel) (bg_cat rfl) (Nat.le_of_ble_eq_true rfl) ?_
  intro K hK hR hex C
  subst hK
  have hI := bgRel.rfl hw
  show bgX K true 0 0 _ w0 0 [some (br 2), some (bi b)] []
  refine bg_aload_n C d_hd_limit_0 rfl rfl ?_
  refine bg_iload_n C d_hd_limit_1 rfl rfl ?_
  refine bq_puti C cf_hd hI 3 3 rfl rfl (by decide) rfl (by decide) rfl (by omega) (by omega) rfl (Or.inl rfl) tw_89 d_hd_limit_2 (fun w1 hI1 e1 => ?_)
  have g1_0 : w1 2 3 = b := by rw [e1]; exact bgU_eq
  refine bg_aload_n C d_hd_limit_5 rfl rfl ?_
  refine bg_aload_n C d_hd_limit_6 rfl rfl ?_
  refine bq_geti C cf_hd hI1 1 1 rfl rfl (by decide) rfl (by decide) rfl tw_85 d_hd_limit_7 (fun v2 e2 a2 b2 => ?_)
  refine bg_aload_n C d_hd_limit_10 rfl rfl ?_
  refine bq_geti C cf_hd hI1 3 3 rfl rfl (by decide) rfl (by decide) rfl tw_89 d_hd_limit_11 (fun v3 e3 a3 b3 => ?_)
  refine bg_min C tw_287 tm_sta tm_ini tm_cod rfl ⟨by omega, by omega⟩ ⟨by omega, by omega⟩ (by rw [hR]; decide) (by rw [hR]; exact Nat.le_of_ble_eq_true rfl) (Nat.zero_le _) (Nat.zero_le _) d_hd_limit_14 (fun h4 => ?_) (fun h4 => ?_)
  · refine bq_puti C cf_hd hI1 1 1 rfl rfl (by decide) rfl (by decide) rfl (by omega) (by omega) rfl (Or.inl rfl) tw_85 d_hd_limit_17 (fun w5 hI5 e5 => ?_)
    have g5_0 : w5 2 3 = w1 2 3 := by rw [e5]; exact bgU_nei (by decide)
    exact bg_ret C d_hd_limit_20 (fun h => by cases h) rfl (Nat.zero_le _) (Nat.zero_le _) ⟨rfl, hI5⟩
  · refine bq_puti C cf_hd hI1 1 1 rfl rfl (by decide) rfl (by decide) rfl (by omega) (by omega) rfl (Or.inl rfl) tw_85 d_hd_limit_17 (fun w6 hI6 e6 => ?_)
    have g6_0 : w6 2 3 = w1 2 3 := by rw [e6]; exact bgU_nei (by decide)
    exact bg_ret C d_hd_limit_20 (fun h => by cases h) rfl (Nat.zero_le _) (Nat.zero_le _) ⟨rfl, hI6⟩
def rm_hd_putFirst : Room := { frames := 1, cells := 0, slots := 0, locals := 60 }
set_option maxRecDepth 20000 in
set_option maxHeartbeats 4000000 in
theorem m_hd_putFirst {G : bgGl} (hG : bgOk G) {w0 : bgW} (hw : bgN w0) {b : Int} : bgM G false 0 0 y_hd_putFirst (.code y_hd_putFirst co_hd_putFirst 3 none) rm_hd_putFirst [br 2, bi b] w0 (bgPv (fun w' => bgRel w0 w')) := by
  refine bg_met hG (by decide +kernel) (bg_cat rfl) (Nat.le_of_ble_eq_true rfl) ?_
  intro K hK hR hex C
  subst hK
  have hI := bgRel.rfl hw
  show bgX K true 0 0 _ w0 0 [some (br 2), some (bi b), none] []
  refine bg_aload_n C d_hd_putFirst_0 rfl rfl ?_
  refine bg_iload_n C d_hd_putFirst_1 rfl rfl ?_
  refine bg_ci C (m_hd_place hG hI.1) (bg_invV C cf_hd rfl tw_283 ti_hd_place ts_hd_place tc_hd_place tw_37 ⟨by decide, by decide⟩ (nA := 1) (by decide +kernel) rfl d_hd_putFirst_2 rfl) rfl (by rw [hR]; exact ⟨by decide, by decide⟩) (by rw [hR]; exact ⟨by decide, by decide⟩) (Nat.le_of_ble_eq_true rfl) rfl (fun v1 w1 p1 => ?_)
  obtain ⟨rfl, r1_0, r1_1⟩ := p1
  refine bg_istore_n C d_hd_putFirst_5 rfl (Nat.le_of_ble_eq_true rfl) ?_
  refine bg_iload_n C d_hd_putFirst_6 rfl rfl ?_
  refine bg_iconst C d_hd_putFirst_7 ?_
  refine bg_icmp_ne (tgt := 35) C d_hd_putFirst_8 (by decide) ⟨by omega, by omega⟩ ⟨by omega, by omega⟩ (fun h2 => ?_) (fun h2 => ?_)
  · refine bg_aload_n C d_hd_putFirst_35 rfl rfl ?_
    refine bg_getr (i := 0) C cf_hd rfl (by decide) rfl tw_83 d_hd_putFirst_36 ?_
    refine bg_iconst C d_hd_putFirst_39 ?_
    refine bg_aload_n C d_hd_putFirst_40 rfl rfl ?_
    refine bg_getr (i := 0) C cf_hd rfl (by decide) rfl tw_83 d_hd_putFirst_41 ?_
    refine bg_iconst C d_hd_putFirst_44 ?_
    refine bg_iload_n C d_hd_putFirst_45 rfl rfl ?_
    refine bg_copyi C tw_290 ta_nat ta_sta ta_ini rfl rfl (by omega) (by omega) (by omega) (by omega) (by omega) rfl (by rw [hR]; decide) (by rw [hR]; exact Nat.le_of_ble_eq_true rfl) d_hd_putFirst_46 (fun w3 e3 => ?_)
    have hI3 : bgRel w0 w3 := by rw [e3]; exact hI.cp (by decide) (by decide) (fun _ _ => rfl)
    refine bg_aload_n C d_hd_putFirst_49 rfl rfl ?_
    refine bg_getr (i := 0) C cf_hd rfl (by decide) rfl tw_83 d_hd_putFirst_50 ?_
    refine bg_iconst C d_hd_putFirst_53 ?_
    refine bg_iload_n C d_hd_putFirst_54 rfl rfl ?_
    refine bq_iast0 C hI3 rfl (by decide) rfl (by omega) (by omega) d_hd_putFirst_55 (fun w4 hI4 e4 => ?_)
    have g4_0 : w4 2 1 = w3 2 1 := by rw [e4]; exact bgU_ne _ (by decide)
    exact bg_ret C d_hd_putFirst_56 (fun h => by cases h) rfl (Nat.zero_le _) (Nat.zero_le _) ⟨rfl, hI4⟩
  · refine bg_aload_n C d_hd_putFirst_11 rfl rfl ?_
    refine bg_aload_n C d_hd_putFirst_12 rfl rfl ?_
    refine bq_geti C cf_hd hI 1 1 rfl rfl (by decide) rfl (by decide) rfl tw_85 d_hd_putFirst_13 (fun v5 e5 a5 b5 => ?_)
    refine bg_iconst C d_hd_putFirst_16 ?_
    refine bg_iadd C d_hd_putFirst_17 ?_
    refine bg_aload_n C d_hd_putFirst_18 rfl rfl ?_
    refine bq_geti C cf_hd hI 3 3 rfl rfl (by decide) rfl (by decide) rfl tw_89 d_hd_putFirst_19 (fun v6 e6 a6 b6 => ?_)
    refine bg_min C tw_287 tm_sta tm_ini tm_cod rfl ⟨by omega, by omega⟩ ⟨by omega, by omega⟩ (by rw [hR]; decide) (by rw [hR]; exact Nat.le_of_ble_eq_true rfl) (Nat.zero_le _) (Nat.zero_le _) d_hd_putFirst_22 (fun h7 => ?_) (fun h7 => ?_)
    · refine bq_puti C cf_hd hI 1 1 rfl rfl (by decide) rfl (by decide) rfl (by omega) (by omega) rfl (Or.inl rfl) tw_85 d_hd_putFirst_25 (fun w8 hI8 e8 => ?_)
      have g8_0 : w8 2 1 = v6 := by rw [e8]; exact bgU_eq
      refine bg_aload_n C d_hd_putFirst_28 rfl rfl ?_
      refine bq_geti C cf_hd hI8 1 1 rfl rfl (by decide) rfl (by decide) rfl tw_85 d_hd_putFirst_29 (fun v9 e9 a9 b9 => ?_)
      refine bg_iconst C d_hd_putFirst_32 ?_
      refine bg_isub C d_hd_putFirst_33 ?_
      refine bg_istore_n C d_hd_putFirst_34 rfl (Nat.le_of_ble_eq_true rfl) ?_
      refine bg_aload_n C d_hd_putFirst_35 rfl rfl ?_
      refine bg_getr (i := 0) C cf_hd rfl (by decide) rfl tw_83 d_hd_putFirst_36 ?_
      refine bg_iconst C d_hd_putFirst_39 ?_
      refine bg_aload_n C d_hd_putFirst_40 rfl rfl ?_
      refine bg_getr (i := 0) C cf_hd rfl (by decide) rfl tw_83 d_hd_putFirst_41 ?_
      refine bg_iconst C d_hd_putFirst_44 ?_
      refine bg_iload_n C d_hd_putFirst_45 rfl rfl ?_
      refine bg_copyi C tw_290 ta_nat ta_sta ta_ini rfl rfl (by omega) (by omega) (by omega) (by omega) (by omega) rfl (by rw [hR]; decide) (by rw [hR]; exact Nat.le_of_ble_eq_true rfl) d_hd_putFirst_46 (fun w10 e10 => ?_)
      have hI10 : bgRel w0 w10 := by rw [e10]; exact hI8.cp (by decide) (by decide) (fun _ _ => rfl)
      refine bg_aload_n C d_hd_putFirst_49 rfl rfl ?_
      refine bg_getr (i := 0) C cf_hd rfl (by decide) rfl tw_83 d_hd_putFirst_50 ?_
      refine bg_iconst C d_hd_putFirst_53 ?_
      refine bg_iload_n C d_hd_putFirst_54 rfl rfl ?_
      refine bq_iast0 C hI10 rfl (by decide) rfl (by omega) (by omega) d_hd_putFirst_55 (fun w11 hI11 e11 => ?_)
      have g11_0 : w11 2 1 = w10 2 1 := by rw [e11]; exact bgU_ne _ (by decide)
      exact bg_ret C d_hd_putFirst_56 (fun h => by cases h) rfl (Nat.zero_le _) (Nat.zero_le _) ⟨rfl, hI11⟩
    · refine bq_puti C cf_hd hI 1 1 rfl rfl (by decide) rfl (by decide) rfl (by omega) (by omega) rfl (Or.inl rfl) tw_85 d_hd_putFirst_25 (fun w12 hI12 e12 => ?_)
      have g12_0 : w12 2 1 = (v5 + 1) := by rw [e12]; exact bgU_eq
      refine bg_aload_n C d_hd_putFirst_28 rfl rfl ?_
      refine bq_geti C cf_hd hI12 1 1 rfl rfl (by decide) rfl (by decide) rfl tw_85 d_hd_putFirst_29 (fun v13 e13 a13 b13 => ?_)
      refine bg_iconst C d_hd_putFirst_32 ?_
      refine bg_isub C d_hd_putFirst_33 ?_
      refine bg_istore_n C d_hd_putFirst_34 rfl (Nat.le_of_ble_eq_true rfl) ?_
      refine bg_aload_n C d_hd_putFirst_35 rfl rfl ?_
      refine bg_getr (i := 0) C cf_hd rfl (by decide) rfl tw_83 d_hd_putFirst_36 ?_
      refine bg_iconst C d_hd_putFirst_39 ?_
      refine bg_aload_n C d_hd_putFirst_40 rfl rfl ?_
      refine bg_getr (i := 0) C cf_hd rfl (by decide) rfl tw_83 d_hd_putFirst_41 ?_
      refine bg_iconst C d_hd_putFirst_44 ?_
      refine bg_iload_n C d_hd_putFirst_45 rfl rfl ?_
      refine bg_copyi C tw_290 ta_nat ta_sta ta_ini rfl rfl (by omega) (by omega) (by omega) (by omega) (by omega) rfl (by rw [hR]; decide) (by rw [hR]; exact Nat.le_of_ble_eq_true rfl) d_hd_putFirst_46 (fun w14 e14 => ?_)
      have hI14 : bgRel w0 w14 := by rw [e14]; exact hI12.cp (by decide) (by decide) (fun _ _ => rfl)
      refine bg_aload_n C d_hd_putFirst_49 rfl rfl ?_
      refine bg_getr (i := 0) C cf_hd rfl (by decide) rfl tw_83 d_hd_putFirst_50 ?_
      refine bg_iconst C d_hd_putFirst_53 ?_
      refine bg_iload_n C d_hd_putFirst_54 rfl rfl ?_
      refine bq_iast0 C hI14 rfl (by decide) rfl (by omega) (by omega) d_hd_putFirst_55 (fun w15 hI15 e15 => ?_)
      have g15_0 : w15 2 1 = w14 2 1 := by rw [e15]; exact bgU_ne _ (by decide)
      exact bg_ret C d_hd_putFirst_56 (fun h => by cases h) rfl (Nat.zero_le _) (Nat.zero_le _) ⟨rfl, hI15⟩
def rm_hd_look : Room := { frames := 2, cells := 0, slots := 0, locals := 82 }
set_option maxRecDepth 20000 in
set_option maxHeartbeats 4000000 in
theorem m_hd_look {G : bgGl} (hG : bgOk G) {w0 : bgW} (hw : bgN w0) {b : Int} : bgM G false 0 0 y_hd_look (.code y_hd_look co_hd_look 2 none) rm_hd_look [br 2, bi b] w0 (bgPv (fun w' => bgRel w0 w')) := by
  refine bg_met hG (by decide +kernel) (bg_cat rfl) (Nat.le_of_ble_eq_true rfl) ?_
  intro K hK hR hex C
  subst hK
  have hI := bgRel.rfl hw
  show bgX K true 0 0 _ w0 0 [some (br 2), some (bi b)] []
  refine bg_aload_n C d_hd_look_0 rfl rfl ?_
  refine bg_iload_n C d_hd_look_1 rfl rfl ?_
  refine bg_ci C (m_hd_place hG hI.1) (bg_invV C cf_hd rfl tw_283 ti_hd_place ts_hd_place tc_hd_place tw_37 ⟨by decide, by decide⟩ (nA := 1) (by decide +kernel) rfl d_hd_look_2 rfl) rfl (by rw [hR]; exact ⟨by decide, by decide⟩) (by rw [hR]; exact ⟨by decide, by decide⟩) (Nat.le_of_ble_eq_true rfl) rfl (fun v1 w1 p1 => ?_)
  obtain ⟨rfl, r1_0, r1_1⟩ := p1
  refine bg_iconst C d_hd_look_5 ?_
  refine bg_icmp_ne (tgt := 19) C d_hd_look_6 (by decide) ⟨by omega, by omega⟩ ⟨by omega, by omega⟩ (fun h2 => ?_) (fun h2 => ?_)
  · refine bg_aload_n C d_hd_look_19 rfl rfl ?_
    refine bg_iload_n C d_hd_look_20 rfl rfl ?_
    refine bg_cv C (m_hd_putFirst hG hI.1) (bg_invV C cf_hd rfl tw_558 ti_hd_putFirst ts_hd_putFirst tc_hd_putFirst tw_37 ⟨by decide, by decide⟩ (nA := 1) (by decide +kernel) rfl d_hd_look_21 rfl) rfl (by rw [hR]; exact ⟨by decide, by decide⟩) (by rw [hR]; exact ⟨by decide, by decide⟩) (Nat.le_of_ble_eq_true rfl) rfl (fun w3 p3 => ?_)
    have j3 := p3
    have hI3 := hI.trans j3
    exact bg_ret C d_hd_look_24 (fun h => by cases h) rfl (Nat.zero_le _) (Nat.zero_le _) ⟨rfl, hI3⟩
  · refine bg_aload_n C d_hd_look_9 rfl rfl ?_
    refine bg_dup C d_hd_look_10 rfl ?_
    refine bq_get0 C cf_hd 2 2 rfl rfl (by decide) rfl tw_87 d_hd_look_11 (fun v4 e4 => ?_)
    refine bg_iconst C d_hd_look_14 ?_
    refine bg_iadd C d_hd_look_15 ?_
    refine bq_put0 C cf_hd hI 2 2 rfl rfl (by decide) rfl (by decide) rfl rfl rfl tw_87 d_hd_look_16 (fun w5 hI5 e5 => ?_)
    refine bg_aload_n C d_hd_look_19 rfl rfl ?_
    refine bg_iload_n C d_hd_look_20 rfl rfl ?_
    refine bg_cv C (m_hd_putFirst hG hI5.1) (bg_invV C cf_hd rfl tw_558 ti_hd_putFirst ts_hd_putFirst tc_hd_putFirst tw_37 ⟨by decide, by decide⟩ (nA := 1) (by decide +kernel) rfl d_hd_look_21 rfl) rfl (by rw [hR]; exact ⟨by decide, by decide⟩) (by rw [hR]; exact ⟨by decide, by decide⟩) (Nat.le_of_ble_eq_true rfl) rfl (fun w6 p6 => ?_)
    have j6 := p6
    have hI6 := hI5.trans j6
    exact bg_ret C d_hd_look_24 (fun h => by cases h) rfl (Nat.zero_le _) (Nat.zero_le _) ⟨rfl, hI6⟩
end
section
def rm_so_writeHead : Room := { frames := 1, cells := 0, slots := 0, locals := 20 }
set_option maxRecDepth 20000 in
set_option maxHeartbeats 4000000 in
theorem m_so_writeHead {G : bgGl} (hG : bgOk G) {w0 : bgW} (hw : bgN w0) {b : Int} (z0 : 0 ≤ b) (z1 : b ≤ 1) : bgM G false 0 0 y_so_writeHead (.code y_so_writeHead co_so_writeHead 2 (some .boolean)) rm_so_writeHead [br 4, bi b] w0 (bgPi (fun v w' => bgRel w0 w' ∧ 0 ≤ v ∧ v ≤ 1)) := by
  refine bg_met hG (by decide +kernel) (bg_cat rfl) (Nat.le_of_ble_eq_true rfl) ?_
  intro K hK hR hex C
  subst hK
  have hI := bgRel.rfl hw
  show bgX K true 0 0 _ w0 0 [some (br 4), some (bi b)] []
  refine bg_aload_n C d_so_writeHead_0 rfl rfl ?_
  refine bg_getr (i := 0) C cf_so rfl (by decide) rfl tw_156 d_so_writeHead_1 ?_
  refine bg_ci C (m_pw_holds hG hI.1) (bg_invV C cf_pw rfl tw_263 ti_pw_holds ts_pw_holds tc_pw_holds tw_36 ⟨by decide, by decide⟩ (nA := 0) (by decide +kernel) rfl d_so_writeHead_4 rfl) rfl (by rw [hR]; exact ⟨by decide, by decide⟩) (by rw [hR]; exact ⟨by decide, by decide⟩) (Nat.le_of_ble_eq_true rfl) rfl (fun v1 w1 p1 => ?_)
  obtain ⟨j1, r1_0, r1_1⟩ := p1
  have hI1 := hI.trans j1
  refine bg_if_ne (tgt := 12) C d_so_writeHead_7 (by decide) ⟨by omega, by omega⟩ (fun h2 => ?_) (fun h2 => ?_)
  · refine bg_aload_n C d_so_writeHead_12 rfl rfl ?_
    refine bg_iload_n C d_so_writeHead_13 rfl rfl ?_
    refine bq_puti C cf_so hI1 4 4 rfl rfl (by decide) rfl (by decide) rfl (by omega) (by omega) rfl (Or.inr ⟨rfl, by omega⟩) tw_161 d_so_writeHead_14 (fun w3 hI3 e3 => ?_)
    refine bg_iconst C d_so_writeHead_17 ?_
    exact bg_iret C d_so_writeHead_18 (fun h => by cases h) (Or.inr ⟨rfl, by omega⟩) (Nat.zero_le _) (Nat.zero_le _) ⟨_, rfl, hI3, by omega, by omega⟩
  · refine bg_iconst C d_so_writeHead_10 ?_
    exact bg_iret C d_so_writeHead_11 (fun h => by cases h) (Or.inr ⟨rfl, by omega⟩) (Nat.zero_le _) (Nat.zero_le _) ⟨_, rfl, hI1, by omega, by omega⟩
def rm_so_writeHome : Room := { frames := 2, cells := 0, slots := 0, locals := 82 }
set_option maxRecDepth 20000 in
set_option maxHeartbeats 4000000 in
theorem m_so_writeHome {G : bgGl} (hG : bgOk G) {w0 : bgW} (hw : bgN w0) {k : Int} (z0 : 0 ≤ k) (z1 : k ≤ 49) : bgM G false 0 0 y_so_writeHome (.code y_so_writeHome co_so_writeHome 3 (some .boolean)) rm_so_writeHome [br 4, bi k, br 14] w0 (bgPi (fun v w' => bgRel w0 w' ∧ 0 ≤ v ∧ v ≤ 1)) := by
  refine bg_met hG (by decide +kernel) (bg_cat rfl) (Nat.le_of_ble_eq_true rfl) ?_
  intro K hK hR hex C
  subst hK
  have hI := bgRel.rfl hw
  show bgX K true 0 0 _ w0 0 [some (br 4), some (bi k), some (br 14)] []
  refine bg_aload_n C d_so_writeHome_0 rfl rfl ?_
  refine bg_getr (i := 0) C cf_so rfl (by decide) rfl tw_156 d_so_writeHome_1 ?_
  refine bg_ci C (m_pw_holds hG hI.1) (bg_invV C cf_pw rfl tw_263 ti_pw_holds ts_pw_holds tc_pw_holds tw_36 ⟨by decide, by decide⟩ (nA := 0) (by decide +kernel) rfl d_so_writeHome_4 rfl) rfl (by rw [hR]; exact ⟨by decide, by decide⟩) (by rw [hR]; exact ⟨by decide, by decide⟩) (Nat.le_of_ble_eq_true rfl) rfl (fun v1 w1 p1 => ?_)
  obtain ⟨j1, r1_0, r1_1⟩ := p1
  have hI1 := hI.trans j1
  refine bg_if_ne (tgt := 12) C d_so_writeHome_7 (by decide) ⟨by omega, by omega⟩ (fun h2 => ?_) (fun h2 => ?_)
  · refine bg_aload_n C d_so_writeHome_12 rfl rfl ?_
    refine bg_getr (i := 3) C cf_so rfl (by decide) rfl tw_159 d_so_writeHome_13 ?_
    refine bg_aload_n C d_so_writeHome_16 rfl rfl ?_
    refine bg_iload_n C d_so_writeHome_17 rfl rfl ?_
    refine bg_cv C (m_et_copyBlock hG hI1.1 (by omega) (by omega)) (bg_invV C cf_et rfl tw_271 ti_et_copyBlock ts_et_copyBlock tc_et_copyBlock tw_40 ⟨by decide, by decide⟩ (nA := 2) (by decide +kernel) rfl d_so_writeHome_18 rfl) rfl (by rw [hR]; exact ⟨by decide, by decide⟩) (by rw [hR]; exact ⟨by decide, by decide⟩) (Nat.le_of_ble_eq_true rfl) rfl (fun w3 p3 => ?_)
    have j3 := p3
    have hI3 := hI1.trans j3
    refine bg_aload_n C d_so_writeHome_21 rfl rfl ?_
    refine bg_getr (i := 1) C cf_so rfl (by decide) rfl tw_157 d_so_writeHome_22 ?_
    refine bg_iload_n C d_so_writeHome_25 rfl rfl ?_
    refine bg_cv C (m_hd_putFirst hG hI3.1) (bg_invV C cf_hd rfl tw_279 ti_hd_putFirst ts_hd_putFirst tc_hd_putFirst tw_37 ⟨by decide, by decide⟩ (nA := 1) (by decide +kernel) rfl d_so_writeHome_26 rfl) rfl (by rw [hR]; exact ⟨by decide, by decide⟩) (by rw [hR]; exact ⟨by decide, by decide⟩) (Nat.le_of_ble_eq_true rfl) rfl (fun w4 p4 => ?_)
    have j4 := p4
    have hI4 := hI3.trans j4
    refine bg_iconst C d_so_writeHome_29 ?_
    exact bg_iret C d_so_writeHome_30 (fun h => by cases h) (Or.inr ⟨rfl, by omega⟩) (Nat.zero_le _) (Nat.zero_le _) ⟨_, rfl, hI4, by omega, by omega⟩
  · refine bg_iconst C d_so_writeHome_10 ?_
    exact bg_iret C d_so_writeHome_11 (fun h => by cases h) (Or.inr ⟨rfl, by omega⟩) (Nat.zero_le _) (Nat.zero_le _) ⟨_, rfl, hI1, by omega, by omega⟩
def rm_so_writeLog : Room := { frames := 1, cells := 0, slots := 0, locals := 22 }
set_option maxRecDepth 20000 in
set_option maxHeartbeats 4000000 in
theorem m_so_writeLog {G : bgGl} (hG : bgOk G) {w0 : bgW} (hw : bgN w0) {k : Int} (z0 : -2147483648 ≤ k) (z1 : k ≤ 2147483647) : bgM G false 0 0 y_so_writeLog (.code y_so_writeLog co_so_writeLog 3 (some .boolean)) rm_so_writeLog [br 4, br 18, bi k] w0 (bgPi (fun v w' => bgRel w0 w' ∧ 0 ≤ v ∧ v ≤ 1)) := by
  refine bg_met hG (by decide +kernel) (bg_cat rfl) (Nat.le_of_ble_eq_true rfl) ?_
  intro K hK hR hex C
  subst hK
  have hI := bgRel.rfl hw
  show bgX K true 0 0 _ w0 0 [some (br 4), some (br 18), some (bi k)] []
  refine bg_aload_n C d_so_writeLog_0 rfl rfl ?_
  refine bg_getr (i := 0) C cf_so rfl (by decide) rfl tw_156 d_so_writeLog_1 ?_
  refine bg_ci C (m_pw_holds hG hI.1) (bg_invV C cf_pw rfl tw_263 ti_pw_holds ts_pw_holds tc_pw_holds tw_36 ⟨by decide, by decide⟩ (nA := 0) (by decide +kernel) rfl d_so_writeLog_4 rfl) rfl (by rw [hR]; exact ⟨by decide, by decide⟩) (by rw [hR]; exact ⟨by decide, by decide⟩) (Nat.le_of_ble_eq_true rfl) rfl (fun v1 w1 p1 => ?_)
  obtain ⟨j1, r1_0, r1_1⟩ := p1
  have hI1 := hI.trans j1
  refine bg_if_ne (tgt := 12) C d_so_writeLog_7 (by decide) ⟨by omega, by omega⟩ (fun h2 => ?_) (fun h2 => ?_)
  · refine bg_aload_n C d_so_writeLog_12 rfl rfl ?_
    refine bg_getr (i := 2) C cf_so rfl (by decide) rfl tw_158 d_so_writeLog_13 ?_
    refine bg_aload_n C d_so_writeLog_16 rfl rfl ?_
    refine bg_iload_n C d_so_writeLog_17 rfl rfl ?_
    refine bg_cv C (m_op_copyOne hG hI1.1 (by omega) (by omega)) (bg_invV C cf_op rfl tw_526 ti_op_copyOne ts_op_copyOne tc_op_copyOne tw_39 ⟨by decide, by decide⟩ (nA := 2) (by decide +kernel) rfl d_so_writeLog_18 rfl) rfl (by rw [hR]; exact ⟨by decide, by decide⟩) (by rw [hR]; exact ⟨by decide, by decide⟩) (Nat.le_of_ble_eq_true rfl) rfl (fun w3 p3 => ?_)
    have j3 := p3
    have hI3 := hI1.trans j3
    refine bg_iconst C d_so_writeLog_21 ?_
    exact bg_iret C d_so_writeLog_22 (fun h => by cases h) (Or.inr ⟨rfl, by omega⟩) (Nat.zero_le _) (Nat.zero_le _) ⟨_, rfl, hI3, by omega, by omega⟩
  · refine bg_iconst C d_so_writeLog_10 ?_
    exact bg_iret C d_so_writeLog_11 (fun h => by cases h) (Or.inr ⟨rfl, by omega⟩) (Nat.zero_le _) (Nat.zero_le _) ⟨_, rfl, hI1, by omega, by omega⟩
def rm_so_writeMark : Room := { frames := 1, cells := 0, slots := 0, locals := 20 }
set_option maxRecDepth 20000 in
set_option maxHeartbeats 4000000 in
theorem m_so_writeMark {G : bgGl} (hG : bgOk G) {w0 : bgW} (hw : bgN w0) {k : Int} (z0 : 0 ≤ k) (z1 : k ≤ 20) : bgM G false 0 0 y_so_writeMark (.code y_so_writeMark co_so_writeMark 2 (some .boolean)) rm_so_writeMark [br 4, bi k] w0 (bgPi (fun v w' => bgRel w0 w' ∧ 0 ≤ v ∧ v ≤ 1)) := by
  refine bg_met hG (by decide +kernel) (bg_cat rfl) (Nat.le_of_ble_eq_true rfl) ?_
  intro K hK hR hex C
  subst hK
  have hI := bgRel.rfl hw
  show bgX K true 0 0 _ w0 0 [some (br 4), some (bi k)] []
  refine bg_aload_n C d_so_writeMark_0 rfl rfl ?_
  refine bg_getr (i := 0) C cf_so rfl (by decide) rfl tw_156 d_so_writeMark_1 ?_
  refine bg_ci C (m_pw_holds hG hI.1) (bg_invV C cf_pw rfl tw_263 ti_pw_holds ts_pw_holds tc_pw_holds tw_36 ⟨by decide, by decide⟩ (nA := 0) (by decide +kernel) rfl d_so_writeMark_4 rfl) rfl (by rw [hR]; exact ⟨by decide, by decide⟩) (by rw [hR]; exact ⟨by decide, by decide⟩) (Nat.le_of_ble_eq_true rfl) rfl (fun v1 w1 p1 => ?_)
  obtain ⟨j1, r1_0, r1_1⟩ := p1
  have hI1 := hI.trans j1
  refine bg_if_ne (tgt := 12) C d_so_writeMark_7 (by decide) ⟨by omega, by omega⟩ (fun h2 => ?_) (fun h2 => ?_)
  · refine bg_aload_n C d_so_writeMark_12 rfl rfl ?_
    refine bg_getr (i := 2) C cf_so rfl (by decide) rfl tw_158 d_so_writeMark_13 ?_
    refine bg_iload_n C d_so_writeMark_16 rfl rfl ?_
    refine bq_puti C cf_op hI1 4 4 rfl rfl (by decide) rfl (by decide) rfl (by omega) (by omega) rfl (Or.inl rfl) tw_117 d_so_writeMark_17 (fun w3 hI3 e3 => ?_)
    refine bg_iconst C d_so_writeMark_20 ?_
    exact bg_iret C d_so_writeMark_21 (fun h => by cases h) (Or.inr ⟨rfl, by omega⟩) (Nat.zero_le _) (Nat.zero_le _) ⟨_, rfl, hI3, by omega, by omega⟩
  · refine bg_iconst C d_so_writeMark_10 ?_
    exact bg_iret C d_so_writeMark_11 (fun h => by cases h) (Or.inr ⟨rfl, by omega⟩) (Nat.zero_le _) (Nat.zero_le _) ⟨_, rfl, hI1, by omega, by omega⟩
def rm_so_bringHome : Room := { frames := 3, cells := 0, slots := 0, locals := 104 }
set_option maxRecDepth 20000 in
set_option maxHeartbeats 4000000 in
theorem m_so_bringHome {G : bgGl} (hG : bgOk G) {w0 : bgW} (hw : bgN w0) : bgM G false 0 0 y_so_bringHome (.code y_so_bringHome co_so_bringHome 3 (some .boolean)) rm_so_bringHome [br 4, br 14] w0 (bgPi (fun v w' => bgRel w0 w' ∧ 0 ≤ v ∧ v ≤ 1)) := by
  refine bg_met hG (by decide +kernel) (bg_cat rfl) (Nat.le_of_ble_eq_true rfl) ?_
  intro K hK hR hex C
  subst hK
  have hI := bgRel.rfl hw
  show bgX K true 0 0 _ w0 0 [some (br 4), some (br 14), none] []
  refine bg_iconst C d_so_bringHome_0 ?_
  refine bg_istore_n C d_so_bringHome_1 rfl (Nat.le_of_ble_eq_true rfl) ?_
  refine bg_weak ?_
  refine bg_loop (α := bgW × Int) (fun a => (50 - a.2).toNat) (fun a => bgRel w0 a.1 ∧ 0 ≤ a.2 ∧ a.2 ≤ 50) (fun a => (a.1, [some (br 4), some (br 14), some (bi a.2)], [])) ?_ (w0, 0) ⟨hI, by (try dsimp only) <;> omega, by (try dsimp only) <;> omega⟩
  rintro ⟨w1, i1⟩ ⟨hI1, q1_0, q1_1⟩ ih2
  try dsimp only at ih2
  try dsimp only at q1_0
  try dsimp only at q1_1
  try dsimp only
  refine bg_iload_n C d_so_bringHome_2 rfl rfl ?_
  refine bg_bipush C d_so_bringHome_3 (by decide +kernel) ?_
  refine bg_icmp_ge (tgt := 36) C d_so_bringHome_5 (by decide) ⟨by omega, by omega⟩ ⟨by omega, by omega⟩ (fun h2 => ?_) (fun h2 => ?_)
  · refine bg_aload_n C d_so_bringHome_36 rfl rfl ?_
    refine bg_iconst C d_so_bringHome_37 ?_
    refine bg_ci C (m_so_writeMark hG hI1.1 (by omega) (by omega)) (bg_invV C cf_so rfl tw_293 ti_so_writeMark ts_so_writeMark tc_so_writeMark tw_38 ⟨by decide, by decide⟩ (nA := 1) (by decide +kernel) rfl d_so_bringHome_38 rfl) rfl (by rw [hR]; exact ⟨by decide, by decide⟩) (by rw [hR]; exact ⟨by decide, by decide⟩) (Nat.le_of_ble_eq_true rfl) rfl (fun v3 w3 p3 => ?_)
    obtain ⟨j3, r3_0, r3_1⟩ := p3
    have hI3 := hI1.trans j3
    exact bg_iret C d_so_bringHome_41 (fun h => by cases h) (Or.inr ⟨rfl, by omega⟩) (Nat.zero_le _) (Nat.zero_le _) ⟨_, rfl, hI3, by omega, by omega⟩
  · refine bg_aload_n C d_so_bringHome_8 rfl rfl ?_
    refine bg_getr (i := 2) C cf_so rfl (by decide) rfl tw_158 d_so_bringHome_9 ?_
    refine bg_iload_n C d_so_bringHome_12 rfl rfl ?_
    refine bg_ci C (m_op_areAbout hG hI1.1) (bg_invV C cf_op rfl tw_323 ti_op_areAbout ts_op_areAbout tc_op_areAbout tw_39 ⟨by decide, by decide⟩ (nA := 1) (by decide +kernel) rfl d_so_bringHome_13 rfl) rfl (by rw [hR]; exact ⟨by decide, by decide⟩) (by rw [hR]; exact ⟨by decide, by decide⟩) (Nat.le_of_ble_eq_true rfl) rfl (fun v4 w4 p4 => ?_)
    obtain ⟨rfl, r4_0, r4_1⟩ := p4
    refine bg_if_eq (tgt := 30) C d_so_bringHome_16 (by decide) ⟨by omega, by omega⟩ (fun h5 => ?_) (fun h5 => ?_)
    · refine bg_iinc C d_so_bringHome_30 rfl ?_
      refine bg_goto (l := 2) C d_so_bringHome_33 (by decide) ?_
      exact ih2 (w1, (i1 + 1)) ⟨hI1, by (try dsimp only) <;> omega, by (try dsimp only) <;> omega⟩ (by (try dsimp only) <;> omega)
    · refine bg_aload_n C d_so_bringHome_19 rfl rfl ?_
      refine bg_iload_n C d_so_bringHome_20 rfl rfl ?_
      refine bg_aload_n C d_so_bringHome_21 rfl rfl ?_
      refine bg_ci C (m_so_writeHome hG hI1.1 (by omega) (by omega)) (bg_invV C cf_so rfl tw_267 ti_so_writeHome ts_so_writeHome tc_so_writeHome tw_38 ⟨by decide, by decide⟩ (nA := 2) (by decide +kernel) rfl d_so_bringHome_22 rfl) rfl (by rw [hR]; exact ⟨by decide, by decide⟩) (by rw [hR]; exact ⟨by decide, by decide⟩) (Nat.le_of_ble_eq_true rfl) rfl (fun v6 w6 p6 => ?_)
      obtain ⟨j6, r6_0, r6_1⟩ := p6
      have hI6 := hI1.trans j6
      refine bg_if_ne (tgt := 30) C d_so_bringHome_25 (by decide) ⟨by omega, by omega⟩ (fun h7 => ?_) (fun h7 => ?_)
      · refine bg_iinc C d_so_bringHome_30 rfl ?_
        refine bg_goto (l := 2) C d_so_bringHome_33 (by decide) ?_
        exact ih2 (w6, (i1 + 1)) ⟨hI6, by (try dsimp only) <;> omega, by (try dsimp only) <;> omega⟩ (by (try dsimp only) <;> omega)
      · refine bg_iconst C d_so_bringHome_28 ?_
        exact bg_iret C d_so_bringHome_29 (fun h => by cases h) (Or.inr ⟨rfl, by omega⟩) (Nat.zero_le _) (Nat.zero_le _) ⟨_, rfl, hI6, by omega, by omega⟩
def rm_so_layOut : Room := { frames := 3, cells := 0, slots := 0, locals := 104 }
set_option maxRecDepth 20000 in
set_option maxHeartbeats 4000000 in
theorem m_so_layOut {G : bgGl} (hG : bgOk G) {w0 : bgW} (hw : bgN w0) : bgM G false 0 0 y_so_layOut (.code y_so_layOut co_so_layOut 3 (some .boolean)) rm_so_layOut [br 4, br 14] w0 (bgPi (fun v w' => bgRel w0 w' ∧ 0 ≤ v ∧ v ≤ 1)) := by
  refine bg_met hG (by decide +kernel) (bg_cat rfl) (Nat.le_of_ble_eq_true rfl) ?_
  intro K hK hR hex C
  subst hK
  have hI := bgRel.rfl hw
  show bgX K true 0 0 _ w0 0 [some (br 4), some (br 14), none] []
  refine bg_aload_n C d_so_layOut_0 rfl rfl ?_
  refine bg_iconst C d_so_layOut_1 ?_
  refine bg_ci C (m_so_writeHead hG hI.1 (by omega) (by omega)) (bg_invV C cf_so rfl tw_259 ti_so_writeHead ts_so_writeHead tc_so_writeHead tw_38 ⟨by decide, by decide⟩ (nA := 1) (by decide +kernel) rfl d_so_layOut_2 rfl) rfl (by rw [hR]; exact ⟨by decide, by decide⟩) (by rw [hR]; exact ⟨by decide, by decide⟩) (Nat.le_of_ble_eq_true rfl) rfl (fun v1 w1 p1 => ?_)
  obtain ⟨j1, r1_0, r1_1⟩ := p1
  have hI1 := hI.trans j1
  refine bg_if_ne (tgt := 10) C d_so_layOut_5 (by decide) ⟨by omega, by omega⟩ (fun h2 => ?_) (fun h2 => ?_)
  · refine bg_aload_n C d_so_layOut_10 rfl rfl ?_
    refine bg_iconst C d_so_layOut_11 ?_
    refine bq_put0 C cf_so hI1 5 5 rfl rfl (by decide) rfl (by decide) rfl rfl rfl tw_163 d_so_layOut_12 (fun w3 hI3 e3 => ?_)
    refine bg_iconst C d_so_layOut_15 ?_
    refine bg_istore_n C d_so_layOut_16 rfl (Nat.le_of_ble_eq_true rfl) ?_
    refine bg_loop (α := bgW × Int) (fun a => (50 - a.2).toNat) (fun a => bgRel w0 a.1 ∧ 0 ≤ a.2 ∧ a.2 ≤ 50) (fun a => (a.1, [some (br 4), some (br 14), some (bi a.2)], [])) ?_ (w3, 0) ⟨hI3, by (try dsimp only) <;> omega, by (try dsimp only) <;> omega⟩
    rintro ⟨w4, i4⟩ ⟨hI4, q4_0, q4_1⟩ ih17
    try dsimp only at ih17
    try dsimp only at q4_0
    try dsimp only at q4_1
    try dsimp only
    refine bg_iload_n C d_so_layOut_17 rfl rfl ?_
    refine bg_bipush C d_so_layOut_18 (by decide +kernel) ?_
    refine bg_icmp_ge (tgt := 40) C d_so_layOut_20 (by decide) ⟨by omega, by omega⟩ ⟨by omega, by omega⟩ (fun h5 => ?_) (fun h5 => ?_)
    · refine bg_aload_n C d_so_layOut_40 rfl rfl ?_
      refine bg_iconst C d_so_layOut_41 ?_
      refine bg_ci C (m_so_writeMark hG hI4.1 (by omega) (by omega)) (bg_invV C cf_so rfl tw_293 ti_so_writeMark ts_so_writeMark tc_so_writeMark tw_38 ⟨by decide, by decide⟩ (nA := 1) (by decide +kernel) rfl d_so_layOut_42 rfl) rfl (by rw [hR]; exact ⟨by decide, by decide⟩) (by rw [hR]; exact ⟨by decide, by decide⟩) (Nat.le_of_ble_eq_true rfl) rfl (fun v6 w6 p6 => ?_)
      obtain ⟨j6, r6_0, r6_1⟩ := p6
      have hI6 := hI4.trans j6
      refine bg_if_eq (tgt := 60) C d_so_layOut_45 (by decide) ⟨by omega, by omega⟩ (fun h7 => ?_) (fun h7 => ?_)
      · refine bg_iconst C d_so_layOut_60 ?_
        exact bg_iret C d_so_layOut_61 (fun h => by cases h) (Or.inr ⟨rfl, by omega⟩) (Nat.zero_le _) (Nat.zero_le _) ⟨_, rfl, hI6, by omega, by omega⟩
      · refine bg_aload_n C d_so_layOut_48 rfl rfl ?_
        refine bg_iconst C d_so_layOut_49 ?_
        refine bg_ci C (m_so_writeHead hG hI6.1 (by omega) (by omega)) (bg_invV C cf_so rfl tw_259 ti_so_writeHead ts_so_writeHead tc_so_writeHead tw_38 ⟨by decide, by decide⟩ (nA := 1) (by decide +kernel) rfl d_so_layOut_50 rfl) rfl (by rw [hR]; exact ⟨by decide, by decide⟩) (by rw [hR]; exact ⟨by decide, by decide⟩) (Nat.le_of_ble_eq_true rfl) rfl (fun v8 w8 p8 => ?_)
        obtain ⟨j8, r8_0, r8_1⟩ := p8
        have hI8 := hI6.trans j8
        refine bg_if_eq (tgt := 60) C d_so_layOut_53 (by decide) ⟨by omega, by omega⟩ (fun h9 => ?_) (fun h9 => ?_)
        · refine bg_iconst C d_so_layOut_60 ?_
          exact bg_iret C d_so_layOut_61 (fun h => by cases h) (Or.inr ⟨rfl, by omega⟩) (Nat.zero_le _) (Nat.zero_le _) ⟨_, rfl, hI8, by omega, by omega⟩
        · refine bg_iconst C d_so_layOut_56 ?_
          refine bg_goto (l := 61) C d_so_layOut_57 (by decide) ?_
          exact bg_iret C d_so_layOut_61 (fun h => by cases h) (Or.inr ⟨rfl, by omega⟩) (Nat.zero_le _) (Nat.zero_le _) ⟨_, rfl, hI8, by omega, by omega⟩
    · refine bg_aload_n C d_so_layOut_23 rfl rfl ?_
      refine bg_iload_n C d_so_layOut_24 rfl rfl ?_
      refine bg_aload_n C d_so_layOut_25 rfl rfl ?_
      refine bg_ci C (m_so_writeHome hG hI4.1 (by omega) (by omega)) (bg_invV C cf_so rfl tw_267 ti_so_writeHome ts_so_writeHome tc_so_writeHome tw_38 ⟨by decide, by decide⟩ (nA := 2) (by decide +kernel) rfl d_so_layOut_26 rfl) rfl (by rw [hR]; exact ⟨by decide, by decide⟩) (by rw [hR]; exact ⟨by decide, by decide⟩) (Nat.le_of_ble_eq_true rfl) rfl (fun v10 w10 p10 => ?_)
      obtain ⟨j10, r10_0, r10_1⟩ := p10
      have hI10 := hI4.trans j10
      refine bg_if_ne (tgt := 34) C d_so_layOut_29 (by decide) ⟨by omega, by omega⟩ (fun h11 => ?_) (fun h11 => ?_)
      · refine bg_iinc C d_so_layOut_34 rfl ?_
        refine bg_goto (l := 17) C d_so_layOut_37 (by decide) ?_
        exact ih17 (w10, (i4 + 1)) ⟨hI10, by (try dsimp only) <;> omega, by (try dsimp only) <;> omega⟩ (by (try dsimp only) <;> omega)
      · refine bg_iconst C d_so_layOut_32 ?_
        exact bg_iret C d_so_layOut_33 (fun h => by cases h) (Or.inr ⟨rfl, by omega⟩) (Nat.zero_le _) (Nat.zero_le _) ⟨_, rfl, hI10, by omega, by omega⟩
  · refine bg_iconst C d_so_layOut_8 ?_
    exact bg_iret C d_so_layOut_9 (fun h => by cases h) (Or.inr ⟨rfl, by omega⟩) (Nat.zero_le _) (Nat.zero_le _) ⟨_, rfl, hI1, by omega, by omega⟩
def rm_so_save : Room := { frames := 4, cells := 0, slots := 0, locals := 126 }
set_option maxRecDepth 20000 in
set_option maxHeartbeats 4000000 in
theorem m_so_save {G : bgGl} (hG : bgOk G) {w0 : bgW} (hw : bgN w0) : bgM G false 0 0 y_so_save (.code y_so_save co_so_save 4 (some .boolean)) rm_so_save [br 4, br 18, br 14] w0 (bgPi (fun v w' => bgRel w0 w' ∧ 0 ≤ v ∧ v ≤ 1)) := by
  refine bg_met hG (by decide +kernel) (bg_cat rfl) (Nat.le_of_ble_eq_true rfl) ?_
  intro K hK hR hex C
  subst hK
  have hI := bgRel.rfl hw
  show bgX K true 0 0 _ w0 0 [some (br 4), some (br 18), some (br 14), none] []
  refine bg_iconst C d_so_save_0 ?_
  refine bg_istore_n C d_so_save_1 rfl (Nat.le_of_ble_eq_true rfl) ?_
  refine bg_weak ?_
  refine bg_loop (α := bgW × Int) (fun a => (20 - a.2).toNat) (fun a => bgRel w0 a.1 ∧ 0 ≤ a.2 ∧ a.2 ≤ 20) (fun a => (a.1, [some (br 4), some (br 18), some (br 14), some (bi a.2)], [])) ?_ (w0, 0) ⟨hI, by (try dsimp only) <;> omega, by (try dsimp only) <;> omega⟩
  rintro ⟨w1, i1⟩ ⟨hI1, q1_0, q1_1⟩ ih2
  try dsimp only at ih2
  try dsimp only at q1_0
  try dsimp only at q1_1
  try dsimp only
  refine bg_iload_n C d_so_save_2 rfl rfl ?_
  refine bg_aload_n C d_so_save_3 rfl rfl ?_
  refine bq_geti C cf_op hI1 4 4 rfl rfl (by decide) rfl (by decide) rfl tw_117 d_so_save_4 (fun v2 e2 a2 b2 => ?_)
  refine bg_icmp_ge (tgt := 27) C d_so_save_7 (by decide) ⟨by omega, by omega⟩ ⟨by omega, by omega⟩ (fun h3 => ?_) (fun h3 => ?_)
  · refine bg_aload_n C d_so_save_27 rfl rfl ?_
    refine bg_aload_n C d_so_save_28 rfl rfl ?_
    refine bq_geti C cf_op hI1 4 4 rfl rfl (by decide) rfl (by decide) rfl tw_117 d_so_save_29 (fun v4 e4 a4 b4 => ?_)
    refine bg_ci C (m_so_writeMark hG hI1.1 (by omega) (by omega)) (bg_invV C cf_so rfl tw_293 ti_so_writeMark ts_so_writeMark tc_so_writeMark tw_38 ⟨by decide, by decide⟩ (nA := 1) (by decide +kernel) rfl d_so_save_32 rfl) rfl (by rw [hR]; exact ⟨by decide, by decide⟩) (by rw [hR]; exact ⟨by decide, by decide⟩) (Nat.le_of_ble_eq_true rfl) rfl (fun v5 w5 p5 => ?_)
    obtain ⟨j5, r5_0, r5_1⟩ := p5
    have hI5 := hI1.trans j5
    refine bg_if_ne (tgt := 40) C d_so_save_35 (by decide) ⟨by omega, by omega⟩ (fun h6 => ?_) (fun h6 => ?_)
    · refine bg_aload_n C d_so_save_40 rfl rfl ?_
      refine bg_dup C d_so_save_41 rfl ?_
      refine bq_get0 C cf_so 5 5 rfl rfl (by decide) rfl tw_163 d_so_save_42 (fun v7 e7 => ?_)
      refine bg_iconst C d_so_save_45 ?_
      refine bg_iadd C d_so_save_46 ?_
      refine bq_put0 C cf_so hI5 5 5 rfl rfl (by decide) rfl (by decide) rfl rfl rfl tw_163 d_so_save_47 (fun w8 hI8 e8 => ?_)
      refine bg_aload_n C d_so_save_50 rfl rfl ?_
      refine bg_aload_n C d_so_save_51 rfl rfl ?_
      refine bg_ci C (m_so_bringHome hG hI8.1) (bg_invV C cf_so rfl tw_319 ti_so_bringHome ts_so_bringHome tc_so_bringHome tw_38 ⟨by decide, by decide⟩ (nA := 1) (by decide +kernel) rfl d_so_save_52 rfl) rfl (by rw [hR]; exact ⟨by decide, by decide⟩) (by rw [hR]; exact ⟨by decide, by decide⟩) (Nat.le_of_ble_eq_true rfl) rfl (fun v9 w9 p9 => ?_)
      obtain ⟨j9, r9_0, r9_1⟩ := p9
      have hI9 := hI8.trans j9
      exact bg_iret C d_so_save_55 (fun h => by cases h) (Or.inr ⟨rfl, by omega⟩) (Nat.zero_le _) (Nat.zero_le _) ⟨_, rfl, hI9, by omega, by omega⟩
    · refine bg_iconst C d_so_save_38 ?_
      exact bg_iret C d_so_save_39 (fun h => by cases h) (Or.inr ⟨rfl, by omega⟩) (Nat.zero_le _) (Nat.zero_le _) ⟨_, rfl, hI5, by omega, by omega⟩
  · refine bg_aload_n C d_so_save_10 rfl rfl ?_
    refine bg_aload_n C d_so_save_11 rfl rfl ?_
    refine bg_iload_n C d_so_save_12 rfl rfl ?_
    refine bg_ci C (m_so_writeLog hG hI1.1 (by omega) (by omega)) (bg_invV C cf_so rfl tw_522 ti_so_writeLog ts_so_writeLog tc_so_writeLog tw_38 ⟨by decide, by decide⟩ (nA := 2) (by decide +kernel) rfl d_so_save_13 rfl) rfl (by rw [hR]; exact ⟨by decide, by decide⟩) (by rw [hR]; exact ⟨by decide, by decide⟩) (Nat.le_of_ble_eq_true rfl) rfl (fun v10 w10 p10 => ?_)
    obtain ⟨j10, r10_0, r10_1⟩ := p10
    have hI10 := hI1.trans j10
    refine bg_if_ne (tgt := 21) C d_so_save_16 (by decide) ⟨by omega, by omega⟩ (fun h11 => ?_) (fun h11 => ?_)
    · refine bg_iinc C d_so_save_21 rfl ?_
      refine bg_goto (l := 2) C d_so_save_24 (by decide) ?_
      exact ih2 (w10, (i1 + 1)) ⟨hI10, by (try dsimp only) <;> omega, by (try dsimp only) <;> omega⟩ (by (try dsimp only) <;> omega)
    · refine bg_iconst C d_so_save_19 ?_
      exact bg_iret C d_so_save_20 (fun h => by cases h) (Or.inr ⟨rfl, by omega⟩) (Nat.zero_le _) (Nat.zero_le _) ⟨_, rfl, hI10, by omega, by omega⟩
def rm_so_replay : Room := { frames := 4, cells := 0, slots := 0, locals := 126 }
set_option maxRecDepth 20000 in
set_option maxHeartbeats 4000000 in
theorem m_so_replay {G : bgGl} (hG : bgOk G) {w0 : bgW} (hw : bgN w0) : bgM G false 0 0 y_so_replay (.code y_so_replay co_so_replay 2 (some .boolean)) rm_so_replay [br 4, br 14] w0 (bgPi (fun v w' => bgRel w0 w' ∧ 0 ≤ v ∧ v ≤ 1)) := by
  refine bg_met hG (by decide +kernel) (bg_cat rfl) (Nat.le_of_ble_eq_true rfl) ?_
  intro K hK hR hex C
  subst hK
  have hI := bgRel.rfl hw
  show bgX K true 0 0 _ w0 0 [some (br 4), some (br 14)] []
  refine bg_aload_n C d_so_replay_0 rfl rfl ?_
  refine bg_aload_n C d_so_replay_1 rfl rfl ?_
  refine bg_getr (i := 3) C cf_so rfl (by decide) rfl tw_159 d_so_replay_2 ?_
  refine bg_cv C (m_et_copyAll hG hI.1) (bg_invV C cf_et rfl tw_309 ti_et_copyAll ts_et_copyAll tc_et_copyAll tw_40 ⟨by decide, by decide⟩ (nA := 1) (by decide +kernel) rfl d_so_replay_5 rfl) rfl (by rw [hR]; exact ⟨by decide, by decide⟩) (by rw [hR]; exact ⟨by decide, by decide⟩) (Nat.le_of_ble_eq_true rfl) rfl (fun w1 p1 => ?_)
  have j1 := p1
  have hI1 := hI.trans j1
  refine bg_aload_n C d_so_replay_8 rfl rfl ?_
  refine bg_getr (i := 2) C cf_so rfl (by decide) rfl tw_158 d_so_replay_9 ?_
  refine bg_aload_n C d_so_replay_12 rfl rfl ?_
  refine bg_cv C (m_op_doAll hG hI1.1) (bg_invV C cf_op rfl tw_314 ti_op_doAll ts_op_doAll tc_op_doAll tw_39 ⟨by decide, by decide⟩ (nA := 1) (by decide +kernel) rfl d_so_replay_13 rfl) rfl (by rw [hR]; exact ⟨by decide, by decide⟩) (by rw [hR]; exact ⟨by decide, by decide⟩) (Nat.le_of_ble_eq_true rfl) rfl (fun w2 p2 => ?_)
  have j2 := p2
  have hI2 := hI1.trans j2
  refine bg_aload_n C d_so_replay_16 rfl rfl ?_
  refine bg_getr (i := 2) C cf_so rfl (by decide) rfl tw_158 d_so_replay_17 ?_
  refine bq_geti C cf_op hI2 4 4 rfl rfl (by decide) rfl (by decide) rfl tw_117 d_so_replay_20 (fun v3 e3 a3 b3 => ?_)
  refine bg_if_eq (tgt := 34) C d_so_replay_23 (by decide) ⟨by omega, by omega⟩ (fun h4 => ?_) (fun h4 => ?_)
  · refine bg_iconst C d_so_replay_34 ?_
    refine bg_goto (l := 39) C d_so_replay_35 (by decide) ?_
    exact bg_iret C d_so_replay_39 (fun h => by cases h) (Or.inr ⟨rfl, by omega⟩) (Nat.zero_le _) (Nat.zero_le _) ⟨_, rfl, hI2, by omega, by omega⟩
  · refine bg_aload_n C d_so_replay_26 rfl rfl ?_
    refine bg_aload_n C d_so_replay_27 rfl rfl ?_
    refine bg_ci C (m_so_bringHome hG hI2.1) (bg_invV C cf_so rfl tw_319 ti_so_bringHome ts_so_bringHome tc_so_bringHome tw_38 ⟨by decide, by decide⟩ (nA := 1) (by decide +kernel) rfl d_so_replay_28 rfl) rfl (by rw [hR]; exact ⟨by decide, by decide⟩) (by rw [hR]; exact ⟨by decide, by decide⟩) (Nat.le_of_ble_eq_true rfl) rfl (fun v5 w5 p5 => ?_)
    obtain ⟨j5, r5_0, r5_1⟩ := p5
    have hI5 := hI2.trans j5
    refine bg_if_eq (tgt := 38) C d_so_replay_31 (by decide) ⟨by omega, by omega⟩ (fun h6 => ?_) (fun h6 => ?_)
    · refine bg_iconst C d_so_replay_38 ?_
      exact bg_iret C d_so_replay_39 (fun h => by cases h) (Or.inr ⟨rfl, by omega⟩) (Nat.zero_le _) (Nat.zero_le _) ⟨_, rfl, hI5, by omega, by omega⟩
    · refine bg_iconst C d_so_replay_34 ?_
      refine bg_goto (l := 39) C d_so_replay_35 (by decide) ?_
      exact bg_iret C d_so_replay_39 (fun h => by cases h) (Or.inr ⟨rfl, by omega⟩) (Nat.zero_le _) (Nat.zero_le _) ⟨_, rfl, hI5, by omega, by omega⟩
end
section
def rm_wy_forget : Room := { frames := 0, cells := 0, slots := 0, locals := 0 }
set_option maxRecDepth 20000 in
set_option maxHeartbeats 4000000 in
theorem m_wy_forget {G : bgGl} (hG : bgOk G) {w0 : bgW} (hw : bgN w0) : bgM G false 0 0 y_wy_forget (.code y_wy_forget co_wy_forget 1 none) rm_wy_forget [br 23] w0 (bgPv (fun w' => bgRel w0 w')) := by
  refine bg_met hG (by decide +kernel) (bg_cat rfl) (Nat.le_of_ble_eq_true rfl) ?_
  intro K hK hR hex C
  subst hK
  have hI := bgRel.rfl hw
  show bgX K true 0 0 _ w0 0 [some (br 23)] []
  refine bg_aload_n C d_wy_forget_0 rfl rfl ?_
  refine bg_iconst C d_wy_forget_1 ?_
  refine bq_puti C cf_wy hI 3 3 rfl rfl (by decide) rfl (by decide) rfl (by omega) (by omega) rfl (Or.inr ⟨rfl, by omega⟩) tw_193 d_wy_forget_2 (fun w1 hI1 e1 => ?_)
  exact bg_ret C d_wy_forget_5 (fun h => by cases h) rfl (Nat.zero_le _) (Nat.zero_le _) ⟨rfl, hI1⟩
def rm_wy_leadsOn : Room := { frames := 1, cells := 0, slots := 0, locals := 21 }
set_option maxRecDepth 20000 in
set_option maxHeartbeats 4000000 in
theorem m_wy_leadsOn {G : bgGl} (hG : bgOk G) {w0 : bgW} (hw : bgN w0) {e : Int} (z0 : 0 ≤ e) (z1 : e ≤ 199) : bgM G true 0 0 y_wy_leadsOn (.code y_wy_leadsOn co_wy_leadsOn 3 (some .boolean)) rm_wy_leadsOn [br 23, br 14, bi e] w0 (bgPi (fun v w' => w0 = w' ∧ 0 ≤ v ∧ v ≤ 1)) := by
  refine bg_met hG (by decide +kernel) (bg_cat rfl) (Nat.le_of_ble_eq_true rfl) ?_
  intro K hK hR hex C
  subst hK
  have hI := bgRel.rfl hw
  show bgX K true 0 0 _ w0 0 [some (br 23), some (br 14), some (bi e)] []
  refine bg_aload_n C d_wy_leadsOn_0 rfl rfl ?_
  refine bg_iload_n C d_wy_leadsOn_1 rfl rfl ?_
  refine bg_ci C (m_et_has hG hI.1 (by omega) (by omega)) (bg_invV C cf_et rfl tw_591 ti_et_has ts_et_has tc_et_has tw_40 ⟨by decide, by decide⟩ (nA := 1) (by decide +kernel) rfl d_wy_leadsOn_2 rfl) rfl (by rw [hR]; exact ⟨by decide, by decide⟩) (by rw [hR]; exact ⟨by decide, by decide⟩) (Nat.le_of_ble_eq_true rfl) rfl (fun v1 w1 p1 => ?_)
  obtain ⟨rfl, r1_0, r1_1, r1_2⟩ := p1
  refine bg_if_eq (tgt := 27) C d_wy_leadsOn_5 (by decide) ⟨by omega, by omega⟩ (fun h2 => ?_) (fun h2 => ?_)
  · refine bg_iconst C d_wy_leadsOn_27 ?_
    exact bg_iret C d_wy_leadsOn_28 (fun _ => rfl) (Or.inr ⟨rfl, by omega⟩) (Nat.zero_le _) (Nat.zero_le _) ⟨_, rfl, rfl, by omega, by omega⟩
  · refine bg_aload_n C d_wy_leadsOn_8 rfl rfl ?_
    refine bg_getr (i := 0) C cf_wy rfl (by decide) rfl tw_188 d_wy_leadsOn_9 ?_
    refine bg_aload_n C d_wy_leadsOn_12 rfl rfl ?_
    refine bg_getr (i := 0) C cf_et rfl (by decide) rfl tw_137 d_wy_leadsOn_13 ?_
    refine bg_iload_n C d_wy_leadsOn_16 rfl rfl ?_
    refine bq_iald C hI rfl (by decide) rfl (by omega) (by omega) d_wy_leadsOn_17 (fun v3 e3 a3 b3 => ?_)
    refine bq_iald0 C rfl (by omega) (by omega) d_wy_leadsOn_18 (fun v4 e4 => ?_)
    refine bg_iconst C d_wy_leadsOn_19 ?_
    refine bg_icmp_eq0 (tgt := 27) C d_wy_leadsOn_20 (by decide) ?_ ?_
    · refine bg_iconst C d_wy_leadsOn_27 ?_
      exact bg_iret C d_wy_leadsOn_28 (fun _ => rfl) (Or.inr ⟨rfl, by omega⟩) (Nat.zero_le _) (Nat.zero_le _) ⟨_, rfl, rfl, by omega, by omega⟩
    · refine bg_iconst C d_wy_leadsOn_23 ?_
      refine bg_goto (l := 28) C d_wy_leadsOn_24 (by decide) ?_
      exact bg_iret C d_wy_leadsOn_28 (fun _ => rfl) (Or.inr ⟨rfl, by omega⟩) (Nat.zero_le _) (Nat.zero_le _) ⟨_, rfl, rfl, by omega, by omega⟩
def rm_wy_shorten : Room := { frames := 2, cells := 0, slots := 0, locals := 43 }
set_option maxRecDepth 20000 in
set_option maxHeartbeats 4000000 in
theorem m_wy_shorten {G : bgGl} (hG : bgOk G) {w0 : bgW} (hw : bgN w0) : bgM G false 0 0 y_wy_shorten (.code y_wy_shorten co_wy_shorten 6 (some .boolean)) rm_wy_shorten [br 23, br 14] w0 (bgPi (fun v w' => bgRel w0 w' ∧ 0 ≤ v ∧ v ≤ 1)) := by
  refine bg_met hG (by decide +kernel) (bg_cat rfl) (Nat.le_of_ble_eq_true rfl) ?_
  intro K hK hR hex C
  subst hK
  have hI := bgRel.rfl hw
  show bgX K true 0 0 _ w0 0 [some (br 23), some (br 14), none, none, none, none] []
  refine bg_iconst C d_wy_shorten_0 ?_
  refine bg_istore_n C d_wy_shorten_1 rfl (Nat.le_of_ble_eq_true rfl) ?_
  refine bg_iconst C d_wy_shorten_2 ?_
  refine bg_istore_n C d_wy_shorten_3 rfl (Nat.le_of_ble_eq_true rfl) ?_
  refine bg_weak ?_
  refine bg_loop (α := bgW × Int × Int) (fun a => (200 - a.2.2).toNat) (fun a => bgRel w0 a.1 ∧ 0 ≤ a.2.1 ∧ a.2.1 ≤ 1 ∧ 0 ≤ a.2.2 ∧ a.2.2 ≤ 200) (fun a => (a.1, [some (br 23), some (br 14), some (bi a.2.1), some (bi a.2.2), none, none], [])) ?_ (w0, 0, 0) ⟨hI, by (try dsimp only) <;> omega, by (try dsimp only) <;> omega, by (try dsimp only) <;> omega, by (try dsimp only) <;> omega⟩
  rintro ⟨w1, c1, i1⟩ ⟨hI1, q1_0, q1_1, q1_2, q1_3⟩ ih4
  try dsimp only at ih4
  try dsimp only at q1_0
  try dsimp only at q1_1
  try dsimp only at q1_2
  try dsimp only at q1_3
  try dsimp only
  refine bg_iload_n C d_wy_shorten_4 rfl rfl ?_
  refine bg_sipush C d_wy_shorten_5 (by decide +kernel) ?_
  refine bg_icmp_ge (tgt := 88) C d_wy_shorten_8 (by decide) ⟨by omega, by omega⟩ ⟨by omega, by omega⟩ (fun h2 => ?_) (fun h2 => ?_)
  · refine bg_iload_n C d_wy_shorten_88 rfl rfl ?_
    exact bg_iret C d_wy_shorten_89 (fun h => by cases h) (Or.inr ⟨rfl, by omega⟩) (Nat.zero_le _) (Nat.zero_le _) ⟨_, rfl, hI1, by omega, by omega⟩
  · refine bg_aload_n C d_wy_shorten_11 rfl rfl ?_
    refine bg_aload_n C d_wy_shorten_12 rfl rfl ?_
    refine bg_iload_n C d_wy_shorten_13 rfl rfl ?_
    refine bg_ci C (m_wy_leadsOn hG hI1.1 (by omega) (by omega)) (bg_invV C cf_wy rfl tw_587 ti_wy_leadsOn ts_wy_leadsOn tc_wy_leadsOn tw_41 ⟨by decide, by decide⟩ (nA := 2) (by decide +kernel) rfl d_wy_shorten_14 rfl) rfl (by rw [hR]; exact ⟨by decide, by decide⟩) (by rw [hR]; exact ⟨by decide, by decide⟩) (Nat.le_of_ble_eq_true rfl) rfl (fun v3 w3 p3 => ?_)
    obtain ⟨rfl, r3_0, r3_1⟩ := p3
    refine bg_if_eq (tgt := 82) C d_wy_shorten_17 (by decide) ⟨by omega, by omega⟩ (fun h4 => ?_) (fun h4 => ?_)
    · refine bg_iinc C d_wy_shorten_82 rfl ?_
      refine bg_goto (l := 4) C d_wy_shorten_85 (by decide) ?_
      exact ih4 (w1, c1, (i1 + 1)) ⟨hI1, by (try dsimp only) <;> omega, by (try dsimp only) <;> omega, by (try dsimp only) <;> omega, by (try dsimp only) <;> omega⟩ (by (try dsimp only) <;> omega)
    · refine bg_aload_n C d_wy_shorten_20 rfl rfl ?_
      refine bg_getr (i := 1) C cf_et rfl (by decide) rfl tw_140 d_wy_shorten_21 ?_
      refine bg_iload_n C d_wy_shorten_24 rfl rfl ?_
      refine bq_iald C hI1 rfl (by decide) rfl (by omega) (by omega) d_wy_shorten_25 (fun v5 e5 a5 b5 => ?_)
      refine bg_istore C d_wy_shorten_26 (Nat.le_of_ble_eq_true rfl) ?_
      refine bg_aload_n C d_wy_shorten_28 rfl rfl ?_
      refine bg_getr (i := 0) C cf_wy rfl (by decide) rfl tw_188 d_wy_shorten_29 ?_
      refine bg_aload_n C d_wy_shorten_32 rfl rfl ?_
      refine bg_getr (i := 0) C cf_et rfl (by decide) rfl tw_137 d_wy_shorten_33 ?_
      refine bg_iload_n C d_wy_shorten_36 rfl rfl ?_
      refine bq_iald C hI1 rfl (by decide) rfl (by omega) (by omega) d_wy_shorten_37 (fun v6 e6 a6 b6 => ?_)
      refine bq_iald0 C rfl (by omega) (by omega) d_wy_shorten_38 (fun v7 e7 => ?_)
      refine bg_aload_n C d_wy_shorten_39 rfl rfl ?_
      refine bg_getr (i := 2) C cf_et rfl (by decide) rfl tw_143 d_wy_shorten_40 ?_
      refine bg_iload_n C d_wy_shorten_43 rfl rfl ?_
      refine bq_iald0 C rfl (by omega) (by omega) d_wy_shorten_44 (fun v8 e8 => ?_)
      refine bg_iadd C d_wy_shorten_45 ?_
      refine bg_istore C d_wy_shorten_46 (Nat.le_of_ble_eq_true rfl) ?_
      refine bg_aload_n C d_wy_shorten_48 rfl rfl ?_
      refine bg_getr (i := 0) C cf_wy rfl (by decide) rfl tw_188 d_wy_shorten_49 ?_
      refine bg_iload C d_wy_shorten_52 rfl ?_
      refine bq_iald0 C rfl (by omega) (by omega) d_wy_shorten_54 (fun v9 e9 => ?_)
      refine bg_iconst C d_wy_shorten_55 ?_
      refine bg_icmp_eq0 (tgt := 71) C d_wy_shorten_56 (by decide) ?_ ?_
      · refine bg_aload_n C d_wy_shorten_71 rfl rfl ?_
        refine bg_getr (i := 0) C cf_wy rfl (by decide) rfl tw_188 d_wy_shorten_72 ?_
        refine bg_iload C d_wy_shorten_75 rfl ?_
        refine bg_iload C d_wy_shorten_77 rfl ?_
        refine bq_iast0 C hI1 rfl (by decide) rfl (by omega) (by omega) d_wy_shorten_79 (fun w11 hI11 e11 => ?_)
        refine bg_iconst C d_wy_shorten_80 ?_
        refine bg_istore_n C d_wy_shorten_81 rfl (Nat.le_of_ble_eq_true rfl) ?_
        refine bg_iinc C d_wy_shorten_82 rfl ?_
        refine bg_goto (l := 4) C d_wy_shorten_85 (by decide) ?_
        refine bg_wl [true, true, true, true, false, false] rfl ?_
        exact ih4 (w11, 1, (i1 + 1)) ⟨hI11, by (try dsimp only) <;> omega, by (try dsimp only) <;> omega, by (try dsimp only) <;> omega, by (try dsimp only) <;> omega⟩ (by (try dsimp only) <;> omega)
      · refine bg_iload C d_wy_shorten_59 rfl ?_
        refine bg_aload_n C d_wy_shorten_61 rfl rfl ?_
        refine bg_getr (i := 0) C cf_wy rfl (by decide) rfl tw_188 d_wy_shorten_62 ?_
        refine bg_iload C d_wy_shorten_65 rfl ?_
        refine bq_iald0 C rfl (by omega) (by omega) d_wy_shorten_67 (fun v12 e12 => ?_)
        refine bg_icmp_ge0 (tgt := 82) C d_wy_shorten_68 (by decide) ?_ ?_
        · refine bg_iinc C d_wy_shorten_82 rfl ?_
          refine bg_goto (l := 4) C d_wy_shorten_85 (by decide) ?_
          refine bg_wl [true, true, true, true, false, false] rfl ?_
          exact ih4 (w1, c1, (i1 + 1)) ⟨hI1, by (try dsimp only) <;> omega, by (try dsimp only) <;> omega, by (try dsimp only) <;> omega, by (try dsimp only) <;> omega⟩ (by (try dsimp only) <;> omega)
        · refine bg_aload_n C d_wy_shorten_71 rfl rfl ?_
          refine bg_getr (i := 0) C cf_wy rfl (by decide) rfl tw_188 d_wy_shorten_72 ?_
          refine bg_iload C d_wy_shorten_75 rfl ?_
          refine bg_iload C d_wy_shorten_77 rfl ?_
          refine bq_iast0 C hI1 rfl (by decide) rfl (by omega) (by omega) d_wy_shorten_79 (fun w14 hI14 e14 => ?_)
          refine bg_iconst C d_wy_shorten_80 ?_
          refine bg_istore_n C d_wy_shorten_81 rfl (Nat.le_of_ble_eq_true rfl) ?_
          refine bg_iinc C d_wy_shorten_82 rfl ?_
          refine bg_goto (l := 4) C d_wy_shorten_85 (by decide) ?_
          refine bg_wl [true, true, true, true, false, false] rfl ?_
          exact ih4 (w14, 1, (i1 + 1)) ⟨hI14, by (try dsimp only) <;> omega, by (try dsimp only) <;> omega, by (try dsimp only) <;> omega, by (try dsimp only) <;> omega⟩ (by (try dsimp only) <;> omega)
def rm_wy_chooseParents : Room := { frames := 2, cells := 0, slots := 0, locals := 43 }
set_option maxRecDepth 20000 in
set_option maxHeartbeats 4000000 in
theorem m_wy_chooseParents {G : bgGl} (hG : bgOk G) {w0 : bgW} (hw : bgN w0) : bgM G false 0 0 y_wy_chooseParents (.code y_wy_chooseParents co_wy_chooseParents 5 none) rm_wy_chooseParents [br 23, br 14] w0 (bgPv (fun w' => bgRel w0 w')) := by
  refine bg_met hG (by decide +kernel) (bg_cat rfl) (Nat.le_of_ble_eq_true rfl) ?_
  intro K hK hR hex C
  subst hK
  have hI := bgRel.rfl hw
  show bgX K true 0 0 _ w0 0 [some (br 23), some (br 14), none, none, none] []
  refine bg_iconst C d_wy_chooseParents_0 ?_
  refine bg_istore_n C d_wy_chooseParents_1 rfl (Nat.le_of_ble_eq_true rfl) ?_
  refine bg_weak ?_
  refine bg_loop (α := bgW × Int) (fun a => (200 - a.2).toNat) (fun a => bgRel w0 a.1 ∧ 0 ≤ a.2 ∧ a.2 ≤ 200) (fun a => (a.1, [some (br 23), some (br 14), some (bi a.2), none, none], [])) ?_ (w0, 0) ⟨hI, by (try dsimp only) <;> omega, by (try dsimp only) <;> omega⟩
  rintro ⟨w1, i1⟩ ⟨hI1, q1_0, q1_1⟩ ih2
  try dsimp only at ih2
  try dsimp only at q1_0
  try dsimp only at q1_1
  try dsimp only
  refine bg_iload_n C d_wy_chooseParents_2 rfl rfl ?_
  refine bg_sipush C d_wy_chooseParents_3 (by decide +kernel) ?_
  refine bg_icmp_ge (tgt := 89) C d_wy_chooseParents_6 (by decide) ⟨by omega, by omega⟩ ⟨by omega, by omega⟩ (fun h2 => ?_) (fun h2 => ?_)
  · exact bg_ret C d_wy_chooseParents_89 (fun h => by cases h) rfl (Nat.zero_le _) (Nat.zero_le _) ⟨rfl, hI1⟩
  · refine bg_aload_n C d_wy_chooseParents_9 rfl rfl ?_
    refine bg_aload_n C d_wy_chooseParents_10 rfl rfl ?_
    refine bg_iload_n C d_wy_chooseParents_11 rfl rfl ?_
    refine bg_ci C (m_wy_leadsOn hG hI1.1 (by omega) (by omega)) (bg_invV C cf_wy rfl tw_587 ti_wy_leadsOn ts_wy_leadsOn tc_wy_leadsOn tw_41 ⟨by decide, by decide⟩ (nA := 2) (by decide +kernel) rfl d_wy_chooseParents_12 rfl) rfl (by rw [hR]; exact ⟨by decide, by decide⟩) (by rw [hR]; exact ⟨by decide, by decide⟩) (Nat.le_of_ble_eq_true rfl) rfl (fun v3 w3 p3 => ?_)
    obtain ⟨rfl, r3_0, r3_1⟩ := p3
    refine bg_if_eq (tgt := 83) C d_wy_chooseParents_15 (by decide) ⟨by omega, by omega⟩ (fun h4 => ?_) (fun h4 => ?_)
    · refine bg_iinc C d_wy_chooseParents_83 rfl ?_
      refine bg_goto (l := 2) C d_wy_chooseParents_86 (by decide) ?_
      exact ih2 (w1, (i1 + 1)) ⟨hI1, by (try dsimp only) <;> omega, by (try dsimp only) <;> omega⟩ (by (try dsimp only) <;> omega)
    · refine bg_aload_n C d_wy_chooseParents_18 rfl rfl ?_
      refine bg_getr (i := 0) C cf_et rfl (by decide) rfl tw_137 d_wy_chooseParents_19 ?_
      refine bg_iload_n C d_wy_chooseParents_22 rfl rfl ?_
      refine bq_iald C hI1 rfl (by decide) rfl (by omega) (by omega) d_wy_chooseParents_23 (fun v5 e5 a5 b5 => ?_)
      refine bg_istore_n C d_wy_chooseParents_24 rfl (Nat.le_of_ble_eq_true rfl) ?_
      refine bg_aload_n C d_wy_chooseParents_25 rfl rfl ?_
      refine bg_getr (i := 1) C cf_et rfl (by decide) rfl tw_140 d_wy_chooseParents_26 ?_
      refine bg_iload_n C d_wy_chooseParents_29 rfl rfl ?_
      refine bq_iald C hI1 rfl (by decide) rfl (by omega) (by omega) d_wy_chooseParents_30 (fun v6 e6 a6 b6 => ?_)
      refine bg_istore C d_wy_chooseParents_31 (Nat.le_of_ble_eq_true rfl) ?_
      refine bg_aload_n C d_wy_chooseParents_33 rfl rfl ?_
      refine bg_getr (i := 1) C cf_wy rfl (by decide) rfl tw_190 d_wy_chooseParents_34 ?_
      refine bg_iload C d_wy_chooseParents_37 rfl ?_
      refine bq_iald0 C rfl (by omega) (by omega) d_wy_chooseParents_39 (fun v7 e7 => ?_)
      refine bg_iconst C d_wy_chooseParents_40 ?_
      refine bg_icmp_ne0 (tgt := 83) C d_wy_chooseParents_41 (by decide) ?_ ?_
      · refine bg_iinc C d_wy_chooseParents_83 rfl ?_
        refine bg_goto (l := 2) C d_wy_chooseParents_86 (by decide) ?_
        refine bg_wl [true, true, true, false, false] rfl ?_
        exact ih2 (w1, (i1 + 1)) ⟨hI1, by (try dsimp only) <;> omega, by (try dsimp only) <;> omega⟩ (by (try dsimp only) <;> omega)
      · refine bg_aload_n C d_wy_chooseParents_44 rfl rfl ?_
        refine bg_getr (i := 0) C cf_wy rfl (by decide) rfl tw_188 d_wy_chooseParents_45 ?_
        refine bg_iload_n C d_wy_chooseParents_48 rfl rfl ?_
        refine bq_iald0 C rfl (by omega) (by omega) d_wy_chooseParents_49 (fun v9 e9 => ?_)
        refine bg_aload_n C d_wy_chooseParents_50 rfl rfl ?_
        refine bg_getr (i := 2) C cf_et rfl (by decide) rfl tw_143 d_wy_chooseParents_51 ?_
        refine bg_iload_n C d_wy_chooseParents_54 rfl rfl ?_
        refine bq_iald0 C rfl (by omega) (by omega) d_wy_chooseParents_55 (fun v10 e10 => ?_)
        refine bg_iadd C d_wy_chooseParents_56 ?_
        refine bg_aload_n C d_wy_chooseParents_57 rfl rfl ?_
        refine bg_getr (i := 0) C cf_wy rfl (by decide) rfl tw_188 d_wy_chooseParents_58 ?_
        refine bg_iload C d_wy_chooseParents_61 rfl ?_
        refine bq_iald0 C rfl (by omega) (by omega) d_wy_chooseParents_63 (fun v11 e11 => ?_)
        refine bg_icmp_ne0 (tgt := 83) C d_wy_chooseParents_64 (by decide) ?_ ?_
        · refine bg_iinc C d_wy_chooseParents_83 rfl ?_
          refine bg_goto (l := 2) C d_wy_chooseParents_86 (by decide) ?_
          refine bg_wl [true, true, true, false, false] rfl ?_
          exact ih2 (w1, (i1 + 1)) ⟨hI1, by (try dsimp only) <;> omega, by (try dsimp only) <;> omega⟩ (by (try dsimp only) <;> omega)
        · refine bg_aload_n C d_wy_chooseParents_67 rfl rfl ?_
          refine bg_getr (i := 1) C cf_wy rfl (by decide) rfl tw_190 d_wy_chooseParents_68 ?_
          refine bg_iload C d_wy_chooseParents_71 rfl ?_
          refine bg_iload_n C d_wy_chooseParents_73 rfl rfl ?_
          refine bq_iast0 C hI1 rfl (by decide) rfl (by omega) (by omega) d_wy_chooseParents_74 (fun w13 hI13 e13 => ?_)
          refine bg_aload_n C d_wy_chooseParents_75 rfl rfl ?_
          refine bg_getr (i := 2) C cf_wy rfl (by decide) rfl tw_192 d_wy_chooseParents_76 ?_
          refine bg_iload C d_wy_chooseParents_79 rfl ?_
          refine bg_iload_n C d_wy_chooseParents_81 rfl rfl ?_
          refine bq_iast C hI13 rfl (by decide) rfl (by omega) (by omega) (by omega) (by omega) d_wy_chooseParents_82 (fun w14 hI14 e14 => ?_)
          refine bg_iinc C d_wy_chooseParents_83 rfl ?_
          refine bg_goto (l := 2) C d_wy_chooseParents_86 (by decide) ?_
          refine bg_wl [true, true, true, false, false] rfl ?_
          exact ih2 (w14, (i1 + 1)) ⟨hI14, by (try dsimp only) <;> omega, by (try dsimp only) <;> omega⟩ (by (try dsimp only) <;> omega)
def rm_wy_countReached : Room := { frames := 0, cells := 0, slots := 0, locals := 0 }
set_option maxRecDepth 20000 in
set_option maxHeartbeats 4000000 in
theorem m_wy_countReached {G : bgGl} (hG : bgOk G) {w0 : bgW} (hw : bgN w0) : bgM G true 0 0 y_wy_countReached (.code y_wy_countReached co_wy_countReached 3 (some .int)) rm_wy_countReached [br 23] w0 (bgPi (fun v w' => w0 = w')) := by
  refine bg_met hG (by decide +kernel) (bg_cat rfl) (Nat.le_of_ble_eq_true rfl) ?_
  intro K hK hR hex C
  subst hK
  have hI := bgRel.rfl hw
  show bgX K true 0 0 _ w0 0 [some (br 23), none, none] []
  refine bg_iconst C d_wy_countReached_0 ?_
  refine bg_istore_n C d_wy_countReached_1 rfl (Nat.le_of_ble_eq_true rfl) ?_
  refine bg_iconst C d_wy_countReached_2 ?_
  refine bg_istore_n C d_wy_countReached_3 rfl (Nat.le_of_ble_eq_true rfl) ?_
  refine bg_loop (α := Int × Int) (fun a => (64 - a.2).toNat) (fun a => 0 ≤ a.2 ∧ a.2 ≤ 64) (fun a => (w0, [some (br 23), some (bi a.1), some (bi a.2)], [])) ?_ (0, 0) ⟨by (try dsimp only) <;> omega, by (try dsimp only) <;> omega⟩
  rintro ⟨c1, i1⟩ ⟨q1_0, q1_1⟩ ih4
  try dsimp only at ih4
  try dsimp only at q1_0
  try dsimp only at q1_1
  try dsimp only
  refine bg_iload_n C d_wy_countReached_4 rfl rfl ?_
  refine bg_bipush C d_wy_countReached_5 (by decide +kernel) ?_
  refine bg_icmp_ge (tgt := 29) C d_wy_countReached_7 (by decide) ⟨by omega, by omega⟩ ⟨by omega, by omega⟩ (fun h2 => ?_) (fun h2 => ?_)
  · refine bg_iload_n C d_wy_countReached_29 rfl rfl ?_
    exact bg_iret C d_wy_countReached_30 (fun _ => rfl) (Or.inl rfl) (Nat.zero_le _) (Nat.zero_le _) ⟨_, rfl, rfl⟩
  · refine bg_aload_n C d_wy_countReached_10 rfl rfl ?_
    refine bg_getr (i := 0) C cf_wy rfl (by decide) rfl tw_188 d_wy_countReached_11 ?_
    refine bg_iload_n C d_wy_countReached_14 rfl rfl ?_
    refine bq_iald0 C rfl (by omega) (by omega) d_wy_countReached_15 (fun v3 e3 => ?_)
    refine bg_iconst C d_wy_countReached_16 ?_
    refine bg_icmp_eq0 (tgt := 23) C d_wy_countReached_17 (by decide) ?_ ?_
    · refine bg_iinc C d_wy_countReached_23 rfl ?_
      refine bg_goto (l := 4) C d_wy_countReached_26 (by decide) ?_
      exact ih4 (c1, (i1 + 1)) ⟨by (try dsimp only) <;> omega, by (try dsimp only) <;> omega⟩ (by (try dsimp only) <;> omega)
    · refine bg_iinc C d_wy_countReached_20 rfl ?_
      refine bg_iinc C d_wy_countReached_23 rfl ?_
      refine bg_goto (l := 4) C d_wy_countReached_26 (by decide) ?_
      exact ih4 ((c1 + 1), (i1 + 1)) ⟨by (try dsimp only) <;> omega, by (try dsimp only) <;> omega⟩ (by (try dsimp only) <;> omega)
def rm_wy_length : Room := { frames := 0, cells := 0, slots := 0, locals := 0 }
set_option maxRecDepth 20000 in
set_option maxHeartbeats 4000000 in
theorem m_wy_length {G : bgGl} (hG : bgOk G) {w0 : bgW} (hw : bgN w0) {x : Int} (z0 : 0 ≤ x) (z1 : x ≤ 63) : bgM G true 0 0 y_wy_length (.code y_wy_length co_wy_length 4 (some .int)) rm_wy_length [br 23, bi x] w0 (bgPi (fun v w' => w0 = w' ∧ 0 ≤ v ∧ v ≤ 64)) := by
  refine bg_met hG (by decide +kernel) (bg_cat rfl) (Nat.le_of_ble_eq_true rfl) ?_
  intro K hK hR hex C
  subst hK
  have hI := bgRel.rfl hw
  show bgX K true 0 0 _ w0 0 [some (br 23), some (bi x), none, none] []
  refine bg_aload_n C d_wy_length_0 rfl rfl ?_
  refine bg_getr (i := 0) C cf_wy rfl (by decide) rfl tw_188 d_wy_length_1 ?_
  refine bg_iload_n C d_wy_length_4 rfl rfl ?_
  refine bq_iald0 C rfl (by omega) (by omega) d_wy_length_5 (fun v1 e1 => ?_)
  refine bg_iconst C d_wy_length_6 ?_
  refine bg_icmp_ne0 (tgt := 12) C d_wy_length_7 (by decide) ?_ ?_
  · refine bg_iconst C d_wy_length_12 ?_
    refine bg_istore_n C d_wy_length_13 rfl (Nat.le_of_ble_eq_true rfl) ?_
    refine bg_iload_n C d_wy_length_14 rfl rfl ?_
    refine bg_istore_n C d_wy_length_15 rfl (Nat.le_of_ble_eq_true rfl) ?_
    refine bg_loop (α := Int × Int) (fun a => (64 - a.1).toNat) (fun a => 1 ≤ a.1 ∧ a.1 ≤ 64 ∧ 0 ≤ a.2 ∧ a.2 ≤ 63) (fun a => (w0, [some (br 23), some (bi x), some (bi a.1), some (bi a.2)], [])) ?_ (1, x) ⟨by (try dsimp only) <;> omega, by (try dsimp only) <;> omega, by (try dsimp only) <;> omega, by (try dsimp only) <;> omega⟩
    rintro ⟨c3, y3⟩ ⟨q3_0, q3_1, q3_2, q3_3⟩ ih16
    try dsimp only at ih16
    try dsimp only at q3_0
    try dsimp only at q3_1
    try dsimp only at q3_2
    try dsimp only at q3_3
    try dsimp only
    refine bg_aload_n C d_wy_length_16 rfl rfl ?_
    refine bg_getr (i := 1) C cf_wy rfl (by decide) rfl tw_190 d_wy_length_17 ?_
    refine bg_iload_n C d_wy_length_20 rfl rfl ?_
    refine bq_iald0 C rfl (by omega) (by omega) d_wy_length_21 (fun v4 e4 => ?_)
    refine bg_iconst C d_wy_length_22 ?_
    refine bg_icmp_eq0 (tgt := 45) C d_wy_length_23 (by decide) ?_ ?_
    · refine bg_iload_n C d_wy_length_45 rfl rfl ?_
      exact bg_iret C d_wy_length_46 (fun _ => rfl) (Or.inl rfl) (Nat.zero_le _) (Nat.zero_le _) ⟨_, rfl, rfl, by omega, by omega⟩
    · refine bg_iload_n C d_wy_length_26 rfl rfl ?_
      refine bg_bipush C d_wy_length_27 (by decide +kernel) ?_
      refine bg_icmp_ge (tgt := 45) C d_wy_length_29 (by decide) ⟨by omega, by omega⟩ ⟨by omega, by omega⟩ (fun h6 => ?_) (fun h6 => ?_)
      · refine bg_iload_n C d_wy_length_45 rfl rfl ?_
        exact bg_iret C d_wy_length_46 (fun _ => rfl) (Or.inl rfl) (Nat.zero_le _) (Nat.zero_le _) ⟨_, rfl, rfl, by omega, by omega⟩
      · refine bg_iinc C d_wy_length_32 rfl ?_
        refine bg_aload_n C d_wy_length_35 rfl rfl ?_
        refine bg_getr (i := 2) C cf_wy rfl (by decide) rfl tw_192 d_wy_length_36 ?_
        refine bg_iload_n C d_wy_length_39 rfl rfl ?_
        refine bq_iald C hI rfl (by decide) rfl (by omega) (by omega) d_wy_length_40 (fun v7 e7 a7 b7 => ?_)
        refine bg_istore_n C d_wy_length_41 rfl (Nat.le_of_ble_eq_true rfl) ?_
        refine bg_goto (l := 16) C d_wy_length_42 (by decide) ?_
        exact ih16 ((c3 + 1), v7) ⟨by (try dsimp only) <;> omega, by (try dsimp only) <;> omega, by (try dsimp only) <;> omega, by (try dsimp only) <;> omega⟩ (by (try dsimp only) <;> omega)
  · refine bg_iconst C d_wy_length_10 ?_
    exact bg_iret C d_wy_length_11 (fun _ => rfl) (Or.inl rfl) (Nat.zero_le _) (Nat.zero_le _) ⟨_, rfl, rfl, by omega, by omega⟩
def rm_wy_goBack : Room := { frames := 0, cells := 0, slots := 0, locals := 0 }
set_option maxRecDepth 20000 in
set_option maxHeartbeats 4000000 in
theorem m_wy_goBack {G : bgGl} (hG : bgOk G) {w0 : bgW} (hw : bgN w0) {x k : Int} (z0 : 0 ≤ x) (z1 : x ≤ 63) (z2 : -2147483648 ≤ k) (z3 : k ≤ 2147483647) : bgM G true 0 0 y_wy_goBack (.code y_wy_goBack co_wy_goBack 5 (some .int)) rm_wy_goBack [br 23, bi x, bi k] w0 (bgPi (fun v w' => w0 = w')) := by
  refine bg_met hG (by decide +kernel) (bg_cat rfl) (Nat.le_of_ble_eq_true rfl) ?_
  intro K hK hR hex C
  subst hK
  have hI := bgRel.rfl hw
  show bgX K true 0 0 _ w0 0 [some (br 23), some (bi x), some (bi k), none, none] []
  refine bg_iload_n C d_wy_goBack_0 rfl rfl ?_
  refine bg_istore_n C d_wy_goBack_1 rfl (Nat.le_of_ble_eq_true rfl) ?_
  refine bg_iconst C d_wy_goBack_2 ?_
  refine bg_istore C d_wy_goBack_3 (Nat.le_of_ble_eq_true rfl) ?_
  refine bg_loop (α := Int × Int) (fun a => (k - a.2).toNat) (fun a => 0 ≤ a.1 ∧ a.1 ≤ 63 ∧ 0 ≤ a.2 ∧ (a.2 = 0 ∨ a.2 ≤ k)) (fun a => (w0, [some (br 23), some (bi x), some (bi k), some (bi a.1), some (bi a.2)], [])) ?_ (x, 0) ⟨by (try dsimp only) <;> omega, by (try dsimp only) <;> omega, by (try dsimp only) <;> omega, by (try dsimp only) <;> omega⟩
  rintro ⟨y1, i1⟩ ⟨q1_0, q1_1, q1_2, q1_3⟩ ih5
  try dsimp only at ih5
  try dsimp only at q1_0
  try dsimp only at q1_1
  try dsimp only at q1_2
  try dsimp only at q1_3
  try dsimp only
  refine bg_iload C d_wy_goBack_5 rfl ?_
  refine bg_iload_n C d_wy_goBack_7 rfl rfl ?_
  refine bg_icmp_ge (tgt := 24) C d_wy_goBack_8 (by decide) ⟨by omega, by omega⟩ ⟨by omega, by omega⟩ (fun h2 => ?_) (fun h2 => ?_)
  · refine bg_iload_n C d_wy_goBack_24 rfl rfl ?_
    exact bg_iret C d_wy_goBack_25 (fun _ => rfl) (Or.inl rfl) (Nat.zero_le _) (Nat.zero_le _) ⟨_, rfl, rfl⟩
  · refine bg_aload_n C d_wy_goBack_11 rfl rfl ?_
    refine bg_getr (i := 2) C cf_wy rfl (by decide) rfl tw_192 d_wy_goBack_12 ?_
    refine bg_iload_n C d_wy_goBack_15 rfl rfl ?_
    refine bq_iald C hI rfl (by decide) rfl (by omega) (by omega) d_wy_goBack_16 (fun v3 e3 a3 b3 => ?_)
    refine bg_istore_n C d_wy_goBack_17 rfl (Nat.le_of_ble_eq_true rfl) ?_
    refine bg_iinc C d_wy_goBack_18 rfl ?_
    refine bg_goto (l := 5) C d_wy_goBack_21 (by decide) ?_
    exact ih5 (v3, (i1 + 1)) ⟨by (try dsimp only) <;> omega, by (try dsimp only) <;> omega, by (try dsimp only) <;> omega, by (try dsimp only) <;> omega⟩ (by (try dsimp only) <;> omega)
def rm_wy_measure : Room := { frames := 3, cells := 0, slots := 0, locals := 68 }
set_option maxRecDepth 20000 in
set_option maxHeartbeats 4000000 in
theorem m_wy_measure {G : bgGl} (hG : bgOk G) {w0 : bgW} (hw : bgN w0) {x : Int} (z0 : 0 ≤ x) (z1 : x ≤ 63) : bgM G false 0 0 y_wy_measure (.code y_wy_measure co_wy_measure 5 (some .int)) rm_wy_measure [br 23, br 14, bi x] w0 (bgPi (fun v w' => bgRel w0 w')) := by
  refine bg_met hG (by decide +kernel) (bg_cat rfl) (Nat.le_of_ble_eq_true rfl) ?_
  intro K hK hR hex C
  subst hK
  have hI := bgRel.rfl hw
  show bgX K true 0 0 _ w0 0 [some (br 23), some (br 14), some (bi x), none, none] []
  refine bg_aload_n C d_wy_measure_0 rfl rfl ?_
  refine bg_getr (i := 0) C cf_wy rfl (by decide) rfl tw_188 d_wy_measure_1 ?_
  refine bg_iconst C d_wy_measure_4 ?_
  refine bg_cv C (m_ja_fill_wyd hG hI.1) (bg_invS C tw_582 tt_ja_fill tc_ja_fill tw_43 ⟨by decide, by decide⟩ (nA := 2) (by decide +kernel) rfl d_wy_measure_5 rfl) rfl (by rw [hR]; exact ⟨by decide, by decide⟩) (by rw [hR]; exact ⟨by decide, by decide⟩) (Nat.le_of_ble_eq_true rfl) rfl (fun w1 p1 => ?_)
  have j1 := p1
  have hI1 := hI.trans j1
  refine bg_aload_n C d_wy_measure_8 rfl rfl ?_
  refine bg_getr (i := 1) C cf_wy rfl (by decide) rfl tw_190 d_wy_measure_9 ?_
  refine bg_iconst C d_wy_measure_12 ?_
  refine bg_cv C (m_ja_fill_wyp hG hI1.1) (bg_invS C tw_582 tt_ja_fill tc_ja_fill tw_43 ⟨by decide, by decide⟩ (nA := 2) (by decide +kernel) rfl d_wy_measure_13 rfl) rfl (by rw [hR]; exact ⟨by decide, by decide⟩) (by rw [hR]; exact ⟨by decide, by decide⟩) (Nat.le_of_ble_eq_true rfl) rfl (fun w2 p2 => ?_)
  have j2 := p2
  have hI2 := hI1.trans j2
  refine bg_aload_n C d_wy_measure_16 rfl rfl ?_
  refine bg_getr (i := 0) C cf_wy rfl (by decide) rfl tw_188 d_wy_measure_17 ?_
  refine bg_iload_n C d_wy_measure_20 rfl rfl ?_
  refine bg_iconst C d_wy_measure_21 ?_
  refine bq_iast0 C hI2 rfl (by decide) rfl (by omega) (by omega) d_wy_measure_22 (fun w3 hI3 e3 => ?_)
  refine bg_iconst C d_wy_measure_23 ?_
  refine bg_istore_n C d_wy_measure_24 rfl (Nat.le_of_ble_eq_true rfl) ?_
  refine bg_iconst C d_wy_measure_25 ?_
  refine bg_istore C d_wy_measure_26 (Nat.le_of_ble_eq_true rfl) ?_
  refine bg_loop (α := bgW × Int × Int) (fun a => (64 - a.2.2).toNat) (fun a => bgRel w0 a.1 ∧ 0 ≤ a.2.1 ∧ a.2.1 ≤ 1 ∧ 0 ≤ a.2.2 ∧ a.2.2 ≤ 64) (fun a => (a.1, [some (br 23), some (br 14), some (bi x), some (bi a.2.1), some (bi a.2.2)], [])) ?_ (w3, 1, 0) ⟨hI3, by (try dsimp only) <;> omega, by (try dsimp only) <;> omega, by (try dsimp only) <;> omega, by (try dsimp only) <;> omega⟩
  rintro ⟨w4, c4, i4⟩ ⟨hI4, q4_0, q4_1, q4_2, q4_3⟩ ih28
  try dsimp only at ih28
  try dsimp only at q4_0
  try dsimp only at q4_1
  try dsimp only at q4_2
  try dsimp only at q4_3
  try dsimp only
  refine bg_iload_n C d_wy_measure_28 rfl rfl ?_
  refine bg_if_eq (tgt := 51) C d_wy_measure_29 (by decide) ⟨by omega, by omega⟩ (fun h5 => ?_) (fun h5 => ?_)
  · refine bg_aload_n C d_wy_measure_51 rfl rfl ?_
    refine bg_aload_n C d_wy_measure_52 rfl rfl ?_
    refine bg_cv C (m_wy_chooseParents hG hI4.1) (bg_invV C cf_wy rfl tw_592 ti_wy_chooseParents ts_wy_chooseParents tc_wy_chooseParents tw_41 ⟨by decide, by decide⟩ (nA := 1) (by decide +kernel) rfl d_wy_measure_53 rfl) rfl (by rw [hR]; exact ⟨by decide, by decide⟩) (by rw [hR]; exact ⟨by decide, by decide⟩) (Nat.le_of_ble_eq_true rfl) rfl (fun w6 p6 => ?_)
    have j6 := p6
    have hI6 := hI4.trans j6
    refine bg_aload_n C d_wy_measure_56 rfl rfl ?_
    refine bg_iconst C d_wy_measure_57 ?_
    refine bq_puti C cf_wy hI6 3 3 rfl rfl (by decide) rfl (by decide) rfl (by omega) (by omega) rfl (Or.inr ⟨rfl, by omega⟩) tw_193 d_wy_measure_58 (fun w7 hI7 e7 => ?_)
    refine bg_aload_n C d_wy_measure_61 rfl rfl ?_
    refine bg_ci C (m_wy_countReached hG hI7.1) (bg_invV C cf_wy rfl tw_596 ti_wy_countReached ts_wy_countReached tc_wy_countReached tw_41 ⟨by decide, by decide⟩ (nA := 0) (by decide +kernel) rfl d_wy_measure_62 rfl) rfl (by rw [hR]; exact ⟨by decide, by decide⟩) (by rw [hR]; exact ⟨by decide, by decide⟩) (Nat.le_of_ble_eq_true rfl) rfl (fun v8 w8 p8 => ?_)
    obtain rfl := p8
    exact bg_iret C d_wy_measure_65 (fun h => by cases h) (Or.inl rfl) (Nat.zero_le _) (Nat.zero_le _) ⟨_, rfl, hI7⟩
  · refine bg_iload C d_wy_measure_32 rfl ?_
    refine bg_bipush C d_wy_measure_34 (by decide +kernel) ?_
    refine bg_icmp_ge (tgt := 51) C d_wy_measure_36 (by decide) ⟨by omega, by omega⟩ ⟨by omega, by omega⟩ (fun h9 => ?_) (fun h9 => ?_)
    · refine bg_aload_n C d_wy_measure_51 rfl rfl ?_
      refine bg_aload_n C d_wy_measure_52 rfl rfl ?_
      refine bg_cv C (m_wy_chooseParents hG hI4.1) (bg_invV C cf_wy rfl tw_592 ti_wy_chooseParents ts_wy_chooseParents tc_wy_chooseParents tw_41 ⟨by decide, by decide⟩ (nA := 1) (by decide +kernel) rfl d_wy_measure_53 rfl) rfl (by rw [hR]; exact ⟨by decide, by decide⟩) (by rw [hR]; exact ⟨by decide, by decide⟩) (Nat.le_of_ble_eq_true rfl) rfl (fun w10 p10 => ?_)
      have j10 := p10
      have hI10 := hI4.trans j10
      refine bg_aload_n C d_wy_measure_56 rfl rfl ?_
      refine bg_iconst C d_wy_measure_57 ?_
      refine bq_puti C cf_wy hI10 3 3 rfl rfl (by decide) rfl (by decide) rfl (by omega) (by omega) rfl (Or.inr ⟨rfl, by omega⟩) tw_193 d_wy_measure_58 (fun w11 hI11 e11 => ?_)
      refine bg_aload_n C d_wy_measure_61 rfl rfl ?_
      refine bg_ci C (m_wy_countReached hG hI11.1) (bg_invV C cf_wy rfl tw_596 ti_wy_countReached ts_wy_countReached tc_wy_countReached tw_41 ⟨by decide, by decide⟩ (nA := 0) (by decide +kernel) rfl d_wy_measure_62 rfl) rfl (by rw [hR]; exact ⟨by decide, by decide⟩) (by rw [hR]; exact ⟨by decide, by decide⟩) (Nat.le_of_ble_eq_true rfl) rfl (fun v12 w12 p12 => ?_)
      obtain rfl := p12
      exact bg_iret C d_wy_measure_65 (fun h => by cases h) (Or.inl rfl) (Nat.zero_le _) (Nat.zero_le _) ⟨_, rfl, hI11⟩
    · refine bg_aload_n C d_wy_measure_39 rfl rfl ?_
      refine bg_aload_n C d_wy_measure_40 rfl rfl ?_
      refine bg_ci C (m_wy_shorten hG hI4.1) (bg_invV C cf_wy rfl tw_583 ti_wy_shorten ts_wy_shorten tc_wy_shorten tw_41 ⟨by decide, by decide⟩ (nA := 1) (by decide +kernel) rfl d_wy_measure_41 rfl) rfl (by rw [hR]; exact ⟨by decide, by decide⟩) (by rw [hR]; exact ⟨by decide, by decide⟩) (Nat.le_of_ble_eq_true rfl) rfl (fun v13 w13 p13 => ?_)
      obtain ⟨j13, r13_0, r13_1⟩ := p13
      have hI13 := hI4.trans j13
      refine bg_istore_n C d_wy_measure_44 rfl (Nat.le_of_ble_eq_true rfl) ?_
      refine bg_iinc C d_wy_measure_45 rfl ?_
      refine bg_goto (l := 28) C d_wy_measure_48 (by decide) ?_
      exact ih28 (w13, v13, (i4 + 1)) ⟨hI13, by (try dsimp only) <;> omega, by (try dsimp only) <;> omega, by (try dsimp only) <;> omega, by (try dsimp only) <;> omega⟩ (by (try dsimp only) <;> omega)
end
section
def rm_bg_closeTransaction : Room := { frames := 0, cells := 0, slots := 0, locals := 0 }
set_option maxRecDepth 20000 in
set_option maxHeartbeats 4000000 in
theorem m_bg_closeTransaction {G : bgGl} (hG : bgOk G) {w0 : bgW} (hw : bgN w0) : bgM G false 0 0 y_bg_closeTransaction (.code y_bg_closeTransaction co_bg_closeTransaction 1 none) rm_bg_closeTransaction [br 0] w0 (bgPv (fun w' => bgRel w0 w')) := by
  refine bg_met hG (by decide +kernel) (bg_cat rfl) (Nat.le_of_ble_eq_true rfl) ?_
  intro K hK hR hex C
  subst hK
  have hI := bgRel.rfl hw
  show bgX K true 0 0 _ w0 0 [some (br 0)] []
  refine bg_aload_n C d_bg_closeTransaction_0 rfl rfl ?_
  refine bg_iconst C d_bg_closeTransaction_1 ?_
  refine bq_puti C cf_bg hI 7 7 rfl rfl (by decide) rfl (by decide) rfl (by omega) (by omega) rfl (Or.inr ⟨rfl, by omega⟩) tw_211 d_bg_closeTransaction_2 (fun w1 hI1 e1 => ?_)
  refine bg_aload_n C d_bg_closeTransaction_5 rfl rfl ?_
  refine bg_getr (i := 4) C cf_bg rfl (by decide) rfl tw_208 d_bg_closeTransaction_6 ?_
  refine bg_iconst C d_bg_closeTransaction_9 ?_
  refine bq_puti C cf_op hI1 4 4 rfl rfl (by decide) rfl (by decide) rfl (by omega) (by omega) rfl (Or.inl rfl) tw_118 d_bg_closeTransaction_10 (fun w2 hI2 e2 => ?_)
  exact bg_ret C d_bg_closeTransaction_13 (fun h => by cases h) rfl (Nat.zero_le _) (Nat.zero_le _) ⟨rfl, hI2⟩
def rm_bg_startAnew : Room := { frames := 1, cells := 0, slots := 0, locals := 20 }
set_option maxRecDepth 20000 in
set_option maxHeartbeats 4000000 in
theorem m_bg_startAnew {G : bgGl} (hG : bgOk G) {w0 : bgW} (hw : bgN w0) : bgM G false 0 0 y_bg_startAnew (.code y_bg_startAnew co_bg_startAnew 1 none) rm_bg_startAnew [br 0] w0 (bgPv (fun w' => bgRel w0 w')) := by
  refine bg_met hG (by decide +kernel) (bg_cat rfl) (Nat.le_of_ble_eq_true rfl) ?_
  intro K hK hR hex C
  subst hK
  have hI := bgRel.rfl hw
  show bgX K true 0 0 _ w0 0 [some (br 0)] []
  refine bg_aload_n C d_bg_startAnew_0 rfl rfl ?_
  refine bg_cv C (m_bg_closeTransaction hG hI.1) (bg_invV C cf_bg rfl tw_240 ti_bg_closeTransaction ts_bg_closeTransaction tc_bg_closeTransaction tw_35 ⟨by decide, by decide⟩ (nA := 0) (by decide +kernel) rfl d_bg_startAnew_1 rfl) rfl (by rw [hR]; exact ⟨by decide, by decide⟩) (by rw [hR]; exact ⟨by decide, by decide⟩) (Nat.le_of_ble_eq_true rfl) rfl (fun w1 p1 => ?_)
  have j1 := p1
  have hI1 := hI.trans j1
  refine bg_aload_n C d_bg_startAnew_4 rfl rfl ?_
  refine bg_getr (i := 5) C cf_bg rfl (by decide) rfl tw_209 d_bg_startAnew_5 ?_
  refine bg_cv C (m_wy_forget hG hI1.1) (bg_invV C cf_wy rfl tw_244 ti_wy_forget ts_wy_forget tc_wy_forget tw_41 ⟨by decide, by decide⟩ (nA := 0) (by decide +kernel) rfl d_bg_startAnew_8 rfl) rfl (by rw [hR]; exact ⟨by decide, by decide⟩) (by rw [hR]; exact ⟨by decide, by decide⟩) (Nat.le_of_ble_eq_true rfl) rfl (fun w2 p2 => ?_)
  have j2 := p2
  have hI2 := hI1.trans j2
  refine bg_aload_n C d_bg_startAnew_11 rfl rfl ?_
  refine bg_getr (i := 1) C cf_bg rfl (by decide) rfl tw_205 d_bg_startAnew_12 ?_
  refine bg_iconst C d_bg_startAnew_15 ?_
  refine bq_puti C cf_hd hI2 1 1 rfl rfl (by decide) rfl (by decide) rfl (by omega) (by omega) rfl (Or.inl rfl) tw_86 d_bg_startAnew_16 (fun w3 hI3 e3 => ?_)
  exact bg_ret C d_bg_startAnew_19 (fun h => by cases h) rfl (Nat.zero_le _) (Nat.zero_le _) ⟨rfl, hI3⟩
def rm_bg_settleState : Room := { frames := 0, cells := 0, slots := 0, locals := 0 }
set_option maxRecDepth 20000 in
set_option maxHeartbeats 4000000 in
theorem m_bg_settleState {G : bgGl} (hG : bgOk G) {w0 : bgW} (hw : bgN w0) {x : Int} (z0 : 0 ≤ x) (z1 : x ≤ 1) : bgM G false 0 0 y_bg_settleState (.code y_bg_settleState co_bg_settleState 2 none) rm_bg_settleState [br 0, bi x] w0 (bgPv (fun w' => bgRel w0 w')) := by
  refine bg_met hG (by decide +kernel) (bg_cat rfl) (Nat.le_of_ble_eq_true rfl) ?_
  intro K hK hR hex C
  subst hK
  have hI := bgRel.rfl hw
  show bgX K true 0 0 _ w0 0 [some (br 0), some (bi x)] []
  refine bg_aload_n C d_bg_settleState_0 rfl rfl ?_
  refine bg_iload_n C d_bg_settleState_1 rfl rfl ?_
  refine bq_puti C cf_bg hI 6 6 rfl rfl (by decide) rfl (by decide) rfl (by omega) (by omega) rfl (Or.inr ⟨rfl, by omega⟩) tw_210 d_bg_settleState_2 (fun w1 hI1 e1 => ?_)
  refine bg_iload_n C d_bg_settleState_5 rfl rfl ?_
  refine bg_if_eq (tgt := 20) C d_bg_settleState_6 (by decide) ⟨by omega, by omega⟩ (fun h2 => ?_) (fun h2 => ?_)
  · exact bg_ret C d_bg_settleState_20 (fun h => by cases h) rfl (Nat.zero_le _) (Nat.zero_le _) ⟨rfl, hI1⟩
  · refine bg_aload_n C d_bg_settleState_9 rfl rfl ?_
    refine bg_aload_n C d_bg_settleState_10 rfl rfl ?_
    refine bg_getr (i := 2) C cf_bg rfl (by decide) rfl tw_206 d_bg_settleState_11 ?_
    refine bq_get0 C cf_so 5 5 rfl rfl (by decide) rfl tw_164 d_bg_settleState_14 (fun v3 e3 => ?_)
    refine bq_put0 C cf_bg hI1 8 8 rfl rfl (by decide) rfl (by decide) rfl rfl rfl tw_212 d_bg_settleState_17 (fun w4 hI4 e4 => ?_)
    exact bg_ret C d_bg_settleState_20 (fun h => by cases h) rfl (Nat.zero_le _) (Nat.zero_le _) ⟨rfl, hI4⟩
def rm_bg_operate : Room := { frames := 1, cells := 0, slots := 0, locals := 24 }
set_option maxRecDepth 20000 in
set_option maxHeartbeats 4000000 in
theorem m_bg_operate {G : bgGl} (hG : bgOk G) {w0 : bgW} (hw : bgN w0) {e f t x : Int} (z0 : -1 ≤ e) (z1 : e ≤ 199) (z2 : 0 ≤ f) (z3 : f ≤ 63) (z4 : 0 ≤ t) (z5 : t ≤ 63) : bgM G false 0 0 y_bg_operate (.code y_bg_operate co_bg_operate 5 none) rm_bg_operate [br 0, bi e, bi f, bi t, bi x] w0 (bgPv (fun w' => bgRel w0 w')) := by
  refine bg_met hG (by decide +kernel) (bg_cat rfl) (Nat.le_of_ble_eq_true rfl) ?_
  intro K hK hR hex C
  subst hK
  have hI := bgRel.rfl hw
  show bgX K true 0 0 _ w0 0 [some (br 0), some (bi e), some (bi f), some (bi t), some (bi x)] []
  refine bg_aload_n C d_bg_operate_0 rfl rfl ?_
  refine bg_getr (i := 4) C cf_bg rfl (by decide) rfl tw_208 d_bg_operate_1 ?_
  refine bg_iload_n C d_bg_operate_4 rfl rfl ?_
  refine bg_iload_n C d_bg_operate_5 rfl rfl ?_
  refine bg_iload_n C d_bg_operate_6 rfl rfl ?_
  refine bg_iload C d_bg_operate_7 rfl ?_
  refine bg_cv C (m_op_append hG hI.1 (by omega) (by omega) (by omega) (by omega) (by omega) (by omega)) (bg_invV C cf_op rfl tw_474 ti_op_append ts_op_append tc_op_append tw_39 ⟨by decide, by decide⟩ (nA := 4) (by decide +kernel) rfl d_bg_operate_9 rfl) rfl (by rw [hR]; exact ⟨by decide, by decide⟩) (by rw [hR]; exact ⟨by decide, by decide⟩) (Nat.le_of_ble_eq_true rfl) rfl (fun w1 p1 => ?_)
  have j1 := p1
  have hI1 := hI.trans j1
  refine bg_aload_n C d_bg_operate_12 rfl rfl ?_
  refine bg_getr (i := 3) C cf_bg rfl (by decide) rfl tw_207 d_bg_operate_13 ?_
  refine bg_iload_n C d_bg_operate_16 rfl rfl ?_
  refine bg_iload_n C d_bg_operate_17 rfl rfl ?_
  refine bg_iload_n C d_bg_operate_18 rfl rfl ?_
  refine bg_iload C d_bg_operate_19 rfl ?_
  refine bg_cv C (m_et_put_vs hG hI1.1 (by omega) (by omega) (by omega) (by omega) (by omega) (by omega)) (bg_invV C cf_et rfl tw_478 ti_et_put ts_et_put tc_et_put tw_40 ⟨by decide, by decide⟩ (nA := 4) (by decide +kernel) rfl d_bg_operate_21 rfl) rfl (by rw [hR]; exact ⟨by decide, by decide⟩) (by rw [hR]; exact ⟨by decide, by decide⟩) (Nat.le_of_ble_eq_true rfl) rfl (fun w2 p2 => ?_)
  have j2 := p2
  have hI2 := hI1.trans j2
  refine bg_aload_n C d_bg_operate_24 rfl rfl ?_
  refine bg_getr (i := 5) C cf_bg rfl (by decide) rfl tw_209 d_bg_operate_25 ?_
  refine bg_cv C (m_wy_forget hG hI2.1) (bg_invV C cf_wy rfl tw_244 ti_wy_forget ts_wy_forget tc_wy_forget tw_41 ⟨by decide, by decide⟩ (nA := 0) (by decide +kernel) rfl d_bg_operate_28 rfl) rfl (by rw [hR]; exact ⟨by decide, by decide⟩) (by rw [hR]; exact ⟨by decide, by decide⟩) (Nat.le_of_ble_eq_true rfl) rfl (fun w3 p3 => ?_)
  have j3 := p3
  have hI3 := hI2.trans j3
  exact bg_ret C d_bg_operate_31 (fun h => by cases h) rfl (Nat.zero_le _) (Nat.zero_le _) ⟨rfl, hI3⟩
def rm_bg_mustBeUp : Room := { frames := 6, cells := 1, slots := 6, locals := 82 }
set_option maxRecDepth 20000 in
set_option maxHeartbeats 4000000 in
theorem m_bg_mustBeUp {G : bgGl} (hG : bgOk G) {w0 : bgW} (hw : bgN w0) : bgM G true 0 0 y_bg_mustBeUp (.code y_bg_mustBeUp co_bg_mustBeUp 1 none) rm_bg_mustBeUp [br 0] w0 (bgPvt (fun w' => w0 = w') (fun X w' => w0 = w' ∧ (X = 0))) := by
  refine bg_met hG (by decide +kernel) (bg_cat rfl) (Nat.le_of_ble_eq_true rfl) ?_
  intro K hK hR hex C
  subst hK
  have hI := bgRel.rfl hw
  show bgX K true 0 0 _ w0 0 [some (br 0)] []
  refine bg_aload_n C d_bg_mustBeUp_0 rfl rfl ?_
  refine bq_geti C cf_bg hI 6 6 rfl rfl (by decide) rfl (by decide) rfl tw_210 d_bg_mustBeUp_1 (fun v1 e1 a1 b1 => ?_)
  refine bg_if_ne (tgt := 17) C d_bg_mustBeUp_4 (by decide) ⟨by omega, by omega⟩ (fun h2 => ?_) (fun h2 => ?_)
  · exact bg_ret C d_bg_mustBeUp_17 (fun _ => rfl) rfl (Nat.zero_le _) (Nat.zero_le _) (Or.inl ⟨rfl, rfl⟩)
  · exact bg_throw (X := 0) (names := xn) C hex rfl d_bg_mustBeUp_7 d_bg_mustBeUp_10 d_bg_mustBeUp_11 d_bg_mustBeUp_13 d_bg_mustBeUp_16 tw_339 xi_0 xj_0 tl_382 xa_0 (by decide +kernel) xf (by rw [hR]; decide) (by rw [hR]; decide) rfl (by rw [hR]; decide) (by rw [hR]; decide) (by decide) (by decide) (Or.inr ⟨_, rfl, rfl, by omega⟩)
def rm_bg_mustBeOpen : Room := { frames := 7, cells := 1, slots := 6, locals := 102 }
set_option maxRecDepth 20000 in
set_option maxHeartbeats 4000000 in
theorem m_bg_mustBeOpen {G : bgGl} (hG : bgOk G) {w0 : bgW} (hw : bgN w0) : bgM G true 0 0 y_bg_mustBeOpen (.code y_bg_mustBeOpen co_bg_mustBeOpen 1 none) rm_bg_mustBeOpen [br 0] w0 (bgPvt (fun w' => w0 = w') (fun X w' => w0 = w' ∧ (X = 0))) := by
  refine bg_met hG (by decide +kernel) (bg_cat rfl) (Nat.le_of_ble_eq_true rfl) ?_
  intro K hK hR hex C
  subst hK
  have hI := bgRel.rfl hw
  show bgX K true 0 0 _ w0 0 [some (br 0)] []
  refine bg_aload_n C d_bg_mustBeOpen_0 rfl rfl ?_
  refine bg_cvt C (m_bg_mustBeUp hG hI.1) (bg_invV C cf_bg rfl tw_335 ti_bg_mustBeUp ts_bg_mustBeUp tc_bg_mustBeUp tw_35 ⟨by decide, by decide⟩ (nA := 0) (by decide +kernel) rfl d_bg_mustBeOpen_1 rfl) rfl (by rw [hR]; exact ⟨by decide, by decide⟩) (by rw [hR]; exact ⟨by decide, by decide⟩) (Nat.le_of_ble_eq_true rfl) rfl (fun w1 p1 => ?_) (fun X1 w1 p1 => bg_thru C (fun _ => rfl) hex (by decide) (by decide) ?_)
  · obtain rfl := p1
    refine bg_aload_n C d_bg_mustBeOpen_4 rfl rfl ?_
    refine bq_geti C cf_bg hI 7 7 rfl rfl (by decide) rfl (by decide) rfl tw_211 d_bg_mustBeOpen_5 (fun v2 e2 a2 b2 => ?_)
    refine bg_if_ne (tgt := 21) C d_bg_mustBeOpen_8 (by decide) ⟨by omega, by omega⟩ (fun h3 => ?_) (fun h3 => ?_)
    · exact bg_ret C d_bg_mustBeOpen_21 (fun _ => rfl) rfl (Nat.zero_le _) (Nat.zero_le _) (Or.inl ⟨rfl, rfl⟩)
    · exact bg_throw (X := 0) (names := xn) C hex rfl d_bg_mustBeOpen_11 d_bg_mustBeOpen_14 d_bg_mustBeOpen_15 d_bg_mustBeOpen_17 d_bg_mustBeOpen_20 tw_339 xi_0 xj_0 tl_423 xa_0 (by decide +kernel) xf (by rw [hR]; decide) (by rw [hR]; decide) rfl (by rw [hR]; decide) (by rw [hR]; decide) (by decide) (by decide) (Or.inr ⟨_, rfl, rfl, by omega⟩)
  · exact Or.inr ⟨_, rfl, p1.1, by have := p1.2; omega⟩
def rm_bg_mustBeVertex : Room := { frames := 6, cells := 1, slots := 6, locals := 82 }
set_option maxRecDepth 20000 in
set_option maxHeartbeats 4000000 in
theorem m_bg_mustBeVertex {G : bgGl} (hG : bgOk G) {w0 : bgW} (hw : bgN w0) {x : Int} (z0 : -2147483648 ≤ x) (z1 : x ≤ 2147483647) : bgM G true 0 0 y_bg_mustBeVertex (.code y_bg_mustBeVertex co_bg_mustBeVertex 2 none) rm_bg_mustBeVertex [br 0, bi x] w0 (bgPvt (fun w' => w0 = w' ∧ 0 ≤ x ∧ x ≤ 63) (fun X w' => w0 = w' ∧ (X = 1))) := by
  refine bg_met hG (by decide +kernel) (bg_cat rfl) (Nat.le_of_ble_eq_true rfl) ?_
  intro K hK hR hex C
  subst hK
  have hI := bgRel.rfl hw
  show bgX K true 0 0 _ w0 0 [some (br 0), some (bi x)] []
  refine bg_iload_n C d_bg_mustBeVertex_0 rfl rfl ?_
  refine bg_if_lt (tgt := 10) C d_bg_mustBeVertex_1 (by decide) ⟨by omega, by omega⟩ (fun h1 => ?_) (fun h1 => ?_)
  · exact bg_throw (X := 1) (names := xn) C hex rfl d_bg_mustBeVertex_10 d_bg_mustBeVertex_13 d_bg_mustBeVertex_14 d_bg_mustBeVertex_16 d_bg_mustBeVertex_19 tw_428 xi_1 xj_1 tl_437 xa_1 (by decide +kernel) xf (by rw [hR]; decide) (by rw [hR]; decide) rfl (by rw [hR]; decide) (by rw [hR]; decide) (by decide) (by decide) (Or.inr ⟨_, rfl, rfl, by omega⟩)
  · refine bg_iload_n C d_bg_mustBeVertex_4 rfl rfl ?_
    refine bg_bipush C d_bg_mustBeVertex_5 (by decide +kernel) ?_
    refine bg_icmp_lt (tgt := 20) C d_bg_mustBeVertex_7 (by decide) ⟨by omega, by omega⟩ ⟨by omega, by omega⟩ (fun h2 => ?_) (fun h2 => ?_)
    · exact bg_ret C d_bg_mustBeVertex_20 (fun _ => rfl) rfl (Nat.zero_le _) (Nat.zero_le _) (Or.inl ⟨rfl, rfl, by omega, by omega⟩)
    · exact bg_throw (X := 1) (names := xn) C hex rfl d_bg_mustBeVertex_10 d_bg_mustBeVertex_13 d_bg_mustBeVertex_14 d_bg_mustBeVertex_16 d_bg_mustBeVertex_19 tw_428 xi_1 xj_1 tl_437 xa_1 (by decide +kernel) xf (by rw [hR]; decide) (by rw [hR]; decide) rfl (by rw [hR]; decide) (by rw [hR]; decide) (by decide) (by decide) (Or.inr ⟨_, rfl, rfl, by omega⟩)
def rm_bg_mustHaveRoomForOperation : Room := { frames := 6, cells := 1, slots := 6, locals := 82 }
set_option maxRecDepth 20000 in
set_option maxHeartbeats 4000000 in
theorem m_bg_mustHaveRoomForOperation {G : bgGl} (hG : bgOk G) {w0 : bgW} (hw : bgN w0) : bgM G true 0 0 y_bg_mustHaveRoomForOperation (.code y_bg_mustHaveRoomForOperation co_bg_mustHaveRoomForOperation 1 none) rm_bg_mustHaveRoomForOperation [br 0] w0 (bgPvt (fun w' => w0 = w') (fun X w' => w0 = w' ∧ (X = 2))) := by
  refine bg_met hG (by decide +kernel) (bg_cat rfl) (Nat.le_of_ble_eq_true rfl) ?_
  intro K hK hR hex C
  subst hK
  have hI := bgRel.rfl hw
  show bgX K true 0 0 _ w0 0 [some (br 0)] []
  refine bg_aload_n C d_bg_mustHaveRoomForOperation_0 rfl rfl ?_
  refine bg_getr (i := 4) C cf_bg rfl (by decide) rfl tw_208 d_bg_mustHaveRoomForOperation_1 ?_
  refine bq_geti C cf_op hI 4 4 rfl rfl (by decide) rfl (by decide) rfl tw_118 d_bg_mustHaveRoomForOperation_4 (fun v1 e1 a1 b1 => ?_)
  refine bg_bipush C d_bg_mustHaveRoomForOperation_7 (by decide +kernel) ?_
  refine bg_icmp_ne (tgt := 22) C d_bg_mustHaveRoomForOperation_9 (by decide) ⟨by omega, by omega⟩ ⟨by omega, by omega⟩ (fun h2 => ?_) (fun h2 => ?_)
  · exact bg_ret C d_bg_mustHaveRoomForOperation_22 (fun _ => rfl) rfl (Nat.zero_le _) (Nat.zero_le _) (Or.inl ⟨rfl, rfl⟩)
  · exact bg_throw (X := 2) (names := xn) C hex rfl d_bg_mustHaveRoomForOperation_12 d_bg_mustHaveRoomForOperation_15 d_bg_mustHaveRoomForOperation_16 d_bg_mustHaveRoomForOperation_18 d_bg_mustHaveRoomForOperation_21 tw_445 xi_2 xj_2 tl_465 xa_2 (by decide +kernel) xf (by rw [hR]; decide) (by rw [hR]; decide) rfl (by rw [hR]; decide) (by rw [hR]; decide) (by decide) (by decide) (Or.inr ⟨_, rfl, rfl, by omega⟩)
def rm_bg_mustHaveWayTo : Room := { frames := 7, cells := 1, slots := 6, locals := 103 }
set_option maxRecDepth 20000 in
set_option maxHeartbeats 4000000 in
theorem m_bg_mustHaveWayTo {G : bgGl} (hG : bgOk G) {w0 : bgW} (hw : bgN w0) {x : Int} (z0 : -2147483648 ≤ x) (z1 : x ≤ 2147483647) : bgM G true 0 0 y_bg_mustHaveWayTo (.code y_bg_mustHaveWayTo co_bg_mustHaveWayTo 2 none) rm_bg_mustHaveWayTo [br 0, bi x] w0 (bgPvt (fun w' => w0 = w' ∧ 0 ≤ x ∧ x ≤ 63) (fun X w' => w0 = w' ∧ (X = 0 ∨ X = 1))) := by
  refine bg_met hG (by decide +kernel) (bg_cat rfl) (Nat.le_of_ble_eq_true rfl) ?_
  intro K hK hR hex C
  subst hK
  have hI := bgRel.rfl hw
  show bgX K true 0 0 _ w0 0 [some (br 0), some (bi x)] []
  refine bg_aload_n C d_bg_mustHaveWayTo_0 rfl rfl ?_
  refine bg_cvt C (m_bg_mustBeUp hG hI.1) (bg_invV C cf_bg rfl tw_335 ti_bg_mustBeUp ts_bg_mustBeUp tc_bg_mustBeUp tw_35 ⟨by decide, by decide⟩ (nA := 0) (by decide +kernel) rfl d_bg_mustHaveWayTo_1 rfl) rfl (by rw [hR]; exact ⟨by decide, by decide⟩) (by rw [hR]; exact ⟨by decide, by decide⟩) (Nat.le_of_ble_eq_true rfl) rfl (fun w1 p1 => ?_) (fun X1 w1 p1 => bg_thru C (fun _ => rfl) hex (by decide) (by decide) ?_)
  · obtain rfl := p1
    refine bg_aload_n C d_bg_mustHaveWayTo_4 rfl rfl ?_
    refine bg_getr (i := 5) C cf_bg rfl (by decide) rfl tw_209 d_bg_mustHaveWayTo_5 ?_
    refine bq_geti C cf_wy hI 3 3 rfl rfl (by decide) rfl (by decide) rfl tw_194 d_bg_mustHaveWayTo_8 (fun v2 e2 a2 b2 => ?_)
    refine bg_if_ne (tgt := 24) C d_bg_mustHaveWayTo_11 (by decide) ⟨by omega, by omega⟩ (fun h3 => ?_) (fun h3 => ?_)
    · refine bg_aload_n C d_bg_mustHaveWayTo_24 rfl rfl ?_
      refine bg_iload_n C d_bg_mustHaveWayTo_25 rfl rfl ?_
      refine bg_cvt C (m_bg_mustBeVertex hG hI.1 (by omega) (by omega)) (bg_invV C cf_bg rfl tw_424 ti_bg_mustBeVertex ts_bg_mustBeVertex tc_bg_mustBeVertex tw_35 ⟨by decide, by decide⟩ (nA := 1) (by decide +kernel) rfl d_bg_mustHaveWayTo_26 rfl) rfl (by rw [hR]; exact ⟨by decide, by decide⟩) (by rw [hR]; exact ⟨by decide, by decide⟩) (Nat.le_of_ble_eq_true rfl) rfl (fun w4 p4 => ?_) (fun X4 w4 p4 => bg_thru C (fun _ => rfl) hex (by decide) (by decide) ?_)
      · obtain ⟨rfl, r4_0, r4_1⟩ := p4
        exact bg_ret C d_bg_mustHaveWayTo_29 (fun _ => rfl) rfl (Nat.zero_le _) (Nat.zero_le _) (Or.inl ⟨rfl, rfl, by omega, by omega⟩)
      · exact Or.inr ⟨_, rfl, p4.1, by have := p4.2; omega⟩
    · exact bg_throw (X := 0) (names := xn) C hex rfl d_bg_mustHaveWayTo_14 d_bg_mustHaveWayTo_17 d_bg_mustHaveWayTo_18 d_bg_mustHaveWayTo_20 d_bg_mustHaveWayTo_23 tw_339 xi_0 xj_0 tl_611 xa_0 (by decide +kernel) xf (by rw [hR]; decide) (by rw [hR]; decide) rfl (by rw [hR]; decide) (by rw [hR]; decide) (by decide) (by decide) (Or.inr ⟨_, rfl, rfl, by omega⟩)
  · exact Or.inr ⟨_, rfl, p1.1, by have := p1.2; omega⟩
def rm_bg_format : Room := { frames := 4, cells := 0, slots := 0, locals := 126 }
set_option maxRecDepth 20000 in
set_option maxHeartbeats 4000000 in
theorem m_bg_format {G : bgGl} (hG : bgOk G) {w0 : bgW} (hw : bgN w0) : bgM G false 0 0 y_bg_format (.code y_bg_format co_bg_format 1 (some .boolean)) rm_bg_format [br 0] w0 (bgPi (fun v w' => bgRel w0 w' ∧ 0 ≤ v ∧ v ≤ 1)) := by
  refine bg_met hG (by decide +kernel) (bg_cat rfl) (Nat.le_of_ble_eq_true rfl) ?_
  intro K hK hR hex C
  subst hK
  have hI := bgRel.rfl hw
  show bgX K true 0 0 _ w0 0 [some (br 0)] []
  refine bg_aload_n C d_bg_format_0 rfl rfl ?_
  refine bg_cv C (m_bg_startAnew hG hI.1) (bg_invV C cf_bg rfl tw_236 ti_bg_startAnew ts_bg_startAnew tc_bg_startAnew tw_35 ⟨by decide, by decide⟩ (nA := 0) (by decide +kernel) rfl d_bg_format_1 rfl) rfl (by rw [hR]; exact ⟨by decide, by decide⟩) (by rw [hR]; exact ⟨by decide, by decide⟩) (Nat.le_of_ble_eq_true rfl) rfl (fun w1 p1 => ?_)
  have j1 := p1
  have hI1 := hI.trans j1
  refine bg_aload_n C d_bg_format_4 rfl rfl ?_
  refine bg_getr (i := 3) C cf_bg rfl (by decide) rfl tw_207 d_bg_format_5 ?_
  refine bg_cv C (m_et_erase hG hI1.1) (bg_invV C cf_et rfl tw_248 ti_et_erase ts_et_erase tc_et_erase tw_40 ⟨by decide, by decide⟩ (nA := 0) (by decide +kernel) rfl d_bg_format_8 rfl) rfl (by rw [hR]; exact ⟨by decide, by decide⟩) (by rw [hR]; exact ⟨by decide, by decide⟩) (Nat.le_of_ble_eq_true rfl) rfl (fun w2 p2 => ?_)
  have j2 := p2
  have hI2 := hI1.trans j2
  refine bg_aload_n C d_bg_format_11 rfl rfl ?_
  refine bg_aload_n C d_bg_format_12 rfl rfl ?_
  refine bg_getr (i := 2) C cf_bg rfl (by decide) rfl tw_206 d_bg_format_13 ?_
  refine bg_aload_n C d_bg_format_16 rfl rfl ?_
  refine bg_getr (i := 3) C cf_bg rfl (by decide) rfl tw_207 d_bg_format_17 ?_
  refine bg_ci C (m_so_layOut hG hI2.1) (bg_invV C cf_so rfl tw_255 ti_so_layOut ts_so_layOut tc_so_layOut tw_38 ⟨by decide, by decide⟩ (nA := 1) (by decide +kernel) rfl d_bg_format_20 rfl) rfl (by rw [hR]; exact ⟨by decide, by decide⟩) (by rw [hR]; exact ⟨by decide, by decide⟩) (Nat.le_of_ble_eq_true rfl) rfl (fun v3 w3 p3 => ?_)
  obtain ⟨j3, r3_0, r3_1⟩ := p3
  have hI3 := hI2.trans j3
  refine bg_cv C (m_bg_settleState hG hI3.1 (by omega) (by omega)) (bg_invV C cf_bg rfl tw_297 ti_bg_settleState ts_bg_settleState tc_bg_settleState tw_35 ⟨by decide, by decide⟩ (nA := 1) (by decide +kernel) rfl d_bg_format_23 rfl) rfl (by rw [hR]; exact ⟨by decide, by decide⟩) (by rw [hR]; exact ⟨by decide, by decide⟩) (Nat.le_of_ble_eq_true rfl) rfl (fun w4 p4 => ?_)
  have j4 := p4
  have hI4 := hI3.trans j4
  refine bg_aload_n C d_bg_format_26 rfl rfl ?_
  refine bq_geti C cf_bg hI4 6 6 rfl rfl (by decide) rfl (by decide) rfl tw_210 d_bg_format_27 (fun v5 e5 a5 b5 => ?_)
  exact bg_iret C d_bg_format_30 (fun h => by cases h) (Or.inr ⟨rfl, by omega⟩) (Nat.zero_le _) (Nat.zero_le _) ⟨_, rfl, hI4, by omega, by omega⟩
def rm_bg_begin : Room := { frames := 7, cells := 1, slots := 6, locals := 102 }
set_option maxRecDepth 20000 in
set_option maxHeartbeats 4000000 in
theorem m_bg_begin {G : bgGl} (hG : bgOk G) {w0 : bgW} (hw : bgN w0) : bgM G false 0 0 y_bg_begin (.code y_bg_begin co_bg_begin 1 none) rm_bg_begin [br 0] w0 (bgPvt (fun w' => bgRel w0 w') (fun X w' => w0 = w' ∧ (X = 0))) := by
  refine bg_met hG (by decide +kernel) (bg_cat rfl) (Nat.le_of_ble_eq_true rfl) ?_
  intro K hK hR hex C
  subst hK
  have hI := bgRel.rfl hw
  show bgX K true 0 0 _ w0 0 [some (br 0)] []
  refine bg_aload_n C d_bg_begin_0 rfl rfl ?_
  refine bg_cvt C (m_bg_mustBeUp hG hI.1) (bg_invV C cf_bg rfl tw_335 ti_bg_mustBeUp ts_bg_mustBeUp tc_bg_mustBeUp tw_35 ⟨by decide, by decide⟩ (nA := 0) (by decide +kernel) rfl d_bg_begin_1 rfl) rfl (by rw [hR]; exact ⟨by decide, by decide⟩) (by rw [hR]; exact ⟨by decide, by decide⟩) (Nat.le_of_ble_eq_true rfl) rfl (fun w1 p1 => ?_) (fun X1 w1 p1 => bg_thru C (fun h => by cases h) hex (by decide) (by decide) ?_)
  · obtain rfl := p1
    refine bg_aload_n C d_bg_begin_4 rfl rfl ?_
    refine bq_geti C cf_bg hI 7 7 rfl rfl (by decide) rfl (by decide) rfl tw_211 d_bg_begin_5 (fun v2 e2 a2 b2 => ?_)
    refine bg_if_eq (tgt := 21) C d_bg_begin_8 (by decide) ⟨by omega, by omega⟩ (fun h3 => ?_) (fun h3 => ?_)
    · refine bg_aload_n C d_bg_begin_21 rfl rfl ?_
      refine bg_iconst C d_bg_begin_22 ?_
      refine bq_puti C cf_bg hI 7 7 rfl rfl (by decide) rfl (by decide) rfl (by omega) (by omega) rfl (Or.inr ⟨rfl, by omega⟩) tw_211 d_bg_begin_23 (fun w4 hI4 e4 => ?_)
      exact bg_ret C d_bg_begin_26 (fun h => by cases h) rfl (Nat.zero_le _) (Nat.zero_le _) (Or.inl ⟨rfl, hI4⟩)
    · exact bg_throw (X := 0) (names := xn) C hex rfl d_bg_begin_11 d_bg_begin_14 d_bg_begin_15 d_bg_begin_17 d_bg_begin_20 tw_339 xi_0 xj_0 tl_409 xa_0 (by decide +kernel) xf (by rw [hR]; decide) (by rw [hR]; decide) rfl (by rw [hR]; decide) (by rw [hR]; decide) (by decide) (by decide) (Or.inr ⟨_, rfl, rfl, by omega⟩)
  · exact Or.inr ⟨_, rfl, p1.1, by have := p1.2; omega⟩
def rm_bg_add : Room := { frames := 8, cells := 1, slots := 6, locals := 122 }
set_option maxRecDepth 20000 in
set_option maxHeartbeats 4000000 in
theorem m_bg_add {G : bgGl} (hG : bgOk G) {w0 : bgW} (hw : bgN w0) {f t x : Int} (z0 : -2147483648 ≤ f) (z1 : f ≤ 2147483647) (z2 : -2147483648 ≤ t) (z3 : t ≤ 2147483647) (z4 : -2147483648 ≤ x) (z5 : x ≤ 2147483647) : bgM G false 0 0 y_bg_add (.code y_bg_add co_bg_add 5 (some .int)) rm_bg_add [br 0, bi f, bi t, bi x] w0 (bgPit (fun v w' => bgRel w0 w') (fun X w' => w0 = w' ∧ (X = 0 ∨ X = 1 ∨ X = 2))) := by
  refine bg_met hG (by decide +kernel) (bg_cat rfl) (Nat.le_of_ble_eq_true rfl) ?_
  intro K hK hR hex C
  subst hK
  have hI := bgRel.rfl hw
  show bgX K true 0 0 _ w0 0 [some (br 0), some (bi f), some (bi t), some (bi x), none] []
  refine bg_aload_n C d_bg_add_0 rfl rfl ?_
  refine bg_cvt C (m_bg_mustBeOpen hG hI.1) (bg_invV C cf_bg rfl tw_419 ti_bg_mustBeOpen ts_bg_mustBeOpen tc_bg_mustBeOpen tw_35 ⟨by decide, by decide⟩ (nA := 0) (by decide +kernel) rfl d_bg_add_1 rfl) rfl (by rw [hR]; exact ⟨by decide, by decide⟩) (by rw [hR]; exact ⟨by decide, by decide⟩) (Nat.le_of_ble_eq_true rfl) rfl (fun w1 p1 => ?_) (fun X1 w1 p1 => bg_thru C (fun h => by cases h) hex (by decide) (by decide) ?_)
  · obtain rfl := p1
    refine bg_aload_n C d_bg_add_4 rfl rfl ?_
    refine bg_iload_n C d_bg_add_5 rfl rfl ?_
    refine bg_cvt C (m_bg_mustBeVertex hG hI.1 (by omega) (by omega)) (bg_invV C cf_bg rfl tw_424 ti_bg_mustBeVertex ts_bg_mustBeVertex tc_bg_mustBeVertex tw_35 ⟨by decide, by decide⟩ (nA := 1) (by decide +kernel) rfl d_bg_add_6 rfl) rfl (by rw [hR]; exact ⟨by decide, by decide⟩) (by rw [hR]; exact ⟨by decide, by decide⟩) (Nat.le_of_ble_eq_true rfl) rfl (fun w2 p2 => ?_) (fun X2 w2 p2 => bg_thru C (fun h => by cases h) hex (by decide) (by decide) ?_)
    · obtain ⟨rfl, r2_0, r2_1⟩ := p2
      refine bg_aload_n C d_bg_add_9 rfl rfl ?_
      refine bg_iload_n C d_bg_add_10 rfl rfl ?_
      refine bg_cvt C (m_bg_mustBeVertex hG hI.1 (by omega) (by omega)) (bg_invV C cf_bg rfl tw_424 ti_bg_mustBeVertex ts_bg_mustBeVertex tc_bg_mustBeVertex tw_35 ⟨by decide, by decide⟩ (nA := 1) (by decide +kernel) rfl d_bg_add_11 rfl) rfl (by rw [hR]; exact ⟨by decide, by decide⟩) (by rw [hR]; exact ⟨by decide, by decide⟩) (Nat.le_of_ble_eq_true rfl) rfl (fun w3 p3 => ?_) (fun X3 w3 p3 => bg_thru C (fun h => by cases h) hex (by decide) (by decide) ?_)
      · obtain ⟨rfl, r3_0, r3_1⟩ := p3
        refine bg_iload_n C d_bg_add_14 rfl rfl ?_
        refine bg_iconst C d_bg_add_15 ?_
        refine bg_icmp_lt (tgt := 26) C d_bg_add_16 (by decide) ⟨by omega, by omega⟩ ⟨by omega, by omega⟩ (fun h4 => ?_) (fun h4 => ?_)
        · exact bg_throw (X := 1) (names := xn) C hex rfl d_bg_add_26 d_bg_add_29 d_bg_add_30 d_bg_add_32 d_bg_add_35 tw_428 xi_1 xj_1 tl_444 xa_1 (by decide +kernel) xf (by rw [hR]; decide) (by rw [hR]; decide) rfl (by rw [hR]; decide) (by rw [hR]; decide) (by decide) (by decide) (Or.inr ⟨_, rfl, rfl, by omega⟩)
        · refine bg_iload_n C d_bg_add_19 rfl rfl ?_
          refine bg_sipush C d_bg_add_20 (by decide +kernel) ?_
          refine bg_icmp_le (tgt := 36) C d_bg_add_23 (by decide) ⟨by omega, by omega⟩ ⟨by omega, by omega⟩ (fun h5 => ?_) (fun h5 => ?_)
          · refine bg_aload_n C d_bg_add_36 rfl rfl ?_
            refine bg_getr (i := 3) C cf_bg rfl (by decide) rfl tw_207 d_bg_add_37 ?_
            refine bq_get0 C cf_et 3 3 rfl rfl (by decide) rfl tw_146 d_bg_add_40 (fun v6 e6 => ?_)
            refine bg_sipush C d_bg_add_43 (by decide +kernel) ?_
            refine bg_icmp_ne0 (tgt := 59) C d_bg_add_46 (by decide) ?_ ?_
            · refine bg_aload_n C d_bg_add_59 rfl rfl ?_
              refine bg_cvt C (m_bg_mustHaveRoomForOperation hG hI.1) (bg_invV C cf_bg rfl tw_461 ti_bg_mustHaveRoomForOperation ts_bg_mustHaveRoomForOperation tc_bg_mustHaveRoomForOperation tw_35 ⟨by decide, by decide⟩ (nA := 0) (by decide +kernel) rfl d_bg_add_60 rfl) rfl (by rw [hR]; exact ⟨by decide, by decide⟩) (by rw [hR]; exact ⟨by decide, by decide⟩) (Nat.le_of_ble_eq_true rfl) rfl (fun w8 p8 => ?_) (fun X8 w8 p8 => bg_thru C (fun h => by cases h) hex (by decide) (by decide) ?_)
              · obtain rfl := p8
                refine bg_aload_n C d_bg_add_63 rfl rfl ?_
                refine bg_getr (i := 3) C cf_bg rfl (by decide) rfl tw_207 d_bg_add_64 ?_
                refine bg_ci C (m_et_leastFree hG hI.1) (bg_invV C cf_et rfl tw_466 ti_et_leastFree ts_et_leastFree tc_et_leastFree tw_40 ⟨by decide, by decide⟩ (nA := 0) (by decide +kernel) rfl d_bg_add_67 rfl) rfl (by rw [hR]; exact ⟨by decide, by decide⟩) (by rw [hR]; exact ⟨by decide, by decide⟩) (Nat.le_of_ble_eq_true rfl) rfl (fun v9 w9 p9 => ?_)
                obtain ⟨rfl, r9_0, r9_1⟩ := p9
                refine bg_istore C d_bg_add_70 (Nat.le_of_ble_eq_true rfl) ?_
                refine bg_aload_n C d_bg_add_72 rfl rfl ?_
                refine bg_iload C d_bg_add_73 rfl ?_
                refine bg_iload_n C d_bg_add_75 rfl rfl ?_
                refine bg_iload_n C d_bg_add_76 rfl rfl ?_
                refine bg_iload_n C d_bg_add_77 rfl rfl ?_
                refine bg_cv C (m_bg_operate hG hI.1 (by omega) (by omega) (by omega) (by omega) (by omega) (by omega)) (bg_invV C cf_bg rfl tw_470 ti_bg_operate ts_bg_operate tc_bg_operate tw_35 ⟨by decide, by decide⟩ (nA := 4) (by decide +kernel) rfl d_bg_add_78 rfl) rfl (by rw [hR]; exact ⟨by decide, by decide⟩) (by rw [hR]; exact ⟨by decide, by decide⟩) (Nat.le_of_ble_eq_true rfl) rfl (fun w10 p10 => ?_)
                have j10 := p10
                have hI10 := hI.trans j10
                refine bg_iload C d_bg_add_81 rfl ?_
                exact bg_iret C d_bg_add_83 (fun h => by cases h) (Or.inl rfl) (Nat.zero_le _) (Nat.zero_le _) (Or.inl ⟨_, rfl, hI10⟩)
              · exact Or.inr ⟨_, rfl, p8.1, by have := p8.2; omega⟩
            · exact bg_throw (X := 2) (names := xn) C hex rfl d_bg_add_49 d_bg_add_52 d_bg_add_53 d_bg_add_55 d_bg_add_58 tw_445 xi_2 xj_2 tl_454 xa_2 (by decide +kernel) xf (by rw [hR]; decide) (by rw [hR]; decide) rfl (by rw [hR]; decide) (by rw [hR]; decide) (by decide) (by decide) (Or.inr ⟨_, rfl, rfl, by omega⟩)
          · exact bg_throw (X := 1) (names := xn) C hex rfl d_bg_add_26 d_bg_add_29 d_bg_add_30 d_bg_add_32 d_bg_add_35 tw_428 xi_1 xj_1 tl_444 xa_1 (by decide +kernel) xf (by rw [hR]; decide) (by rw [hR]; decide) rfl (by rw [hR]; decide) (by rw [hR]; decide) (by decide) (by decide) (Or.inr ⟨_, rfl, rfl, by omega⟩)
      · exact Or.inr ⟨_, rfl, p3.1, by have := p3.2; omega⟩
    · exact Or.inr ⟨_, rfl, p2.1, by have := p2.2; omega⟩
  · exact Or.inr ⟨_, rfl, p1.1, by have := p1.2; omega⟩
def rm_bg_commit : Room := { frames := 8, cells := 1, slots := 6, locals := 149 }
set_option maxRecDepth 20000 in
set_option maxHeartbeats 4000000 in
theorem m_bg_commit {G : bgGl} (hG : bgOk G) {w0 : bgW} (hw : bgN w0) : bgM G false 0 0 y_bg_commit (.code y_bg_commit co_bg_commit 2 (some .boolean)) rm_bg_commit [br 0] w0 (bgPit (fun v w' => bgRel w0 w' ∧ 0 ≤ v ∧ v ≤ 1) (fun X w' => w0 = w' ∧ (X = 0))) := by
  refine bg_met hG (by decide +kernel) (bg_cat rfl) (Nat.le_of_ble_eq_true rfl) ?_
  intro K hK hR hex C
  subst hK
  have hI := bgRel.rfl hw
  show bgX K true 0 0 _ w0 0 [some (br 0), none] []
  refine bg_aload_n C d_bg_commit_0 rfl rfl ?_
  refine bg_cvt C (m_bg_mustBeOpen hG hI.1) (bg_invV C cf_bg rfl tw_419 ti_bg_mustBeOpen ts_bg_mustBeOpen tc_bg_mustBeOpen tw_35 ⟨by decide, by decide⟩ (nA := 0) (by decide +kernel) rfl d_bg_commit_1 rfl) rfl (by rw [hR]; exact ⟨by decide, by decide⟩) (by rw [hR]; exact ⟨by decide, by decide⟩) (Nat.le_of_ble_eq_true rfl) rfl (fun w1 p1 => ?_) (fun X1 w1 p1 => bg_thru C (fun h => by cases h) hex (by decide) (by decide) ?_)
  · obtain rfl := p1
    refine bg_aload_n C d_bg_commit_4 rfl rfl ?_
    refine bg_getr (i := 4) C cf_bg rfl (by decide) rfl tw_208 d_bg_commit_5 ?_
    refine bq_geti C cf_op hI 4 4 rfl rfl (by decide) rfl (by decide) rfl tw_118 d_bg_commit_8 (fun v2 e2 a2 b2 => ?_)
    refine bg_if_eq (tgt := 32) C d_bg_commit_11 (by decide) ⟨by omega, by omega⟩ (fun h3 => ?_) (fun h3 => ?_)
    · refine bg_iconst C d_bg_commit_32 ?_
      refine bg_goto (l := 37) C d_bg_commit_33 (by decide) ?_
      refine bg_istore_n C d_bg_commit_37 rfl (Nat.le_of_ble_eq_true rfl) ?_
      refine bg_aload_n C d_bg_commit_38 rfl rfl ?_
      refine bg_cv C (m_bg_closeTransaction hG hI.1) (bg_invV C cf_bg rfl tw_240 ti_bg_closeTransaction ts_bg_closeTransaction tc_bg_closeTransaction tw_35 ⟨by decide, by decide⟩ (nA := 0) (by decide +kernel) rfl d_bg_commit_39 rfl) rfl (by rw [hR]; exact ⟨by decide, by decide⟩) (by rw [hR]; exact ⟨by decide, by decide⟩) (Nat.le_of_ble_eq_true rfl) rfl (fun w4 p4 => ?_)
      have j4 := p4
      have hI4 := hI.trans j4
      refine bg_aload_n C d_bg_commit_42 rfl rfl ?_
      refine bg_iload_n C d_bg_commit_43 rfl rfl ?_
      refine bg_cv C (m_bg_settleState hG hI4.1 (by omega) (by omega)) (bg_invV C cf_bg rfl tw_297 ti_bg_settleState ts_bg_settleState tc_bg_settleState tw_35 ⟨by decide, by decide⟩ (nA := 1) (by decide +kernel) rfl d_bg_commit_44 rfl) rfl (by rw [hR]; exact ⟨by decide, by decide⟩) (by rw [hR]; exact ⟨by decide, by decide⟩) (Nat.le_of_ble_eq_true rfl) rfl (fun w5 p5 => ?_)
      have j5 := p5
      have hI5 := hI4.trans j5
      refine bg_iload_n C d_bg_commit_47 rfl rfl ?_
      exact bg_iret C d_bg_commit_48 (fun h => by cases h) (Or.inr ⟨rfl, by omega⟩) (Nat.zero_le _) (Nat.zero_le _) (Or.inl ⟨_, rfl, hI5, by omega, by omega⟩)
    · refine bg_aload_n C d_bg_commit_14 rfl rfl ?_
      refine bg_getr (i := 2) C cf_bg rfl (by decide) rfl tw_206 d_bg_commit_15 ?_
      refine bg_aload_n C d_bg_commit_18 rfl rfl ?_
      refine bg_getr (i := 4) C cf_bg rfl (by decide) rfl tw_208 d_bg_commit_19 ?_
      refine bg_aload_n C d_bg_commit_22 rfl rfl ?_
      refine bg_getr (i := 3) C cf_bg rfl (by decide) rfl tw_207 d_bg_commit_23 ?_
      refine bg_ci C (m_so_save hG hI.1) (bg_invV C cf_so rfl tw_518 ti_so_save ts_so_save tc_so_save tw_38 ⟨by decide, by decide⟩ (nA := 2) (by decide +kernel) rfl d_bg_commit_26 rfl) rfl (by rw [hR]; exact ⟨by decide, by decide⟩) (by rw [hR]; exact ⟨by decide, by decide⟩) (Nat.le_of_ble_eq_true rfl) rfl (fun v6 w6 p6 => ?_)
      obtain ⟨j6, r6_0, r6_1⟩ := p6
      have hI6 := hI.trans j6
      refine bg_if_eq (tgt := 36) C d_bg_commit_29 (by decide) ⟨by omega, by omega⟩ (fun h7 => ?_) (fun h7 => ?_)
      · refine bg_iconst C d_bg_commit_36 ?_
        refine bg_istore_n C d_bg_commit_37 rfl (Nat.le_of_ble_eq_true rfl) ?_
        refine bg_aload_n C d_bg_commit_38 rfl rfl ?_
        refine bg_cv C (m_bg_closeTransaction hG hI6.1) (bg_invV C cf_bg rfl tw_240 ti_bg_closeTransaction ts_bg_closeTransaction tc_bg_closeTransaction tw_35 ⟨by decide, by decide⟩ (nA := 0) (by decide +kernel) rfl d_bg_commit_39 rfl) rfl (by rw [hR]; exact ⟨by decide, by decide⟩) (by rw [hR]; exact ⟨by decide, by decide⟩) (Nat.le_of_ble_eq_true rfl) rfl (fun w8 p8 => ?_)
        have j8 := p8
        have hI8 := hI6.trans j8
        refine bg_aload_n C d_bg_commit_42 rfl rfl ?_
        refine bg_iload_n C d_bg_commit_43 rfl rfl ?_
        refine bg_cv C (m_bg_settleState hG hI8.1 (by omega) (by omega)) (bg_invV C cf_bg rfl tw_297 ti_bg_settleState ts_bg_settleState tc_bg_settleState tw_35 ⟨by decide, by decide⟩ (nA := 1) (by decide +kernel) rfl d_bg_commit_44 rfl) rfl (by rw [hR]; exact ⟨by decide, by decide⟩) (by rw [hR]; exact ⟨by decide, by decide⟩) (Nat.le_of_ble_eq_true rfl) rfl (fun w9 p9 => ?_)
        have j9 := p9
        have hI9 := hI8.trans j9
        refine bg_iload_n C d_bg_commit_47 rfl rfl ?_
        exact bg_iret C d_bg_commit_48 (fun h => by cases h) (Or.inr ⟨rfl, by omega⟩) (Nat.zero_le _) (Nat.zero_le _) (Or.inl ⟨_, rfl, hI9, by omega, by omega⟩)
      · refine bg_iconst C d_bg_commit_32 ?_
        refine bg_goto (l := 37) C d_bg_commit_33 (by decide) ?_
        refine bg_istore_n C d_bg_commit_37 rfl (Nat.le_of_ble_eq_true rfl) ?_
        refine bg_aload_n C d_bg_commit_38 rfl rfl ?_
        refine bg_cv C (m_bg_closeTransaction hG hI6.1) (bg_invV C cf_bg rfl tw_240 ti_bg_closeTransaction ts_bg_closeTransaction tc_bg_closeTransaction tw_35 ⟨by decide, by decide⟩ (nA := 0) (by decide +kernel) rfl d_bg_commit_39 rfl) rfl (by rw [hR]; exact ⟨by decide, by decide⟩) (by rw [hR]; exact ⟨by decide, by decide⟩) (Nat.le_of_ble_eq_true rfl) rfl (fun w10 p10 => ?_)
        have j10 := p10
        have hI10 := hI6.trans j10
        refine bg_aload_n C d_bg_commit_42 rfl rfl ?_
        refine bg_iload_n C d_bg_commit_43 rfl rfl ?_
        refine bg_cv C (m_bg_settleState hG hI10.1 (by omega) (by omega)) (bg_invV C cf_bg rfl tw_297 ti_bg_settleState ts_bg_settleState tc_bg_settleState tw_35 ⟨by decide, by decide⟩ (nA := 1) (by decide +kernel) rfl d_bg_commit_44 rfl) rfl (by rw [hR]; exact ⟨by decide, by decide⟩) (by rw [hR]; exact ⟨by decide, by decide⟩) (Nat.le_of_ble_eq_true rfl) rfl (fun w11 p11 => ?_)
        have j11 := p11
        have hI11 := hI10.trans j11
        refine bg_iload_n C d_bg_commit_47 rfl rfl ?_
        exact bg_iret C d_bg_commit_48 (fun h => by cases h) (Or.inr ⟨rfl, by omega⟩) (Nat.zero_le _) (Nat.zero_le _) (Or.inl ⟨_, rfl, hI11, by omega, by omega⟩)
  · exact Or.inr ⟨_, rfl, p1.1, by have := p1.2; omega⟩
def rm_bg_abort : Room := { frames := 8, cells := 1, slots := 6, locals := 122 }
set_option maxRecDepth 20000 in
set_option maxHeartbeats 4000000 in
theorem m_bg_abort {G : bgGl} (hG : bgOk G) {w0 : bgW} (hw : bgN w0) : bgM G false 0 0 y_bg_abort (.code y_bg_abort co_bg_abort 2 (some .int)) rm_bg_abort [br 0] w0 (bgPit (fun v w' => bgRel w0 w') (fun X w' => w0 = w' ∧ (X = 0))) := by
  refine bg_met hG (by decide +kernel) (bg_cat rfl) (Nat.le_of_ble_eq_true rfl) ?_
  intro K hK hR hex C
  subst hK
  have hI := bgRel.rfl hw
  show bgX K true 0 0 _ w0 0 [some (br 0), none] []
  refine bg_aload_n C d_bg_abort_0 rfl rfl ?_
  refine bg_cvt C (m_bg_mustBeOpen hG hI.1) (bg_invV C cf_bg rfl tw_419 ti_bg_mustBeOpen ts_bg_mustBeOpen tc_bg_mustBeOpen tw_35 ⟨by decide, by decide⟩ (nA := 0) (by decide +kernel) rfl d_bg_abort_1 rfl) rfl (by rw [hR]; exact ⟨by decide, by decide⟩) (by rw [hR]; exact ⟨by decide, by decide⟩) (Nat.le_of_ble_eq_true rfl) rfl (fun w1 p1 => ?_) (fun X1 w1 p1 => bg_thru C (fun h => by cases h) hex (by decide) (by decide) ?_)
  · obtain rfl := p1
    refine bg_aload_n C d_bg_abort_4 rfl rfl ?_
    refine bg_getr (i := 4) C cf_bg rfl (by decide) rfl tw_208 d_bg_abort_5 ?_
    refine bq_geti C cf_op hI 4 4 rfl rfl (by decide) rfl (by decide) rfl tw_118 d_bg_abort_8 (fun v2 e2 a2 b2 => ?_)
    refine bg_istore_n C d_bg_abort_11 rfl (Nat.le_of_ble_eq_true rfl) ?_
    refine bg_aload_n C d_bg_abort_12 rfl rfl ?_
    refine bg_cv C (m_bg_closeTransaction hG hI.1) (bg_invV C cf_bg rfl tw_240 ti_bg_closeTransaction ts_bg_closeTransaction tc_bg_closeTransaction tw_35 ⟨by decide, by decide⟩ (nA := 0) (by decide +kernel) rfl d_bg_abort_13 rfl) rfl (by rw [hR]; exact ⟨by decide, by decide⟩) (by rw [hR]; exact ⟨by decide, by decide⟩) (Nat.le_of_ble_eq_true rfl) rfl (fun w3 p3 => ?_)
    have j3 := p3
    have hI3 := hI.trans j3
    refine bg_iload_n C d_bg_abort_16 rfl rfl ?_
    refine bg_if_le (tgt := 41) C d_bg_abort_17 (by decide) ⟨by omega, by omega⟩ (fun h4 => ?_) (fun h4 => ?_)
    · refine bg_iload_n C d_bg_abort_41 rfl rfl ?_
      exact bg_iret C d_bg_abort_42 (fun h => by cases h) (Or.inl rfl) (Nat.zero_le _) (Nat.zero_le _) (Or.inl ⟨_, rfl, hI3⟩)
    · refine bg_aload_n C d_bg_abort_20 rfl rfl ?_
      refine bg_getr (i := 3) C cf_bg rfl (by decide) rfl tw_207 d_bg_abort_21 ?_
      refine bg_aload_n C d_bg_abort_24 rfl rfl ?_
      refine bg_getr (i := 2) C cf_bg rfl (by decide) rfl tw_206 d_bg_abort_25 ?_
      refine bg_getr (i := 3) C cf_so rfl (by decide) rfl tw_160 d_bg_abort_28 ?_
      refine bg_cv C (m_et_copyAll hG hI3.1) (bg_invV C cf_et rfl tw_537 ti_et_copyAll ts_et_copyAll tc_et_copyAll tw_40 ⟨by decide, by decide⟩ (nA := 1) (by decide +kernel) rfl d_bg_abort_31 rfl) rfl (by rw [hR]; exact ⟨by decide, by decide⟩) (by rw [hR]; exact ⟨by decide, by decide⟩) (Nat.le_of_ble_eq_true rfl) rfl (fun w5 p5 => ?_)
      have j5 := p5
      have hI5 := hI3.trans j5
      refine bg_aload_n C d_bg_abort_34 rfl rfl ?_
      refine bg_getr (i := 5) C cf_bg rfl (by decide) rfl tw_209 d_bg_abort_35 ?_
      refine bg_cv C (m_wy_forget hG hI5.1) (bg_invV C cf_wy rfl tw_244 ti_wy_forget ts_wy_forget tc_wy_forget tw_41 ⟨by decide, by decide⟩ (nA := 0) (by decide +kernel) rfl d_bg_abort_38 rfl) rfl (by rw [hR]; exact ⟨by decide, by decide⟩) (by rw [hR]; exact ⟨by decide, by decide⟩) (Nat.le_of_ble_eq_true rfl) rfl (fun w6 p6 => ?_)
      have j6 := p6
      have hI6 := hI5.trans j6
      refine bg_iload_n C d_bg_abort_41 rfl rfl ?_
      exact bg_iret C d_bg_abort_42 (fun h => by cases h) (Or.inl rfl) (Nat.zero_le _) (Nat.zero_le _) (Or.inl ⟨_, rfl, hI6⟩)
  · exact Or.inr ⟨_, rfl, p1.1, by have := p1.2; omega⟩
def rm_bg_arm : Room := { frames := 6, cells := 1, slots := 6, locals := 82 }
set_option maxRecDepth 20000 in
set_option maxHeartbeats 4000000 in
theorem m_bg_arm {G : bgGl} (hG : bgOk G) {w0 : bgW} (hw : bgN w0) {x : Int} (z0 : -2147483648 ≤ x) (z1 : x ≤ 2147483647) : bgM G false 0 0 y_bg_arm (.code y_bg_arm co_bg_arm 2 none) rm_bg_arm [br 0, bi x] w0 (bgPvt (fun w' => bgRel w0 w' ∧ -1 ≤ x) (fun X w' => w0 = w' ∧ (X = 1) ∧ x < -1)) := by
  refine bg_met hG (by decide +kernel) (bg_cat rfl) (Nat.le_of_ble_eq_true rfl) ?_
  intro K hK hR hex C
  subst hK
  have hI := bgRel.rfl hw
  show bgX K true 0 0 _ w0 0 [some (br 0), some (bi x)] []
  refine bg_iload_n C d_bg_arm_0 rfl rfl ?_
  refine bg_iconst C d_bg_arm_1 ?_
  refine bg_icmp_ge (tgt := 15) C d_bg_arm_2 (by decide) ⟨by omega, by omega⟩ ⟨by omega, by omega⟩ (fun h1 => ?_) (fun h1 => ?_)
  · refine bg_aload_n C d_bg_arm_15 rfl rfl ?_
    refine bg_getr (i := 0) C cf_bg rfl (by decide) rfl tw_204 d_bg_arm_16 ?_
    refine bg_iload_n C d_bg_arm_19 rfl rfl ?_
    refine bq_put0 C cf_pw hI 0 0 rfl rfl (by decide) rfl (by decide) rfl rfl rfl tw_69 d_bg_arm_20 (fun w2 hI2 e2 => ?_)
    exact bg_ret C d_bg_arm_23 (fun h => by cases h) rfl (Nat.zero_le _) (Nat.zero_le _) (Or.inl ⟨rfl, hI2, by omega⟩)
  · exact bg_throw (X := 1) (names := xn) C hex rfl d_bg_arm_5 d_bg_arm_8 d_bg_arm_9 d_bg_arm_11 d_bg_arm_14 tw_428 xi_1 xj_1 tl_545 xa_1 (by decide +kernel) xf (by rw [hR]; decide) (by rw [hR]; decide) rfl (by rw [hR]; decide) (by rw [hR]; decide) (by decide) (by decide) (Or.inr ⟨_, rfl, rfl, by omega, by omega⟩)
def rm_bg_recover : Room := { frames := 5, cells := 0, slots := 0, locals := 147 }
set_option maxRecDepth 20000 in
set_option maxHeartbeats 4000000 in
theorem m_bg_recover {G : bgGl} (hG : bgOk G) {w0 : bgW} (hw : bgN w0) : bgM G false 0 0 y_bg_recover (.code y_bg_recover co_bg_recover 2 (some .int)) rm_bg_recover [br 0] w0 (bgPi (fun v w' => bgRel w0 w')) := by
  refine bg_met hG (by decide +kernel) (bg_cat rfl) (Nat.le_of_ble_eq_true rfl) ?_
  intro K hK hR hex C
  subst hK
  have hI := bgRel.rfl hw
  show bgX K true 0 0 _ w0 0 [some (br 0), none] []
  refine bg_aload_n C d_bg_recover_0 rfl rfl ?_
  refine bg_cv C (m_bg_startAnew hG hI.1) (bg_invV C cf_bg rfl tw_236 ti_bg_startAnew ts_bg_startAnew tc_bg_startAnew tw_35 ⟨by decide, by decide⟩ (nA := 0) (by decide +kernel) rfl d_bg_recover_1 rfl) rfl (by rw [hR]; exact ⟨by decide, by decide⟩) (by rw [hR]; exact ⟨by decide, by decide⟩) (Nat.le_of_ble_eq_true rfl) rfl (fun w1 p1 => ?_)
  have j1 := p1
  have hI1 := hI.trans j1
  refine bg_aload_n C d_bg_recover_4 rfl rfl ?_
  refine bg_getr (i := 2) C cf_bg rfl (by decide) rfl tw_206 d_bg_recover_5 ?_
  refine bg_aload_n C d_bg_recover_8 rfl rfl ?_
  refine bg_getr (i := 3) C cf_bg rfl (by decide) rfl tw_207 d_bg_recover_9 ?_
  refine bg_ci C (m_so_replay hG hI1.1) (bg_invV C cf_so rfl tw_305 ti_so_replay ts_so_replay tc_so_replay tw_38 ⟨by decide, by decide⟩ (nA := 1) (by decide +kernel) rfl d_bg_recover_12 rfl) rfl (by rw [hR]; exact ⟨by decide, by decide⟩) (by rw [hR]; exact ⟨by decide, by decide⟩) (Nat.le_of_ble_eq_true rfl) rfl (fun v2 w2 p2 => ?_)
  obtain ⟨j2, r2_0, r2_1⟩ := p2
  have hI2 := hI1.trans j2
  refine bg_istore_n C d_bg_recover_15 rfl (Nat.le_of_ble_eq_true rfl) ?_
  refine bg_aload_n C d_bg_recover_16 rfl rfl ?_
  refine bg_iload_n C d_bg_recover_17 rfl rfl ?_
  refine bg_if_eq (tgt := 35) C d_bg_recover_18 (by decide) ⟨by omega, by omega⟩ (fun h3 => ?_) (fun h3 => ?_)
  · refine bg_iconst C d_bg_recover_35 ?_
    refine bg_cv C (m_bg_settleState hG hI2.1 (by omega) (by omega)) (bg_invV C cf_bg rfl tw_297 ti_bg_settleState ts_bg_settleState tc_bg_settleState tw_35 ⟨by decide, by decide⟩ (nA := 1) (by decide +kernel) rfl d_bg_recover_36 rfl) rfl (by rw [hR]; exact ⟨by decide, by decide⟩) (by rw [hR]; exact ⟨by decide, by decide⟩) (Nat.le_of_ble_eq_true rfl) rfl (fun w4 p4 => ?_)
    have j4 := p4
    have hI4 := hI2.trans j4
    refine bg_iload_n C d_bg_recover_39 rfl rfl ?_
    refine bg_if_ne (tgt := 45) C d_bg_recover_40 (by decide) ⟨by omega, by omega⟩ (fun h5 => ?_) (fun h5 => ?_)
    · refine bg_aload_n C d_bg_recover_45 rfl rfl ?_
      refine bg_getr (i := 2) C cf_bg rfl (by decide) rfl tw_206 d_bg_recover_46 ?_
      refine bq_geti C cf_so hI4 4 4 rfl rfl (by decide) rfl (by decide) rfl tw_162 d_bg_recover_49 (fun v6 e6 a6 b6 => ?_)
      refine bg_if_eq (tgt := 59) C d_bg_recover_52 (by decide) ⟨by omega, by omega⟩ (fun h7 => ?_) (fun h7 => ?_)
      · refine bg_iconst C d_bg_recover_59 ?_
        exact bg_iret C d_bg_recover_60 (fun h => by cases h) (Or.inl rfl) (Nat.zero_le _) (Nat.zero_le _) ⟨_, rfl, hI4⟩
      · refine bg_iconst C d_bg_recover_55 ?_
        refine bg_goto (l := 60) C d_bg_recover_56 (by decide) ?_
        exact bg_iret C d_bg_recover_60 (fun h => by cases h) (Or.inl rfl) (Nat.zero_le _) (Nat.zero_le _) ⟨_, rfl, hI4⟩
    · refine bg_iconst C d_bg_recover_43 ?_
      exact bg_iret C d_bg_recover_44 (fun h => by cases h) (Or.inl rfl) (Nat.zero_le _) (Nat.zero_le _) ⟨_, rfl, hI4⟩
  · refine bg_aload_n C d_bg_recover_21 rfl rfl ?_
    refine bg_getr (i := 2) C cf_bg rfl (by decide) rfl tw_206 d_bg_recover_22 ?_
    refine bq_geti C cf_so hI2 4 4 rfl rfl (by decide) rfl (by decide) rfl tw_162 d_bg_recover_25 (fun v8 e8 a8 b8 => ?_)
    refine bg_if_eq (tgt := 35) C d_bg_recover_28 (by decide) ⟨by omega, by omega⟩ (fun h9 => ?_) (fun h9 => ?_)
    · refine bg_iconst C d_bg_recover_35 ?_
      refine bg_cv C (m_bg_settleState hG hI2.1 (by omega) (by omega)) (bg_invV C cf_bg rfl tw_297 ti_bg_settleState ts_bg_settleState tc_bg_settleState tw_35 ⟨by decide, by decide⟩ (nA := 1) (by decide +kernel) rfl d_bg_recover_36 rfl) rfl (by rw [hR]; exact ⟨by decide, by decide⟩) (by rw [hR]; exact ⟨by decide, by decide⟩) (Nat.le_of_ble_eq_true rfl) rfl (fun w10 p10 => ?_)
      have j10 := p10
      have hI10 := hI2.trans j10
      refine bg_iload_n C d_bg_recover_39 rfl rfl ?_
      refine bg_if_ne (tgt := 45) C d_bg_recover_40 (by decide) ⟨by omega, by omega⟩ (fun h11 => ?_) (fun h11 => ?_)
      · refine bg_aload_n C d_bg_recover_45 rfl rfl ?_
        refine bg_getr (i := 2) C cf_bg rfl (by decide) rfl tw_206 d_bg_recover_46 ?_
        refine bq_geti C cf_so hI10 4 4 rfl rfl (by decide) rfl (by decide) rfl tw_162 d_bg_recover_49 (fun v12 e12 a12 b12 => ?_)
        refine bg_if_eq (tgt := 59) C d_bg_recover_52 (by decide) ⟨by omega, by omega⟩ (fun h13 => ?_) (fun h13 => ?_)
        · refine bg_iconst C d_bg_recover_59 ?_
          exact bg_iret C d_bg_recover_60 (fun h => by cases h) (Or.inl rfl) (Nat.zero_le _) (Nat.zero_le _) ⟨_, rfl, hI10⟩
        · refine bg_iconst C d_bg_recover_55 ?_
          refine bg_goto (l := 60) C d_bg_recover_56 (by decide) ?_
          exact bg_iret C d_bg_recover_60 (fun h => by cases h) (Or.inl rfl) (Nat.zero_le _) (Nat.zero_le _) ⟨_, rfl, hI10⟩
      · refine bg_iconst C d_bg_recover_43 ?_
        exact bg_iret C d_bg_recover_44 (fun h => by cases h) (Or.inl rfl) (Nat.zero_le _) (Nat.zero_le _) ⟨_, rfl, hI10⟩
    · refine bg_iconst C d_bg_recover_31 ?_
      refine bg_goto (l := 36) C d_bg_recover_32 (by decide) ?_
      refine bg_cv C (m_bg_settleState hG hI2.1 (by omega) (by omega)) (bg_invV C cf_bg rfl tw_297 ti_bg_settleState ts_bg_settleState tc_bg_settleState tw_35 ⟨by decide, by decide⟩ (nA := 1) (by decide +kernel) rfl d_bg_recover_36 rfl) rfl (by rw [hR]; exact ⟨by decide, by decide⟩) (by rw [hR]; exact ⟨by decide, by decide⟩) (Nat.le_of_ble_eq_true rfl) rfl (fun w14 p14 => ?_)
      have j14 := p14
      have hI14 := hI2.trans j14
      refine bg_iload_n C d_bg_recover_39 rfl rfl ?_
      refine bg_if_ne (tgt := 45) C d_bg_recover_40 (by decide) ⟨by omega, by omega⟩ (fun h15 => ?_) (fun h15 => ?_)
      · refine bg_aload_n C d_bg_recover_45 rfl rfl ?_
        refine bg_getr (i := 2) C cf_bg rfl (by decide) rfl tw_206 d_bg_recover_46 ?_
        refine bq_geti C cf_so hI14 4 4 rfl rfl (by decide) rfl (by decide) rfl tw_162 d_bg_recover_49 (fun v16 e16 a16 b16 => ?_)
        refine bg_if_eq (tgt := 59) C d_bg_recover_52 (by decide) ⟨by omega, by omega⟩ (fun h17 => ?_) (fun h17 => ?_)
        · refine bg_iconst C d_bg_recover_59 ?_
          exact bg_iret C d_bg_recover_60 (fun h => by cases h) (Or.inl rfl) (Nat.zero_le _) (Nat.zero_le _) ⟨_, rfl, hI14⟩
        · refine bg_iconst C d_bg_recover_55 ?_
          refine bg_goto (l := 60) C d_bg_recover_56 (by decide) ?_
          exact bg_iret C d_bg_recover_60 (fun h => by cases h) (Or.inl rfl) (Nat.zero_le _) (Nat.zero_le _) ⟨_, rfl, hI14⟩
      · refine bg_iconst C d_bg_recover_43 ?_
        exact bg_iret C d_bg_recover_44 (fun h => by cases h) (Or.inl rfl) (Nat.zero_le _) (Nat.zero_le _) ⟨_, rfl, hI14⟩
def rm_bg_room : Room := { frames := 6, cells := 1, slots := 6, locals := 82 }
set_option maxRecDepth 20000 in
set_option maxHeartbeats 4000000 in
theorem m_bg_room {G : bgGl} (hG : bgOk G) {w0 : bgW} (hw : bgN w0) {x : Int} (z0 : -2147483648 ≤ x) (z1 : x ≤ 2147483647) : bgM G false 0 0 y_bg_room (.code y_bg_room co_bg_room 2 none) rm_bg_room [br 0, bi x] w0 (bgPvt (fun w' => bgRel w0 w' ∧ 1 ≤ x ∧ x ≤ 50) (fun X w' => w0 = w' ∧ (X = 1) ∧ (x < 1 ∨ 50 < x))) := by
  refine bg_met hG (by decide +kernel) (bg_cat rfl) (Nat.le_of_ble_eq_true rfl) ?_
  intro K hK hR hex C
  subst hK
  have hI := bgRel.rfl hw
  show bgX K true 0 0 _ w0 0 [some (br 0), some (bi x)] []
  refine bg_iload_n C d_bg_room_0 rfl rfl ?_
  refine bg_iconst C d_bg_room_1 ?_
  refine bg_icmp_lt (tgt := 11) C d_bg_room_2 (by decide) ⟨by omega, by omega⟩ ⟨by omega, by omega⟩ (fun h1 => ?_) (fun h1 => ?_)
  · exact bg_throw (X := 1) (names := xn) C hex rfl d_bg_room_11 d_bg_room_14 d_bg_room_15 d_bg_room_17 d_bg_room_20 tw_428 xi_1 xj_1 tl_566 xa_1 (by decide +kernel) xf (by rw [hR]; decide) (by rw [hR]; decide) rfl (by rw [hR]; decide) (by rw [hR]; decide) (by decide) (by decide) (Or.inr ⟨_, rfl, rfl, by omega, by omega⟩)
  · refine bg_iload_n C d_bg_room_5 rfl rfl ?_
    refine bg_bipush C d_bg_room_6 (by decide +kernel) ?_
    refine bg_icmp_le (tgt := 21) C d_bg_room_8 (by decide) ⟨by omega, by omega⟩ ⟨by omega, by omega⟩ (fun h2 => ?_) (fun h2 => ?_)
    · refine bg_aload_n C d_bg_room_21 rfl rfl ?_
      refine bg_getr (i := 1) C cf_bg rfl (by decide) rfl tw_205 d_bg_room_22 ?_
      refine bg_iload_n C d_bg_room_25 rfl rfl ?_
      refine bg_cv C (m_hd_limit hG hI.1 (by omega) (by omega)) (bg_invV C cf_hd rfl tw_567 ti_hd_limit ts_hd_limit tc_hd_limit tw_37 ⟨by decide, by decide⟩ (nA := 1) (by decide +kernel) rfl d_bg_room_26 rfl) rfl (by rw [hR]; exact ⟨by decide, by decide⟩) (by rw [hR]; exact ⟨by decide, by decide⟩) (Nat.le_of_ble_eq_true rfl) rfl (fun w3 p3 => ?_)
      have j3 := p3
      have hI3 := hI.trans j3
      exact bg_ret C d_bg_room_29 (fun h => by cases h) rfl (Nat.zero_le _) (Nat.zero_le _) (Or.inl ⟨rfl, hI3, by omega, by omega⟩)
    · exact bg_throw (X := 1) (names := xn) C hex rfl d_bg_room_11 d_bg_room_14 d_bg_room_15 d_bg_room_17 d_bg_room_20 tw_428 xi_1 xj_1 tl_566 xa_1 (by decide +kernel) xf (by rw [hR]; decide) (by rw [hR]; decide) rfl (by rw [hR]; decide) (by rw [hR]; decide) (by decide) (by decide) (Or.inr ⟨_, rfl, rfl, by omega, by omega⟩)
def rm_bg_run : Room := { frames := 7, cells := 1, slots := 6, locals := 103 }
set_option maxRecDepth 20000 in
set_option maxHeartbeats 4000000 in
theorem m_bg_run {G : bgGl} (hG : bgOk G) {w0 : bgW} (hw : bgN w0) {x : Int} (z0 : -2147483648 ≤ x) (z1 : x ≤ 2147483647) : bgM G false 0 0 y_bg_run (.code y_bg_run co_bg_run 3 (some .int)) rm_bg_run [br 0, bi x] w0 (bgPit (fun v w' => bgRel w0 w') (fun X w' => w0 = w' ∧ (X = 0 ∨ X = 1))) := by
  refine bg_met hG (by decide +kernel) (bg_cat rfl) (Nat.le_of_ble_eq_true rfl) ?_
  intro K hK hR hex C
  subst hK
  have hI := bgRel.rfl hw
  show bgX K true 0 0 _ w0 0 [some (br 0), some (bi x), none] []
  refine bg_aload_n C d_bg_run_0 rfl rfl ?_
  refine bg_cvt C (m_bg_mustBeUp hG hI.1) (bg_invV C cf_bg rfl tw_335 ti_bg_mustBeUp ts_bg_mustBeUp tc_bg_mustBeUp tw_35 ⟨by decide, by decide⟩ (nA := 0) (by decide +kernel) rfl d_bg_run_1 rfl) rfl (by rw [hR]; exact ⟨by decide, by decide⟩) (by rw [hR]; exact ⟨by decide, by decide⟩) (Nat.le_of_ble_eq_true rfl) rfl (fun w1 p1 => ?_) (fun X1 w1 p1 => bg_thru C (fun h => by cases h) hex (by decide) (by decide) ?_)
  · obtain rfl := p1
    refine bg_aload_n C d_bg_run_4 rfl rfl ?_
    refine bg_iload_n C d_bg_run_5 rfl rfl ?_
    refine bg_cvt C (m_bg_mustBeVertex hG hI.1 (by omega) (by omega)) (bg_invV C cf_bg rfl tw_424 ti_bg_mustBeVertex ts_bg_mustBeVertex tc_bg_mustBeVertex tw_35 ⟨by decide, by decide⟩ (nA := 1) (by decide +kernel) rfl d_bg_run_6 rfl) rfl (by rw [hR]; exact ⟨by decide, by decide⟩) (by rw [hR]; exact ⟨by decide, by decide⟩) (Nat.le_of_ble_eq_true rfl) rfl (fun w2 p2 => ?_) (fun X2 w2 p2 => bg_thru C (fun h => by cases h) hex (by decide) (by decide) ?_)
    · obtain ⟨rfl, r2_0, r2_1⟩ := p2
      refine bg_iconst C d_bg_run_9 ?_
      refine bg_istore_n C d_bg_run_10 rfl (Nat.le_of_ble_eq_true rfl) ?_
      refine bg_weak ?_
      refine bg_loop (α := bgW × Int) (fun a => (50 - a.2).toNat) (fun a => bgRel w0 a.1 ∧ 0 ≤ a.2 ∧ a.2 ≤ 50) (fun a => (a.1, [some (br 0), some (bi x), some (bi a.2)], [])) ?_ (w0, 0) ⟨hI, by (try dsimp only) <;> omega, by (try dsimp only) <;> omega⟩
      rintro ⟨w3, i3⟩ ⟨hI3, q3_0, q3_1⟩ ih11
      try dsimp only at ih11
      try dsimp only at q3_0
      try dsimp only at q3_1
      try dsimp only
      refine bg_iload_n C d_bg_run_11 rfl rfl ?_
      refine bg_bipush C d_bg_run_12 (by decide +kernel) ?_
      refine bg_icmp_ge (tgt := 31) C d_bg_run_14 (by decide) ⟨by omega, by omega⟩ ⟨by omega, by omega⟩ (fun h4 => ?_) (fun h4 => ?_)
      · refine bg_aload_n C d_bg_run_31 rfl rfl ?_
        refine bg_getr (i := 5) C cf_bg rfl (by decide) rfl tw_209 d_bg_run_32 ?_
        refine bg_aload_n C d_bg_run_35 rfl rfl ?_
        refine bg_getr (i := 3) C cf_bg rfl (by decide) rfl tw_207 d_bg_run_36 ?_
        refine bg_iload_n C d_bg_run_39 rfl rfl ?_
        refine bg_ci C (m_wy_measure hG hI3.1 (by omega) (by omega)) (bg_invV C cf_wy rfl tw_578 ti_wy_measure ts_wy_measure tc_wy_measure tw_41 ⟨by decide, by decide⟩ (nA := 2) (by decide +kernel) rfl d_bg_run_40 rfl) rfl (by rw [hR]; exact ⟨by decide, by decide⟩) (by rw [hR]; exact ⟨by decide, by decide⟩) (Nat.le_of_ble_eq_true rfl) rfl (fun v5 w5 p5 => ?_)
        have j5 := p5
        have hI5 := hI3.trans j5
        exact bg_iret C d_bg_run_43 (fun h => by cases h) (Or.inl rfl) (Nat.zero_le _) (Nat.zero_le _) (Or.inl ⟨_, rfl, hI5⟩)
      · refine bg_aload_n C d_bg_run_17 rfl rfl ?_
        refine bg_getr (i := 1) C cf_bg rfl (by decide) rfl tw_205 d_bg_run_18 ?_
        refine bg_iload_n C d_bg_run_21 rfl rfl ?_
        refine bg_cv C (m_hd_look hG hI3.1) (bg_invV C cf_hd rfl tw_554 ti_hd_look ts_hd_look tc_hd_look tw_37 ⟨by decide, by decide⟩ (nA := 1) (by decide +kernel) rfl d_bg_run_22 rfl) rfl (by rw [hR]; exact ⟨by decide, by decide⟩) (by rw [hR]; exact ⟨by decide, by decide⟩) (Nat.le_of_ble_eq_true rfl) rfl (fun w6 p6 => ?_)
        have j6 := p6
        have hI6 := hI3.trans j6
        refine bg_iinc C d_bg_run_25 rfl ?_
        refine bg_goto (l := 11) C d_bg_run_28 (by decide) ?_
        exact ih11 (w6, (i3 + 1)) ⟨hI6, by (try dsimp only) <;> omega, by (try dsimp only) <;> omega⟩ (by (try dsimp only) <;> omega)
    · exact Or.inr ⟨_, rfl, p2.1, by have := p2.2; omega⟩
  · exact Or.inr ⟨_, rfl, p1.1, by have := p1.2; omega⟩
def rm_bg_distance : Room := { frames := 8, cells := 1, slots := 6, locals := 124 }
set_option maxRecDepth 20000 in
set_option maxHeartbeats 4000000 in
theorem m_bg_distance {G : bgGl} (hG : bgOk G) {w0 : bgW} (hw : bgN w0) {x : Int} (z0 : -2147483648 ≤ x) (z1 : x ≤ 2147483647) : bgM G true 0 0 y_bg_distance (.code y_bg_distance co_bg_distance 2 (some .int)) rm_bg_distance [br 0, bi x] w0 (bgPit (fun v w' => w0 = w') (fun X w' => w0 = w' ∧ (X = 0 ∨ X = 1))) := by
  refine bg_met hG (by decide +kernel) (bg_cat rfl) (Nat.le_of_ble_eq_true rfl) ?_
  intro K hK hR hex C
  subst hK
  have hI := bgRel.rfl hw
  show bgX K true 0 0 _ w0 0 [some (br 0), some (bi x)] []
  refine bg_aload_n C d_bg_distance_0 rfl rfl ?_
  refine bg_iload_n C d_bg_distance_1 rfl rfl ?_
  refine bg_cvt C (m_bg_mustHaveWayTo hG hI.1 (by omega) (by omega)) (bg_invV C cf_bg rfl tw_607 ti_bg_mustHaveWayTo ts_bg_mustHaveWayTo tc_bg_mustHaveWayTo tw_35 ⟨by decide, by decide⟩ (nA := 1) (by decide +kernel) rfl d_bg_distance_2 rfl) rfl (by rw [hR]; exact ⟨by decide, by decide⟩) (by rw [hR]; exact ⟨by decide, by decide⟩) (Nat.le_of_ble_eq_true rfl) rfl (fun w1 p1 => ?_) (fun X1 w1 p1 => bg_thru C (fun _ => rfl) hex (by decide) (by decide) ?_)
  · obtain ⟨rfl, r1_0, r1_1⟩ := p1
    refine bg_aload_n C d_bg_distance_5 rfl rfl ?_
    refine bg_getr (i := 5) C cf_bg rfl (by decide) rfl tw_209 d_bg_distance_6 ?_
    refine bg_getr (i := 0) C cf_wy rfl (by decide) rfl tw_189 d_bg_distance_9 ?_
    refine bg_iload_n C d_bg_distance_12 rfl rfl ?_
    refine bq_iald0 C rfl (by omega) (by omega) d_bg_distance_13 (fun v2 e2 => ?_)
    exact bg_iret C d_bg_distance_14 (fun _ => rfl) (Or.inl rfl) (Nat.zero_le _) (Nat.zero_le _) (Or.inl ⟨_, rfl, rfl⟩)
  · exact Or.inr ⟨_, rfl, p1.1, by have := p1.2; omega⟩
def rm_bg_parent : Room := { frames := 8, cells := 1, slots := 6, locals := 124 }
set_option maxRecDepth 20000 in
set_option maxHeartbeats 4000000 in
theorem m_bg_parent {G : bgGl} (hG : bgOk G) {w0 : bgW} (hw : bgN w0) {x : Int} (z0 : -2147483648 ≤ x) (z1 : x ≤ 2147483647) : bgM G true 0 0 y_bg_parent (.code y_bg_parent co_bg_parent 2 (some .int)) rm_bg_parent [br 0, bi x] w0 (bgPit (fun v w' => w0 = w') (fun X w' => w0 = w' ∧ (X = 0 ∨ X = 1))) := by
  refine bg_met hG (by decide +kernel) (bg_cat rfl) (Nat.le_of_ble_eq_true rfl) ?_
  intro K hK hR hex C
  subst hK
  have hI := bgRel.rfl hw
  show bgX K true 0 0 _ w0 0 [some (br 0), some (bi x)] []
  refine bg_aload_n C d_bg_parent_0 rfl rfl ?_
  refine bg_iload_n C d_bg_parent_1 rfl rfl ?_
  refine bg_cvt C (m_bg_mustHaveWayTo hG hI.1 (by omega) (by omega)) (bg_invV C cf_bg rfl tw_607 ti_bg_mustHaveWayTo ts_bg_mustHaveWayTo tc_bg_mustHaveWayTo tw_35 ⟨by decide, by decide⟩ (nA := 1) (by decide +kernel) rfl d_bg_parent_2 rfl) rfl (by rw [hR]; exact ⟨by decide, by decide⟩) (by rw [hR]; exact ⟨by decide, by decide⟩) (Nat.le_of_ble_eq_true rfl) rfl (fun w1 p1 => ?_) (fun X1 w1 p1 => bg_thru C (fun _ => rfl) hex (by decide) (by decide) ?_)
  · obtain ⟨rfl, r1_0, r1_1⟩ := p1
    refine bg_aload_n C d_bg_parent_5 rfl rfl ?_
    refine bg_getr (i := 5) C cf_bg rfl (by decide) rfl tw_209 d_bg_parent_6 ?_
    refine bg_getr (i := 1) C cf_wy rfl (by decide) rfl tw_191 d_bg_parent_9 ?_
    refine bg_iload_n C d_bg_parent_12 rfl rfl ?_
    refine bq_iald0 C rfl (by omega) (by omega) d_bg_parent_13 (fun v2 e2 => ?_)
    exact bg_iret C d_bg_parent_14 (fun _ => rfl) (Or.inl rfl) (Nat.zero_le _) (Nat.zero_le _) (Or.inl ⟨_, rfl, rfl⟩)
  · exact Or.inr ⟨_, rfl, p1.1, by have := p1.2; omega⟩
def rm_bg_way : Room := { frames := 8, cells := 1, slots := 6, locals := 124 }
set_option maxRecDepth 20000 in
set_option maxHeartbeats 4000000 in
theorem m_bg_way {G : bgGl} (hG : bgOk G) {w0 : bgW} (hw : bgN w0) {x k : Int} (z0 : -2147483648 ≤ x) (z1 : x ≤ 2147483647) (z2 : -2147483648 ≤ k) (z3 : k ≤ 2147483647) : bgM G true 0 0 y_bg_way (.code y_bg_way co_bg_way 4 (some .int)) rm_bg_way [br 0, bi x, bi k] w0 (bgPit (fun v w' => w0 = w') (fun X w' => w0 = w' ∧ (X = 0 ∨ X = 1 ∨ X = 4))) := by
  refine bg_met hG (by decide +kernel) (bg_cat rfl) (Nat.le_of_ble_eq_true rfl) ?_
  intro K hK hR hex C
  subst hK
  have hI := bgRel.rfl hw
  show bgX K true 0 0 _ w0 0 [some (br 0), some (bi x), some (bi k), none] []
  refine bg_aload_n C d_bg_way_0 rfl rfl ?_
  refine bg_iload_n C d_bg_way_1 rfl rfl ?_
  refine bg_cvt C (m_bg_mustHaveWayTo hG hI.1 (by omega) (by omega)) (bg_invV C cf_bg rfl tw_607 ti_bg_mustHaveWayTo ts_bg_mustHaveWayTo tc_bg_mustHaveWayTo tw_35 ⟨by decide, by decide⟩ (nA := 1) (by decide +kernel) rfl d_bg_way_2 rfl) rfl (by rw [hR]; exact ⟨by decide, by decide⟩) (by rw [hR]; exact ⟨by decide, by decide⟩) (Nat.le_of_ble_eq_true rfl) rfl (fun w1 p1 => ?_) (fun X1 w1 p1 => bg_thru C (fun _ => rfl) hex (by decide) (by decide) ?_)
  · obtain ⟨rfl, r1_0, r1_1⟩ := p1
    refine bg_aload_n C d_bg_way_5 rfl rfl ?_
    refine bg_getr (i := 5) C cf_bg rfl (by decide) rfl tw_209 d_bg_way_6 ?_
    refine bg_iload_n C d_bg_way_9 rfl rfl ?_
    refine bg_ci C (m_wy_length hG hI.1 (by omega) (by omega)) (bg_invV C cf_wy rfl tw_627 ti_wy_length ts_wy_length tc_wy_length tw_41 ⟨by decide, by decide⟩ (nA := 1) (by decide +kernel) rfl d_bg_way_10 rfl) rfl (by rw [hR]; exact ⟨by decide, by decide⟩) (by rw [hR]; exact ⟨by decide, by decide⟩) (Nat.le_of_ble_eq_true rfl) rfl (fun v2 w2 p2 => ?_)
    obtain ⟨rfl, r2_0, r2_1⟩ := p2
    refine bg_istore_n C d_bg_way_13 rfl (Nat.le_of_ble_eq_true rfl) ?_
    refine bg_iload_n C d_bg_way_14 rfl rfl ?_
    refine bg_if_lt (tgt := 23) C d_bg_way_15 (by decide) ⟨by omega, by omega⟩ (fun h3 => ?_) (fun h3 => ?_)
    · exact bg_throw (X := 4) (names := xn) C hex rfl d_bg_way_23 d_bg_way_26 d_bg_way_27 d_bg_way_29 d_bg_way_32 tw_631 xi_4 xj_4 tl_640 xa_4 (by decide +kernel) xf (by rw [hR]; decide) (by rw [hR]; decide) rfl (by rw [hR]; decide) (by rw [hR]; decide) (by decide) (by decide) (Or.inr ⟨_, rfl, rfl, by omega⟩)
    · refine bg_iload_n C d_bg_way_18 rfl rfl ?_
      refine bg_iload_n C d_bg_way_19 rfl rfl ?_
      refine bg_icmp_lt (tgt := 33) C d_bg_way_20 (by decide) ⟨by omega, by omega⟩ ⟨by omega, by omega⟩ (fun h4 => ?_) (fun h4 => ?_)
      · refine bg_aload_n C d_bg_way_33 rfl rfl ?_
        refine bg_getr (i := 5) C cf_bg rfl (by decide) rfl tw_209 d_bg_way_34 ?_
        refine bg_iload_n C d_bg_way_37 rfl rfl ?_
        refine bg_iload_n C d_bg_way_38 rfl rfl ?_
        refine bg_iconst C d_bg_way_39 ?_
        refine bg_isub C d_bg_way_40 ?_
        refine bg_iload_n C d_bg_way_41 rfl rfl ?_
        refine bg_isub C d_bg_way_42 ?_
        refine bg_ci C (m_wy_goBack hG hI.1 (by omega) (by omega) (by omega) (by omega)) (bg_invV C cf_wy rfl tw_647 ti_wy_goBack ts_wy_goBack tc_wy_goBack tw_41 ⟨by decide, by decide⟩ (nA := 2) (by decide +kernel) rfl d_bg_way_43 rfl) rfl (by rw [hR]; exact ⟨by decide, by decide⟩) (by rw [hR]; exact ⟨by decide, by decide⟩) (Nat.le_of_ble_eq_true rfl) rfl (fun v5 w5 p5 => ?_)
        obtain rfl := p5
        exact bg_iret C d_bg_way_46 (fun _ => rfl) (Or.inl rfl) (Nat.zero_le _) (Nat.zero_le _) (Or.inl ⟨_, rfl, rfl⟩)
      · exact bg_throw (X := 4) (names := xn) C hex rfl d_bg_way_23 d_bg_way_26 d_bg_way_27 d_bg_way_29 d_bg_way_32 tw_631 xi_4 xj_4 tl_640 xa_4 (by decide +kernel) xf (by rw [hR]; decide) (by rw [hR]; decide) rfl (by rw [hR]; decide) (by rw [hR]; decide) (by decide) (by decide) (Or.inr ⟨_, rfl, rfl, by omega⟩)
  · exact Or.inr ⟨_, rfl, p1.1, by have := p1.2; omega⟩
def rm_bg_atHand : Room := { frames := 6, cells := 1, slots := 6, locals := 82 }
set_option maxRecDepth 20000 in
set_option maxHeartbeats 4000000 in
theorem m_bg_atHand {G : bgGl} (hG : bgOk G) {w0 : bgW} (hw : bgN w0) {k : Int} (z0 : -2147483648 ≤ k) (z1 : k ≤ 2147483647) : bgM G true 0 0 y_bg_atHand (.code y_bg_atHand co_bg_atHand 2 (some .int)) rm_bg_atHand [br 0, bi k] w0 (bgPit (fun v w' => w0 = w') (fun X w' => w0 = w' ∧ (X = 4))) := by
  refine bg_met hG (by decide +kernel) (bg_cat rfl) (Nat.le_of_ble_eq_true rfl) ?_
  intro K hK hR hex C
  subst hK
  have hI := bgRel.rfl hw
  show bgX K true 0 0 _ w0 0 [some (br 0), some (bi k)] []
  refine bg_iload_n C d_bg_atHand_0 rfl rfl ?_
  refine bg_if_lt (tgt := 15) C d_bg_atHand_1 (by decide) ⟨by omega, by omega⟩ (fun h1 => ?_) (fun h1 => ?_)
  · exact bg_throw (X := 4) (names := xn) C hex rfl d_bg_atHand_15 d_bg_atHand_18 d_bg_atHand_19 d_bg_atHand_21 d_bg_atHand_24 tw_631 xi_4 xj_4 tl_658 xa_4 (by decide +kernel) xf (by rw [hR]; decide) (by rw [hR]; decide) rfl (by rw [hR]; decide) (by rw [hR]; decide) (by decide) (by decide) (Or.inr ⟨_, rfl, rfl, by omega⟩)
  · refine bg_iload_n C d_bg_atHand_4 rfl rfl ?_
    refine bg_aload_n C d_bg_atHand_5 rfl rfl ?_
    refine bg_getr (i := 1) C cf_bg rfl (by decide) rfl tw_205 d_bg_atHand_6 ?_
    refine bq_geti C cf_hd hI 1 1 rfl rfl (by decide) rfl (by decide) rfl tw_86 d_bg_atHand_9 (fun v2 e2 a2 b2 => ?_)
    refine bg_icmp_lt (tgt := 25) C d_bg_atHand_12 (by decide) ⟨by omega, by omega⟩ ⟨by omega, by omega⟩ (fun h3 => ?_) (fun h3 => ?_)
    · refine bg_aload_n C d_bg_atHand_25 rfl rfl ?_
      refine bg_getr (i := 1) C cf_bg rfl (by decide) rfl tw_205 d_bg_atHand_26 ?_
      refine bg_getr (i := 0) C cf_hd rfl (by decide) rfl tw_84 d_bg_atHand_29 ?_
      refine bg_iload_n C d_bg_atHand_32 rfl rfl ?_
      refine bq_iald0 C rfl (by omega) (by omega) d_bg_atHand_33 (fun v4 e4 => ?_)
      exact bg_iret C d_bg_atHand_34 (fun _ => rfl) (Or.inl rfl) (Nat.zero_le _) (Nat.zero_le _) (Or.inl ⟨_, rfl, rfl⟩)
    · exact bg_throw (X := 4) (names := xn) C hex rfl d_bg_atHand_15 d_bg_atHand_18 d_bg_atHand_19 d_bg_atHand_21 d_bg_atHand_24 tw_631 xi_4 xj_4 tl_658 xa_4 (by decide +kernel) xf (by rw [hR]; decide) (by rw [hR]; decide) rfl (by rw [hR]; decide) (by rw [hR]; decide) (by decide) (by decide) (Or.inr ⟨_, rfl, rfl, by omega⟩)
def rm_bg_count : Room := { frames := 6, cells := 1, slots := 6, locals := 82 }
set_option maxRecDepth 20000 in
set_option maxHeartbeats 4000000 in
theorem m_bg_count {G : bgGl} (hG : bgOk G) {w0 : bgW} (hw : bgN w0) {k : Int} (z0 : -2147483648 ≤ k) (z1 : k ≤ 2147483647) : bgM G true 0 0 y_bg_count (.code y_bg_count co_bg_count 2 (some .int)) rm_bg_count [br 0, bi k] w0 (bgPit (fun v w' => w0 = w') (fun X w' => w0 = w' ∧ (X = 1))) := by
  refine bg_met hG (by decide +kernel) (bg_cat rfl) (Nat.le_of_ble_eq_true rfl) ?_
  intro K hK hR hex C
  subst hK
  have hI := bgRel.rfl hw
  show bgX K true 0 0 _ w0 0 [some (br 0), some (bi k)] []
  refine bg_iload_n C d_bg_count_0 rfl rfl ?_
  by_cases h1 : k < 0 ∨ 7 < k
  · refine bg_tabOut (tgt := 157) C d_bg_count_1 ⟨by omega, by omega⟩ h1 (by decide) ?_
    exact bg_throw (X := 1) (names := xn) C hex rfl d_bg_count_157 d_bg_count_160 d_bg_count_161 d_bg_count_163 d_bg_count_166 tw_428 xi_1 xj_1 tl_666 xa_1 (by decide +kernel) xf (by rw [hR]; decide) (by rw [hR]; decide) rfl (by rw [hR]; decide) (by rw [hR]; decide) (by decide) (by decide) (Or.inr ⟨_, rfl, rfl, by omega⟩)
  · have g1 : k = 0 ∨ k = 1 ∨ k = 2 ∨ k = 3 ∨ k = 4 ∨ k = 5 ∨ k = 6 ∨ k = 7 := by omega
    rcases g1 with g1 | g1 | g1 | g1 | g1 | g1 | g1 | g1
    · refine bg_tabIn (k := 0) (tgt := 48) C d_bg_count_1 g1 ⟨by omega, by omega⟩ (by decide) (by decide) rfl (by decide) ?_
      refine bg_aload_n C d_bg_count_48 rfl rfl ?_
      refine bq_geti C cf_bg hI 6 6 rfl rfl (by decide) rfl (by decide) rfl tw_210 d_bg_count_49 (fun v2 e2 a2 b2 => ?_)
      refine bg_if_eq (tgt := 65) C d_bg_count_52 (by decide) ⟨by omega, by omega⟩ (fun h3 => ?_) (fun h3 => ?_)
      · refine bg_iconst C d_bg_count_65 ?_
        exact bg_iret C d_bg_count_66 (fun _ => rfl) (Or.inl rfl) (Nat.zero_le _) (Nat.zero_le _) (Or.inl ⟨_, rfl, rfl⟩)
      · refine bg_aload_n C d_bg_count_55 rfl rfl ?_
        refine bg_getr (i := 3) C cf_bg rfl (by decide) rfl tw_207 d_bg_count_56 ?_
        refine bq_get0 C cf_et 3 3 rfl rfl (by decide) rfl tw_146 d_bg_count_59 (fun v4 e4 => ?_)
        refine bg_goto (l := 66) C d_bg_count_62 (by decide) ?_
        exact bg_iret C d_bg_count_66 (fun _ => rfl) (Or.inl rfl) (Nat.zero_le _) (Nat.zero_le _) (Or.inl ⟨_, rfl, rfl⟩)
    · refine bg_tabIn (k := 1) (tgt := 67) C d_bg_count_1 g1 ⟨by omega, by omega⟩ (by decide) (by decide) rfl (by decide) ?_
      refine bg_aload_n C d_bg_count_67 rfl rfl ?_
      refine bg_getr (i := 0) C cf_bg rfl (by decide) rfl tw_204 d_bg_count_68 ?_
      refine bq_get0 C cf_pw 1 1 rfl rfl (by decide) rfl tw_71 d_bg_count_71 (fun v5 e5 => ?_)
      exact bg_iret C d_bg_count_74 (fun _ => rfl) (Or.inl rfl) (Nat.zero_le _) (Nat.zero_le _) (Or.inl ⟨_, rfl, rfl⟩)
    · refine bg_tabIn (k := 2) (tgt := 75) C d_bg_count_1 g1 ⟨by omega, by omega⟩ (by decide) (by decide) rfl (by decide) ?_
      refine bg_aload_n C d_bg_count_75 rfl rfl ?_
      refine bg_getr (i := 1) C cf_bg rfl (by decide) rfl tw_205 d_bg_count_76 ?_
      refine bq_get0 C cf_hd 2 2 rfl rfl (by decide) rfl tw_88 d_bg_count_79 (fun v6 e6 => ?_)
      exact bg_iret C d_bg_count_82 (fun _ => rfl) (Or.inl rfl) (Nat.zero_le _) (Nat.zero_le _) (Or.inl ⟨_, rfl, rfl⟩)
    · refine bg_tabIn (k := 3) (tgt := 83) C d_bg_count_1 g1 ⟨by omega, by omega⟩ (by decide) (by decide) rfl (by decide) ?_
      refine bg_aload_n C d_bg_count_83 rfl rfl ?_
      refine bq_geti C cf_bg hI 6 6 rfl rfl (by decide) rfl (by decide) rfl tw_210 d_bg_count_84 (fun v7 e7 a7 b7 => ?_)
      refine bg_if_eq (tgt := 107) C d_bg_count_87 (by decide) ⟨by omega, by omega⟩ (fun h8 => ?_) (fun h8 => ?_)
      · refine bg_iconst C d_bg_count_107 ?_
        exact bg_iret C d_bg_count_108 (fun _ => rfl) (Or.inl rfl) (Nat.zero_le _) (Nat.zero_le _) (Or.inl ⟨_, rfl, rfl⟩)
      · refine bg_aload_n C d_bg_count_90 rfl rfl ?_
        refine bq_geti C cf_bg hI 7 7 rfl rfl (by decide) rfl (by decide) rfl tw_211 d_bg_count_91 (fun v9 e9 a9 b9 => ?_)
        refine bg_if_eq (tgt := 107) C d_bg_count_94 (by decide) ⟨by omega, by omega⟩ (fun h10 => ?_) (fun h10 => ?_)
        · refine bg_iconst C d_bg_count_107 ?_
          exact bg_iret C d_bg_count_108 (fun _ => rfl) (Or.inl rfl) (Nat.zero_le _) (Nat.zero_le _) (Or.inl ⟨_, rfl, rfl⟩)
        · refine bg_aload_n C d_bg_count_97 rfl rfl ?_
          refine bg_getr (i := 4) C cf_bg rfl (by decide) rfl tw_208 d_bg_count_98 ?_
          refine bq_geti C cf_op hI 4 4 rfl rfl (by decide) rfl (by decide) rfl tw_118 d_bg_count_101 (fun v11 e11 a11 b11 => ?_)
          refine bg_goto (l := 108) C d_bg_count_104 (by decide) ?_
          exact bg_iret C d_bg_count_108 (fun _ => rfl) (Or.inl rfl) (Nat.zero_le _) (Nat.zero_le _) (Or.inl ⟨_, rfl, rfl⟩)
    · refine bg_tabIn (k := 4) (tgt := 109) C d_bg_count_1 g1 ⟨by omega, by omega⟩ (by decide) (by decide) rfl (by decide) ?_
      refine bg_aload_n C d_bg_count_109 rfl rfl ?_
      refine bg_getr (i := 1) C cf_bg rfl (by decide) rfl tw_205 d_bg_count_110 ?_
      refine bq_geti C cf_hd hI 1 1 rfl rfl (by decide) rfl (by decide) rfl tw_86 d_bg_count_113 (fun v12 e12 a12 b12 => ?_)
      exact bg_iret C d_bg_count_116 (fun _ => rfl) (Or.inl rfl) (Nat.zero_le _) (Nat.zero_le _) (Or.inl ⟨_, rfl, rfl⟩)
    · refine bg_tabIn (k := 5) (tgt := 117) C d_bg_count_1 g1 ⟨by omega, by omega⟩ (by decide) (by decide) rfl (by decide) ?_
      refine bg_aload_n C d_bg_count_117 rfl rfl ?_
      refine bg_getr (i := 0) C cf_bg rfl (by decide) rfl tw_204 d_bg_count_118 ?_
      refine bq_get0 C cf_pw 0 0 rfl rfl (by decide) rfl tw_69 d_bg_count_121 (fun v13 e13 => ?_)
      exact bg_iret C d_bg_count_124 (fun _ => rfl) (Or.inl rfl) (Nat.zero_le _) (Nat.zero_le _) (Or.inl ⟨_, rfl, rfl⟩)
    · refine bg_tabIn (k := 6) (tgt := 125) C d_bg_count_1 g1 ⟨by omega, by omega⟩ (by decide) (by decide) rfl (by decide) ?_
      refine bg_aload_n C d_bg_count_125 rfl rfl ?_
      refine bg_getr (i := 2) C cf_bg rfl (by decide) rfl tw_206 d_bg_count_126 ?_
      refine bq_geti C cf_so hI 4 4 rfl rfl (by decide) rfl (by decide) rfl tw_162 d_bg_count_129 (fun v14 e14 a14 b14 => ?_)
      refine bg_if_eq (tgt := 142) C d_bg_count_132 (by decide) ⟨by omega, by omega⟩ (fun h15 => ?_) (fun h15 => ?_)
      · refine bg_iconst C d_bg_count_142 ?_
        exact bg_iret C d_bg_count_143 (fun _ => rfl) (Or.inl rfl) (Nat.zero_le _) (Nat.zero_le _) (Or.inl ⟨_, rfl, rfl⟩)
      · refine bg_aload_n C d_bg_count_135 rfl rfl ?_
        refine bq_get0 C cf_bg 8 8 rfl rfl (by decide) rfl tw_212 d_bg_count_136 (fun v16 e16 => ?_)
        refine bg_goto (l := 143) C d_bg_count_139 (by decide) ?_
        exact bg_iret C d_bg_count_143 (fun _ => rfl) (Or.inl rfl) (Nat.zero_le _) (Nat.zero_le _) (Or.inl ⟨_, rfl, rfl⟩)
    · refine bg_tabIn (k := 7) (tgt := 144) C d_bg_count_1 g1 ⟨by omega, by omega⟩ (by decide) (by decide) rfl (by decide) ?_
      refine bg_aload_n C d_bg_count_144 rfl rfl ?_
      refine bq_geti C cf_bg hI 6 6 rfl rfl (by decide) rfl (by decide) rfl tw_210 d_bg_count_145 (fun v17 e17 a17 b17 => ?_)
      refine bg_if_eq (tgt := 155) C d_bg_count_148 (by decide) ⟨by omega, by omega⟩ (fun h18 => ?_) (fun h18 => ?_)
      · refine bg_iconst C d_bg_count_155 ?_
        exact bg_iret C d_bg_count_156 (fun _ => rfl) (Or.inl rfl) (Nat.zero_le _) (Nat.zero_le _) (Or.inl ⟨_, rfl, rfl⟩)
      · refine bg_iconst C d_bg_count_151 ?_
        refine bg_goto (l := 156) C d_bg_count_152 (by decide) ?_
        exact bg_iret C d_bg_count_156 (fun _ => rfl) (Or.inl rfl) (Nat.zero_le _) (Nat.zero_le _) (Or.inl ⟨_, rfl, rfl⟩)
end
section
abbrev co_mo_abort : ByteArray := prog_9_method_20_code
def y_mo_abort : MethodName := ⟨"BlockGraphModel", "abort", "()I"⟩
abbrev co_mo_add : ByteArray := prog_9_method_16_code
def y_mo_add : MethodName := ⟨"BlockGraphModel", "add", "(III)I"⟩
abbrev co_mo_arm : ByteArray := prog_9_method_21_code
def y_mo_arm : MethodName := ⟨"BlockGraphModel", "arm", "(I)V"⟩
abbrev co_mo_atHand : ByteArray := prog_9_method_31_code
def y_mo_atHand : MethodName := ⟨"BlockGraphModel", "atHand", "(I)I"⟩
abbrev co_mo_begin : ByteArray := prog_9_method_13_code
def y_mo_begin : MethodName := ⟨"BlockGraphModel", "begin", "()V"⟩
abbrev co_mo_clear : ByteArray := prog_9_method_3_code
def y_mo_clear : MethodName := ⟨"BlockGraphModel", "clear", "()V"⟩
abbrev co_mo_commit : ByteArray := prog_9_method_19_code
def y_mo_commit : MethodName := ⟨"BlockGraphModel", "commit", "()Z"⟩
abbrev co_mo_copy : ByteArray := prog_9_method_4_code
def y_mo_copy : MethodName := ⟨"BlockGraphModel", "copy", "(II)V"⟩
abbrev co_mo_count : ByteArray := prog_9_method_32_code
def y_mo_count : MethodName := ⟨"BlockGraphModel", "count", "(I)I"⟩
abbrev co_mo_distance : ByteArray := prog_9_method_27_code
def y_mo_distance : MethodName := ⟨"BlockGraphModel", "distance", "(I)I"⟩
abbrev co_mo_edge : ByteArray := prog_9_method_23_code
def y_mo_edge : MethodName := ⟨"BlockGraphModel", "edge", "(II)I"⟩
abbrev co_mo_faultOf : ByteArray := prog_9_method_26_code
def y_mo_faultOf : MethodName := ⟨"BlockGraphModel", "faultOf", "(I)I"⟩
abbrev co_mo_format : ByteArray := prog_9_method_11_code
def y_mo_format : MethodName := ⟨"BlockGraphModel", "format", "()Z"⟩
abbrev co_mo_isDown : ByteArray := prog_9_method_12_code
def y_mo_isDown : MethodName := ⟨"BlockGraphModel", "isDown", "()Z"⟩
abbrev co_mo_isFormatted : ByteArray := prog_9_method_10_code
def y_mo_isFormatted : MethodName := ⟨"BlockGraphModel", "isFormatted", "()Z"⟩
abbrev co_mo_isHome : ByteArray := prog_9_method_9_code
def y_mo_isHome : MethodName := ⟨"BlockGraphModel", "isHome", "()Z"⟩
abbrev co_mo_isNew : ByteArray := prog_9_method_7_code
def y_mo_isNew : MethodName := ⟨"BlockGraphModel", "isNew", "(I)Z"⟩
abbrev co_mo_isVertex : ByteArray := prog_9_method_15_code
def y_mo_isVertex : MethodName := ⟨"BlockGraphModel", "isVertex", "(I)Z"⟩
abbrev co_mo_isVisible : ByteArray := prog_9_method_17_code
def y_mo_isVisible : MethodName := ⟨"BlockGraphModel", "isVisible", "(I)Z"⟩
abbrev co_mo_isWritten : ByteArray := prog_9_method_6_code
def y_mo_isWritten : MethodName := ⟨"BlockGraphModel", "isWritten", "()Z"⟩
abbrev co_mo_look : ByteArray := prog_9_method_8_code
def y_mo_look : MethodName := ⟨"BlockGraphModel", "look", "(I)V"⟩
abbrev co_mo_recover : ByteArray := prog_9_method_22_code
def y_mo_recover : MethodName := ⟨"BlockGraphModel", "recover", "()I"⟩
abbrev co_mo_remove : ByteArray := prog_9_method_18_code
def y_mo_remove : MethodName := ⟨"BlockGraphModel", "remove", "(I)V"⟩
abbrev co_mo_room : ByteArray := prog_9_method_24_code
def y_mo_room : MethodName := ⟨"BlockGraphModel", "room", "(I)V"⟩
abbrev co_mo_thrown : ByteArray := prog_9_method_2_code
def y_mo_thrown : MethodName := ⟨"BlockGraphModel", "thrown", "()I"⟩
abbrev co_mo_untouch : ByteArray := prog_9_method_5_code
def y_mo_untouch : MethodName := ⟨"BlockGraphModel", "untouch", "()V"⟩
abbrev co_mo_visible : ByteArray := prog_9_method_14_code
def y_mo_visible : MethodName := ⟨"BlockGraphModel", "visible", "()I"⟩
theorem d_mo_abort_0 : bgd co_mo_abort 0 (.aload_n 0) 1 1 := ⟨by decide +kernel, rfl⟩
theorem d_mo_abort_1 : bgd co_mo_abort 1 (.aload_n 0) 1 2 := ⟨by decide +kernel, rfl⟩
theorem d_mo_abort_2 : bgd co_mo_abort 2 (.invokevirtual 96) 3 5 := ⟨by decide +kernel, rfl⟩
theorem d_mo_abort_5 : bgd co_mo_abort 5 (.ifCond .ne 10) 3 8 := ⟨by decide +kernel, rfl⟩
theorem d_mo_abort_8 : bgd co_mo_abort 8 (.aload_n 0) 1 9 := ⟨by decide +kernel, rfl⟩
theorem d_mo_abort_9 : bgd co_mo_abort 9 (.getfield 58) 3 12 := ⟨by decide +kernel, rfl⟩
theorem d_mo_abort_12 : bgd co_mo_abort 12 (.ifCond .ne 7) 3 15 := ⟨by decide +kernel, rfl⟩
theorem d_mo_abort_15 : bgd co_mo_abort 15 (.iconst 1) 1 16 := ⟨by decide +kernel, rfl⟩
theorem d_mo_abort_16 : bgd co_mo_abort 16 (.goto 4) 3 19 := ⟨by decide +kernel, rfl⟩
theorem d_mo_abort_19 : bgd co_mo_abort 19 (.iconst 0) 1 20 := ⟨by decide +kernel, rfl⟩
theorem d_mo_abort_20 : bgd co_mo_abort 20 (.putfield 52) 3 23 := ⟨by decide +kernel, rfl⟩
theorem d_mo_abort_23 : bgd co_mo_abort 23 (.aload_n 0) 1 24 := ⟨by decide +kernel, rfl⟩
theorem d_mo_abort_24 : bgd co_mo_abort 24 (.getfield 52) 3 27 := ⟨by decide +kernel, rfl⟩
theorem d_mo_abort_27 : bgd co_mo_abort 27 (.ifCond .le 5) 3 30 := ⟨by decide +kernel, rfl⟩
theorem d_mo_abort_30 : bgd co_mo_abort 30 (.iconst 0) 1 31 := ⟨by decide +kernel, rfl⟩
theorem d_mo_abort_31 : bgd co_mo_abort 31 (.ireturn) 1 32 := ⟨by decide +kernel, rfl⟩
theorem d_mo_abort_32 : bgd co_mo_abort 32 (.aload_n 0) 1 33 := ⟨by decide +kernel, rfl⟩
theorem d_mo_abort_33 : bgd co_mo_abort 33 (.iconst 0) 1 34 := ⟨by decide +kernel, rfl⟩
theorem d_mo_abort_34 : bgd co_mo_abort 34 (.putfield 58) 3 37 := ⟨by decide +kernel, rfl⟩
theorem d_mo_abort_37 : bgd co_mo_abort 37 (.aload_n 0) 1 38 := ⟨by decide +kernel, rfl⟩
theorem d_mo_abort_38 : bgd co_mo_abort 38 (.aload_n 0) 1 39 := ⟨by decide +kernel, rfl⟩
theorem d_mo_abort_39 : bgd co_mo_abort 39 (.getfield 40) 3 42 := ⟨by decide +kernel, rfl⟩
theorem d_mo_abort_42 : bgd co_mo_abort 42 (.ifCond .ne 10) 3 45 := ⟨by decide +kernel, rfl⟩
theorem d_mo_abort_45 : bgd co_mo_abort 45 (.aload_n 0) 1 46 := ⟨by decide +kernel, rfl⟩
theorem d_mo_abort_46 : bgd co_mo_abort 46 (.getfield 55) 3 49 := ⟨by decide +kernel, rfl⟩
theorem d_mo_abort_49 : bgd co_mo_abort 49 (.ifCond .le 7) 3 52 := ⟨by decide +kernel, rfl⟩
theorem d_mo_abort_52 : bgd co_mo_abort 52 (.iconst 1) 1 53 := ⟨by decide +kernel, rfl⟩
theorem d_mo_abort_53 : bgd co_mo_abort 53 (.goto 4) 3 56 := ⟨by decide +kernel, rfl⟩
theorem d_mo_abort_56 : bgd co_mo_abort 56 (.iconst 0) 1 57 := ⟨by decide +kernel, rfl⟩
theorem d_mo_abort_57 : bgd co_mo_abort 57 (.putfield 40) 3 60 := ⟨by decide +kernel, rfl⟩
theorem d_mo_abort_60 : bgd co_mo_abort 60 (.aload_n 0) 1 61 := ⟨by decide +kernel, rfl⟩
theorem d_mo_abort_61 : bgd co_mo_abort 61 (.sipush 200) 3 64 := ⟨by decide +kernel, rfl⟩
theorem d_mo_abort_64 : bgd co_mo_abort 64 (.iconst 0) 1 65 := ⟨by decide +kernel, rfl⟩
theorem d_mo_abort_65 : bgd co_mo_abort 65 (.invokevirtual 109) 3 68 := ⟨by decide +kernel, rfl⟩
theorem d_mo_abort_68 : bgd co_mo_abort 68 (.aload_n 0) 1 69 := ⟨by decide +kernel, rfl⟩
theorem d_mo_abort_69 : bgd co_mo_abort 69 (.getfield 55) 3 72 := ⟨by decide +kernel, rfl⟩
theorem d_mo_abort_72 : bgd co_mo_abort 72 (.ireturn) 1 73 := ⟨by decide +kernel, rfl⟩
theorem d_mo_add_0 : bgd co_mo_add 0 (.aload_n 0) 1 1 := ⟨by decide +kernel, rfl⟩
theorem d_mo_add_1 : bgd co_mo_add 1 (.aload_n 0) 1 2 := ⟨by decide +kernel, rfl⟩
theorem d_mo_add_2 : bgd co_mo_add 2 (.invokevirtual 96) 3 5 := ⟨by decide +kernel, rfl⟩
theorem d_mo_add_5 : bgd co_mo_add 5 (.ifCond .ne 10) 3 8 := ⟨by decide +kernel, rfl⟩
theorem d_mo_add_8 : bgd co_mo_add 8 (.aload_n 0) 1 9 := ⟨by decide +kernel, rfl⟩
theorem d_mo_add_9 : bgd co_mo_add 9 (.getfield 58) 3 12 := ⟨by decide +kernel, rfl⟩
theorem d_mo_add_12 : bgd co_mo_add 12 (.ifCond .ne 7) 3 15 := ⟨by decide +kernel, rfl⟩
theorem d_mo_add_15 : bgd co_mo_add 15 (.iconst 1) 1 16 := ⟨by decide +kernel, rfl⟩
theorem d_mo_add_16 : bgd co_mo_add 16 (.goto 57) 3 19 := ⟨by decide +kernel, rfl⟩
theorem d_mo_add_19 : bgd co_mo_add 19 (.iload_n 1) 1 20 := ⟨by decide +kernel, rfl⟩
theorem d_mo_add_20 : bgd co_mo_add 20 (.invokestatic 99) 3 23 := ⟨by decide +kernel, rfl⟩
theorem d_mo_add_23 : bgd co_mo_add 23 (.ifCond .eq 22) 3 26 := ⟨by decide +kernel, rfl⟩
theorem d_mo_add_26 : bgd co_mo_add 26 (.iload_n 2) 1 27 := ⟨by decide +kernel, rfl⟩
theorem d_mo_add_27 : bgd co_mo_add 27 (.invokestatic 99) 3 30 := ⟨by decide +kernel, rfl⟩
theorem d_mo_add_30 : bgd co_mo_add 30 (.ifCond .eq 15) 3 33 := ⟨by decide +kernel, rfl⟩
theorem d_mo_add_33 : bgd co_mo_add 33 (.iload_n 3) 1 34 := ⟨by decide +kernel, rfl⟩
theorem d_mo_add_34 : bgd co_mo_add 34 (.iconst 1) 1 35 := ⟨by decide +kernel, rfl⟩
theorem d_mo_add_35 : bgd co_mo_add 35 (.if_icmp .lt 10) 3 38 := ⟨by decide +kernel, rfl⟩
theorem d_mo_add_38 : bgd co_mo_add 38 (.iload_n 3) 1 39 := ⟨by decide +kernel, rfl⟩
theorem d_mo_add_39 : bgd co_mo_add 39 (.sipush 32767) 3 42 := ⟨by decide +kernel, rfl⟩
theorem d_mo_add_42 : bgd co_mo_add 42 (.if_icmp .le 7) 3 45 := ⟨by decide +kernel, rfl⟩
theorem d_mo_add_45 : bgd co_mo_add 45 (.iconst 2) 1 46 := ⟨by decide +kernel, rfl⟩
theorem d_mo_add_46 : bgd co_mo_add 46 (.goto 27) 3 49 := ⟨by decide +kernel, rfl⟩
theorem d_mo_add_49 : bgd co_mo_add 49 (.aload_n 0) 1 50 := ⟨by decide +kernel, rfl⟩
theorem d_mo_add_50 : bgd co_mo_add 50 (.invokevirtual 102) 3 53 := ⟨by decide +kernel, rfl⟩
theorem d_mo_add_53 : bgd co_mo_add 53 (.sipush 200) 3 56 := ⟨by decide +kernel, rfl⟩
theorem d_mo_add_56 : bgd co_mo_add 56 (.if_icmp .eq 12) 3 59 := ⟨by decide +kernel, rfl⟩
theorem d_mo_add_59 : bgd co_mo_add 59 (.aload_n 0) 1 60 := ⟨by decide +kernel, rfl⟩
theorem d_mo_add_60 : bgd co_mo_add 60 (.getfield 55) 3 63 := ⟨by decide +kernel, rfl⟩
theorem d_mo_add_63 : bgd co_mo_add 63 (.bipush 20) 2 65 := ⟨by decide +kernel, rfl⟩
theorem d_mo_add_65 : bgd co_mo_add 65 (.if_icmp .ne 7) 3 68 := ⟨by decide +kernel, rfl⟩
theorem d_mo_add_68 : bgd co_mo_add 68 (.iconst 3) 1 69 := ⟨by decide +kernel, rfl⟩
theorem d_mo_add_69 : bgd co_mo_add 69 (.goto 4) 3 72 := ⟨by decide +kernel, rfl⟩
theorem d_mo_add_72 : bgd co_mo_add 72 (.iconst 0) 1 73 := ⟨by decide +kernel, rfl⟩
theorem d_mo_add_73 : bgd co_mo_add 73 (.putfield 52) 3 76 := ⟨by decide +kernel, rfl⟩
theorem d_mo_add_76 : bgd co_mo_add 76 (.aload_n 0) 1 77 := ⟨by decide +kernel, rfl⟩
theorem d_mo_add_77 : bgd co_mo_add 77 (.getfield 52) 3 80 := ⟨by decide +kernel, rfl⟩
theorem d_mo_add_80 : bgd co_mo_add 80 (.ifCond .le 5) 3 83 := ⟨by decide +kernel, rfl⟩
theorem d_mo_add_83 : bgd co_mo_add 83 (.iconst 0) 1 84 := ⟨by decide +kernel, rfl⟩
theorem d_mo_add_84 : bgd co_mo_add 84 (.ireturn) 1 85 := ⟨by decide +kernel, rfl⟩
theorem d_mo_add_85 : bgd co_mo_add 85 (.iconst 0) 1 86 := ⟨by decide +kernel, rfl⟩
theorem d_mo_add_86 : bgd co_mo_add 86 (.istore 4) 2 88 := ⟨by decide +kernel, rfl⟩
theorem d_mo_add_88 : bgd co_mo_add 88 (.aload_n 0) 1 89 := ⟨by decide +kernel, rfl⟩
theorem d_mo_add_89 : bgd co_mo_add 89 (.getfield 7) 3 92 := ⟨by decide +kernel, rfl⟩
theorem d_mo_add_92 : bgd co_mo_add 92 (.sipush 200) 3 95 := ⟨by decide +kernel, rfl⟩
theorem d_mo_add_95 : bgd co_mo_add 95 (.iload 4) 2 97 := ⟨by decide +kernel, rfl⟩
theorem d_mo_add_97 : bgd co_mo_add 97 (.iadd) 1 98 := ⟨by decide +kernel, rfl⟩
theorem d_mo_add_98 : bgd co_mo_add 98 (.iaload) 1 99 := ⟨by decide +kernel, rfl⟩
theorem d_mo_add_99 : bgd co_mo_add 99 (.iconst (-1)) 1 100 := ⟨by decide +kernel, rfl⟩
theorem d_mo_add_100 : bgd co_mo_add 100 (.if_icmp .eq 9) 3 103 := ⟨by decide +kernel, rfl⟩
theorem d_mo_add_103 : bgd co_mo_add 103 (.iinc 4 1) 3 106 := ⟨by decide +kernel, rfl⟩
theorem d_mo_add_106 : bgd co_mo_add 106 (.goto (-18)) 3 109 := ⟨by decide +kernel, rfl⟩
theorem d_mo_add_109 : bgd co_mo_add 109 (.aload_n 0) 1 110 := ⟨by decide +kernel, rfl⟩
theorem d_mo_add_110 : bgd co_mo_add 110 (.getfield 7) 3 113 := ⟨by decide +kernel, rfl⟩
theorem d_mo_add_113 : bgd co_mo_add 113 (.sipush 200) 3 116 := ⟨by decide +kernel, rfl⟩
theorem d_mo_add_116 : bgd co_mo_add 116 (.iload 4) 2 118 := ⟨by decide +kernel, rfl⟩
theorem d_mo_add_118 : bgd co_mo_add 118 (.iadd) 1 119 := ⟨by decide +kernel, rfl⟩
theorem d_mo_add_119 : bgd co_mo_add 119 (.iload_n 1) 1 120 := ⟨by decide +kernel, rfl⟩
theorem d_mo_add_120 : bgd co_mo_add 120 (.iastore) 1 121 := ⟨by decide +kernel, rfl⟩
theorem d_mo_add_121 : bgd co_mo_add 121 (.aload_n 0) 1 122 := ⟨by decide +kernel, rfl⟩
theorem d_mo_add_122 : bgd co_mo_add 122 (.getfield 13) 3 125 := ⟨by decide +kernel, rfl⟩
theorem d_mo_add_125 : bgd co_mo_add 125 (.sipush 200) 3 128 := ⟨by decide +kernel, rfl⟩
theorem d_mo_add_128 : bgd co_mo_add 128 (.iload 4) 2 130 := ⟨by decide +kernel, rfl⟩
theorem d_mo_add_130 : bgd co_mo_add 130 (.iadd) 1 131 := ⟨by decide +kernel, rfl⟩
theorem d_mo_add_131 : bgd co_mo_add 131 (.iload_n 2) 1 132 := ⟨by decide +kernel, rfl⟩
theorem d_mo_add_132 : bgd co_mo_add 132 (.iastore) 1 133 := ⟨by decide +kernel, rfl⟩
theorem d_mo_add_133 : bgd co_mo_add 133 (.aload_n 0) 1 134 := ⟨by decide +kernel, rfl⟩
theorem d_mo_add_134 : bgd co_mo_add 134 (.getfield 16) 3 137 := ⟨by decide +kernel, rfl⟩
theorem d_mo_add_137 : bgd co_mo_add 137 (.sipush 200) 3 140 := ⟨by decide +kernel, rfl⟩
theorem d_mo_add_140 : bgd co_mo_add 140 (.iload 4) 2 142 := ⟨by decide +kernel, rfl⟩
theorem d_mo_add_142 : bgd co_mo_add 142 (.iadd) 1 143 := ⟨by decide +kernel, rfl⟩
theorem d_mo_add_143 : bgd co_mo_add 143 (.iload_n 3) 1 144 := ⟨by decide +kernel, rfl⟩
theorem d_mo_add_144 : bgd co_mo_add 144 (.iastore) 1 145 := ⟨by decide +kernel, rfl⟩
theorem d_mo_add_145 : bgd co_mo_add 145 (.aload_n 0) 1 146 := ⟨by decide +kernel, rfl⟩
theorem d_mo_add_146 : bgd co_mo_add 146 (.getfield 23) 3 149 := ⟨by decide +kernel, rfl⟩
theorem d_mo_add_149 : bgd co_mo_add 149 (.iload 4) 2 151 := ⟨by decide +kernel, rfl⟩
theorem d_mo_add_151 : bgd co_mo_add 151 (.iconst 4) 1 152 := ⟨by decide +kernel, rfl⟩
theorem d_mo_add_152 : bgd co_mo_add 152 (.idiv) 1 153 := ⟨by decide +kernel, rfl⟩
theorem d_mo_add_153 : bgd co_mo_add 153 (.iconst 1) 1 154 := ⟨by decide +kernel, rfl⟩
theorem d_mo_add_154 : bgd co_mo_add 154 (.bastore) 1 155 := ⟨by decide +kernel, rfl⟩
theorem d_mo_add_155 : bgd co_mo_add 155 (.aload_n 0) 1 156 := ⟨by decide +kernel, rfl⟩
theorem d_mo_add_156 : bgd co_mo_add 156 (.dup) 1 157 := ⟨by decide +kernel, rfl⟩
theorem d_mo_add_157 : bgd co_mo_add 157 (.getfield 55) 3 160 := ⟨by decide +kernel, rfl⟩
theorem d_mo_add_160 : bgd co_mo_add 160 (.iconst 1) 1 161 := ⟨by decide +kernel, rfl⟩
theorem d_mo_add_161 : bgd co_mo_add 161 (.iadd) 1 162 := ⟨by decide +kernel, rfl⟩
theorem d_mo_add_162 : bgd co_mo_add 162 (.putfield 55) 3 165 := ⟨by decide +kernel, rfl⟩
theorem d_mo_add_165 : bgd co_mo_add 165 (.aload_n 0) 1 166 := ⟨by decide +kernel, rfl⟩
theorem d_mo_add_166 : bgd co_mo_add 166 (.iconst 1) 1 167 := ⟨by decide +kernel, rfl⟩
theorem d_mo_add_167 : bgd co_mo_add 167 (.putfield 40) 3 170 := ⟨by decide +kernel, rfl⟩
theorem d_mo_add_170 : bgd co_mo_add 170 (.iload 4) 2 172 := ⟨by decide +kernel, rfl⟩
theorem d_mo_add_172 : bgd co_mo_add 172 (.ireturn) 1 173 := ⟨by decide +kernel, rfl⟩
theorem d_mo_arm_0 : bgd co_mo_arm 0 (.aload_n 0) 1 1 := ⟨by decide +kernel, rfl⟩
theorem d_mo_arm_1 : bgd co_mo_arm 1 (.iload_n 1) 1 2 := ⟨by decide +kernel, rfl⟩
theorem d_mo_arm_2 : bgd co_mo_arm 2 (.iconst (-1)) 1 3 := ⟨by decide +kernel, rfl⟩
theorem d_mo_arm_3 : bgd co_mo_arm 3 (.if_icmp .ge 7) 3 6 := ⟨by decide +kernel, rfl⟩
theorem d_mo_arm_6 : bgd co_mo_arm 6 (.iconst 1) 1 7 := ⟨by decide +kernel, rfl⟩
theorem d_mo_arm_7 : bgd co_mo_arm 7 (.goto 4) 3 10 := ⟨by decide +kernel, rfl⟩
theorem d_mo_arm_10 : bgd co_mo_arm 10 (.iconst 0) 1 11 := ⟨by decide +kernel, rfl⟩
theorem d_mo_arm_11 : bgd co_mo_arm 11 (.putfield 52) 3 14 := ⟨by decide +kernel, rfl⟩
theorem d_mo_arm_14 : bgd co_mo_arm 14 (.aload_n 0) 1 15 := ⟨by decide +kernel, rfl⟩
theorem d_mo_arm_15 : bgd co_mo_arm 15 (.aload_n 0) 1 16 := ⟨by decide +kernel, rfl⟩
theorem d_mo_arm_16 : bgd co_mo_arm 16 (.getfield 52) 3 19 := ⟨by decide +kernel, rfl⟩
theorem d_mo_arm_19 : bgd co_mo_arm 19 (.ifCond .ne 7) 3 22 := ⟨by decide +kernel, rfl⟩
theorem d_mo_arm_22 : bgd co_mo_arm 22 (.iload_n 1) 1 23 := ⟨by decide +kernel, rfl⟩
theorem d_mo_arm_23 : bgd co_mo_arm 23 (.goto 7) 3 26 := ⟨by decide +kernel, rfl⟩
theorem d_mo_arm_26 : bgd co_mo_arm 26 (.aload_n 0) 1 27 := ⟨by decide +kernel, rfl⟩
theorem d_mo_arm_27 : bgd co_mo_arm 27 (.getfield 30) 3 30 := ⟨by decide +kernel, rfl⟩
theorem d_mo_arm_30 : bgd co_mo_arm 30 (.putfield 30) 3 33 := ⟨by decide +kernel, rfl⟩
theorem d_mo_arm_33 : bgd co_mo_arm 33 (.return_) 1 34 := ⟨by decide +kernel, rfl⟩
theorem d_mo_atHand_0 : bgd co_mo_atHand 0 (.aload_n 0) 1 1 := ⟨by decide +kernel, rfl⟩
theorem d_mo_atHand_1 : bgd co_mo_atHand 1 (.iload_n 1) 1 2 := ⟨by decide +kernel, rfl⟩
theorem d_mo_atHand_2 : bgd co_mo_atHand 2 (.ifCond .lt 11) 3 5 := ⟨by decide +kernel, rfl⟩
theorem d_mo_atHand_5 : bgd co_mo_atHand 5 (.iload_n 1) 1 6 := ⟨by decide +kernel, rfl⟩
theorem d_mo_atHand_6 : bgd co_mo_atHand 6 (.aload_n 0) 1 7 := ⟨by decide +kernel, rfl⟩
theorem d_mo_atHand_7 : bgd co_mo_atHand 7 (.getfield 64) 3 10 := ⟨by decide +kernel, rfl⟩
theorem d_mo_atHand_10 : bgd co_mo_atHand 10 (.if_icmp .lt 7) 3 13 := ⟨by decide +kernel, rfl⟩
theorem d_mo_atHand_13 : bgd co_mo_atHand 13 (.iconst 1) 1 14 := ⟨by decide +kernel, rfl⟩
theorem d_mo_atHand_14 : bgd co_mo_atHand 14 (.goto 4) 3 17 := ⟨by decide +kernel, rfl⟩
theorem d_mo_atHand_17 : bgd co_mo_atHand 17 (.iconst 0) 1 18 := ⟨by decide +kernel, rfl⟩
theorem d_mo_atHand_18 : bgd co_mo_atHand 18 (.putfield 52) 3 21 := ⟨by decide +kernel, rfl⟩
theorem d_mo_atHand_21 : bgd co_mo_atHand 21 (.aload_n 0) 1 22 := ⟨by decide +kernel, rfl⟩
theorem d_mo_atHand_22 : bgd co_mo_atHand 22 (.getfield 52) 3 25 := ⟨by decide +kernel, rfl⟩
theorem d_mo_atHand_25 : bgd co_mo_atHand 25 (.ifCond .le 7) 3 28 := ⟨by decide +kernel, rfl⟩
theorem d_mo_atHand_28 : bgd co_mo_atHand 28 (.iconst 0) 1 29 := ⟨by decide +kernel, rfl⟩
theorem d_mo_atHand_29 : bgd co_mo_atHand 29 (.goto 9) 3 32 := ⟨by decide +kernel, rfl⟩
theorem d_mo_atHand_32 : bgd co_mo_atHand 32 (.aload_n 0) 1 33 := ⟨by decide +kernel, rfl⟩
theorem d_mo_atHand_33 : bgd co_mo_atHand 33 (.getfield 34) 3 36 := ⟨by decide +kernel, rfl⟩
theorem d_mo_atHand_36 : bgd co_mo_atHand 36 (.iload_n 1) 1 37 := ⟨by decide +kernel, rfl⟩
theorem d_mo_atHand_37 : bgd co_mo_atHand 37 (.iaload) 1 38 := ⟨by decide +kernel, rfl⟩
theorem d_mo_atHand_38 : bgd co_mo_atHand 38 (.ireturn) 1 39 := ⟨by decide +kernel, rfl⟩
theorem d_mo_begin_0 : bgd co_mo_begin 0 (.aload_n 0) 1 1 := ⟨by decide +kernel, rfl⟩
theorem d_mo_begin_1 : bgd co_mo_begin 1 (.aload_n 0) 1 2 := ⟨by decide +kernel, rfl⟩
theorem d_mo_begin_2 : bgd co_mo_begin 2 (.invokevirtual 96) 3 5 := ⟨by decide +kernel, rfl⟩
theorem d_mo_begin_5 : bgd co_mo_begin 5 (.ifCond .ne 10) 3 8 := ⟨by decide +kernel, rfl⟩
theorem d_mo_begin_8 : bgd co_mo_begin 8 (.aload_n 0) 1 9 := ⟨by decide +kernel, rfl⟩
theorem d_mo_begin_9 : bgd co_mo_begin 9 (.getfield 58) 3 12 := ⟨by decide +kernel, rfl⟩
theorem d_mo_begin_12 : bgd co_mo_begin 12 (.ifCond .eq 7) 3 15 := ⟨by decide +kernel, rfl⟩
theorem d_mo_begin_15 : bgd co_mo_begin 15 (.iconst 1) 1 16 := ⟨by decide +kernel, rfl⟩
theorem d_mo_begin_16 : bgd co_mo_begin 16 (.goto 4) 3 19 := ⟨by decide +kernel, rfl⟩
theorem d_mo_begin_19 : bgd co_mo_begin 19 (.iconst 0) 1 20 := ⟨by decide +kernel, rfl⟩
theorem d_mo_begin_20 : bgd co_mo_begin 20 (.putfield 52) 3 23 := ⟨by decide +kernel, rfl⟩
theorem d_mo_begin_23 : bgd co_mo_begin 23 (.aload_n 0) 1 24 := ⟨by decide +kernel, rfl⟩
theorem d_mo_begin_24 : bgd co_mo_begin 24 (.getfield 52) 3 27 := ⟨by decide +kernel, rfl⟩
theorem d_mo_begin_27 : bgd co_mo_begin 27 (.ifCond .ne 12) 3 30 := ⟨by decide +kernel, rfl⟩
theorem d_mo_begin_30 : bgd co_mo_begin 30 (.aload_n 0) 1 31 := ⟨by decide +kernel, rfl⟩
theorem d_mo_begin_31 : bgd co_mo_begin 31 (.iconst 1) 1 32 := ⟨by decide +kernel, rfl⟩
theorem d_mo_begin_32 : bgd co_mo_begin 32 (.putfield 58) 3 35 := ⟨by decide +kernel, rfl⟩
theorem d_mo_begin_35 : bgd co_mo_begin 35 (.aload_n 0) 1 36 := ⟨by decide +kernel, rfl⟩
theorem d_mo_begin_36 : bgd co_mo_begin 36 (.invokevirtual 81) 3 39 := ⟨by decide +kernel, rfl⟩
theorem d_mo_begin_39 : bgd co_mo_begin 39 (.return_) 1 40 := ⟨by decide +kernel, rfl⟩
theorem d_mo_clear_0 : bgd co_mo_clear 0 (.iconst 0) 1 1 := ⟨by decide +kernel, rfl⟩
theorem d_mo_clear_1 : bgd co_mo_clear 1 (.istore_n 1) 1 2 := ⟨by decide +kernel, rfl⟩
theorem d_mo_clear_2 : bgd co_mo_clear 2 (.iload_n 1) 1 3 := ⟨by decide +kernel, rfl⟩
theorem d_mo_clear_3 : bgd co_mo_clear 3 (.sipush 400) 3 6 := ⟨by decide +kernel, rfl⟩
theorem d_mo_clear_6 : bgd co_mo_clear 6 (.if_icmp .ge 16) 3 9 := ⟨by decide +kernel, rfl⟩
theorem d_mo_clear_9 : bgd co_mo_clear 9 (.aload_n 0) 1 10 := ⟨by decide +kernel, rfl⟩
theorem d_mo_clear_10 : bgd co_mo_clear 10 (.getfield 7) 3 13 := ⟨by decide +kernel, rfl⟩
theorem d_mo_clear_13 : bgd co_mo_clear 13 (.iload_n 1) 1 14 := ⟨by decide +kernel, rfl⟩
theorem d_mo_clear_14 : bgd co_mo_clear 14 (.iconst (-1)) 1 15 := ⟨by decide +kernel, rfl⟩
theorem d_mo_clear_15 : bgd co_mo_clear 15 (.iastore) 1 16 := ⟨by decide +kernel, rfl⟩
theorem d_mo_clear_16 : bgd co_mo_clear 16 (.iinc 1 1) 3 19 := ⟨by decide +kernel, rfl⟩
theorem d_mo_clear_19 : bgd co_mo_clear 19 (.goto (-17)) 3 22 := ⟨by decide +kernel, rfl⟩
theorem d_mo_clear_22 : bgd co_mo_clear 22 (.return_) 1 23 := ⟨by decide +kernel, rfl⟩
theorem d_mo_commit_0 : bgd co_mo_commit 0 (.aload_n 0) 1 1 := ⟨by decide +kernel, rfl⟩
theorem d_mo_commit_1 : bgd co_mo_commit 1 (.aload_n 0) 1 2 := ⟨by decide +kernel, rfl⟩
theorem d_mo_commit_2 : bgd co_mo_commit 2 (.invokevirtual 96) 3 5 := ⟨by decide +kernel, rfl⟩
theorem d_mo_commit_5 : bgd co_mo_commit 5 (.ifCond .ne 10) 3 8 := ⟨by decide +kernel, rfl⟩
theorem d_mo_commit_8 : bgd co_mo_commit 8 (.aload_n 0) 1 9 := ⟨by decide +kernel, rfl⟩
theorem d_mo_commit_9 : bgd co_mo_commit 9 (.getfield 58) 3 12 := ⟨by decide +kernel, rfl⟩
theorem d_mo_commit_12 : bgd co_mo_commit 12 (.ifCond .ne 7) 3 15 := ⟨by decide +kernel, rfl⟩
theorem d_mo_commit_15 : bgd co_mo_commit 15 (.iconst 1) 1 16 := ⟨by decide +kernel, rfl⟩
theorem d_mo_commit_16 : bgd co_mo_commit 16 (.goto 4) 3 19 := ⟨by decide +kernel, rfl⟩
theorem d_mo_commit_19 : bgd co_mo_commit 19 (.iconst 0) 1 20 := ⟨by decide +kernel, rfl⟩
theorem d_mo_commit_20 : bgd co_mo_commit 20 (.putfield 52) 3 23 := ⟨by decide +kernel, rfl⟩
theorem d_mo_commit_23 : bgd co_mo_commit 23 (.aload_n 0) 1 24 := ⟨by decide +kernel, rfl⟩
theorem d_mo_commit_24 : bgd co_mo_commit 24 (.getfield 52) 3 27 := ⟨by decide +kernel, rfl⟩
theorem d_mo_commit_27 : bgd co_mo_commit 27 (.ifCond .le 5) 3 30 := ⟨by decide +kernel, rfl⟩
theorem d_mo_commit_30 : bgd co_mo_commit 30 (.iconst 0) 1 31 := ⟨by decide +kernel, rfl⟩
theorem d_mo_commit_31 : bgd co_mo_commit 31 (.ireturn) 1 32 := ⟨by decide +kernel, rfl⟩
theorem d_mo_commit_32 : bgd co_mo_commit 32 (.aload_n 0) 1 33 := ⟨by decide +kernel, rfl⟩
theorem d_mo_commit_33 : bgd co_mo_commit 33 (.iconst 0) 1 34 := ⟨by decide +kernel, rfl⟩
theorem d_mo_commit_34 : bgd co_mo_commit 34 (.putfield 58) 3 37 := ⟨by decide +kernel, rfl⟩
theorem d_mo_commit_37 : bgd co_mo_commit 37 (.aload_n 0) 1 38 := ⟨by decide +kernel, rfl⟩
theorem d_mo_commit_38 : bgd co_mo_commit 38 (.getfield 55) 3 41 := ⟨by decide +kernel, rfl⟩
theorem d_mo_commit_41 : bgd co_mo_commit 41 (.ifCond .ne 5) 3 44 := ⟨by decide +kernel, rfl⟩
theorem d_mo_commit_44 : bgd co_mo_commit 44 (.iconst 1) 1 45 := ⟨by decide +kernel, rfl⟩
theorem d_mo_commit_45 : bgd co_mo_commit 45 (.ireturn) 1 46 := ⟨by decide +kernel, rfl⟩
theorem d_mo_commit_46 : bgd co_mo_commit 46 (.iconst 0) 1 47 := ⟨by decide +kernel, rfl⟩
theorem d_mo_commit_47 : bgd co_mo_commit 47 (.istore_n 1) 1 48 := ⟨by decide +kernel, rfl⟩
theorem d_mo_commit_48 : bgd co_mo_commit 48 (.iload_n 1) 1 49 := ⟨by decide +kernel, rfl⟩
theorem d_mo_commit_49 : bgd co_mo_commit 49 (.aload_n 0) 1 50 := ⟨by decide +kernel, rfl⟩
theorem d_mo_commit_50 : bgd co_mo_commit 50 (.getfield 55) 3 53 := ⟨by decide +kernel, rfl⟩
theorem d_mo_commit_53 : bgd co_mo_commit 53 (.if_icmp .gt 18) 3 56 := ⟨by decide +kernel, rfl⟩
theorem d_mo_commit_56 : bgd co_mo_commit 56 (.aload_n 0) 1 57 := ⟨by decide +kernel, rfl⟩
theorem d_mo_commit_57 : bgd co_mo_commit 57 (.invokevirtual 74) 3 60 := ⟨by decide +kernel, rfl⟩
theorem d_mo_commit_60 : bgd co_mo_commit 60 (.ifCond .ne 5) 3 63 := ⟨by decide +kernel, rfl⟩
theorem d_mo_commit_63 : bgd co_mo_commit 63 (.iconst 0) 1 64 := ⟨by decide +kernel, rfl⟩
theorem d_mo_commit_64 : bgd co_mo_commit 64 (.ireturn) 1 65 := ⟨by decide +kernel, rfl⟩
theorem d_mo_commit_65 : bgd co_mo_commit 65 (.iinc 1 1) 3 68 := ⟨by decide +kernel, rfl⟩
theorem d_mo_commit_68 : bgd co_mo_commit 68 (.goto (-20)) 3 71 := ⟨by decide +kernel, rfl⟩
theorem d_mo_commit_71 : bgd co_mo_commit 71 (.aload_n 0) 1 72 := ⟨by decide +kernel, rfl⟩
theorem d_mo_commit_72 : bgd co_mo_commit 72 (.iconst 0) 1 73 := ⟨by decide +kernel, rfl⟩
theorem d_mo_commit_73 : bgd co_mo_commit 73 (.sipush 200) 3 76 := ⟨by decide +kernel, rfl⟩
theorem d_mo_commit_76 : bgd co_mo_commit 76 (.invokevirtual 109) 3 79 := ⟨by decide +kernel, rfl⟩
theorem d_mo_commit_79 : bgd co_mo_commit 79 (.aload_n 0) 1 80 := ⟨by decide +kernel, rfl⟩
theorem d_mo_commit_80 : bgd co_mo_commit 80 (.dup) 1 81 := ⟨by decide +kernel, rfl⟩
theorem d_mo_commit_81 : bgd co_mo_commit 81 (.getfield 90) 3 84 := ⟨by decide +kernel, rfl⟩
theorem d_mo_commit_84 : bgd co_mo_commit 84 (.iconst 1) 1 85 := ⟨by decide +kernel, rfl⟩
theorem d_mo_commit_85 : bgd co_mo_commit 85 (.iadd) 1 86 := ⟨by decide +kernel, rfl⟩
theorem d_mo_commit_86 : bgd co_mo_commit 86 (.putfield 90) 3 89 := ⟨by decide +kernel, rfl⟩
theorem d_mo_commit_89 : bgd co_mo_commit 89 (.aload_n 0) 1 90 := ⟨by decide +kernel, rfl⟩
theorem d_mo_commit_90 : bgd co_mo_commit 90 (.iconst 1) 1 91 := ⟨by decide +kernel, rfl⟩
theorem d_mo_commit_91 : bgd co_mo_commit 91 (.putfield 78) 3 94 := ⟨by decide +kernel, rfl⟩
theorem d_mo_commit_94 : bgd co_mo_commit 94 (.iconst 0) 1 95 := ⟨by decide +kernel, rfl⟩
theorem d_mo_commit_95 : bgd co_mo_commit 95 (.istore_n 1) 1 96 := ⟨by decide +kernel, rfl⟩
theorem d_mo_commit_96 : bgd co_mo_commit 96 (.iload_n 1) 1 97 := ⟨by decide +kernel, rfl⟩
theorem d_mo_commit_97 : bgd co_mo_commit 97 (.bipush 50) 2 99 := ⟨by decide +kernel, rfl⟩
theorem d_mo_commit_99 : bgd co_mo_commit 99 (.if_icmp .ge 21) 3 102 := ⟨by decide +kernel, rfl⟩
theorem d_mo_commit_102 : bgd co_mo_commit 102 (.aload_n 0) 1 103 := ⟨by decide +kernel, rfl⟩
theorem d_mo_commit_103 : bgd co_mo_commit 103 (.getfield 27) 3 106 := ⟨by decide +kernel, rfl⟩
theorem d_mo_commit_106 : bgd co_mo_commit 106 (.iload_n 1) 1 107 := ⟨by decide +kernel, rfl⟩
theorem d_mo_commit_107 : bgd co_mo_commit 107 (.aload_n 0) 1 108 := ⟨by decide +kernel, rfl⟩
theorem d_mo_commit_108 : bgd co_mo_commit 108 (.getfield 23) 3 111 := ⟨by decide +kernel, rfl⟩
theorem d_mo_commit_111 : bgd co_mo_commit 111 (.iload_n 1) 1 112 := ⟨by decide +kernel, rfl⟩
theorem d_mo_commit_112 : bgd co_mo_commit 112 (.baload) 1 113 := ⟨by decide +kernel, rfl⟩
theorem d_mo_commit_113 : bgd co_mo_commit 113 (.bastore) 1 114 := ⟨by decide +kernel, rfl⟩
theorem d_mo_commit_114 : bgd co_mo_commit 114 (.iinc 1 1) 3 117 := ⟨by decide +kernel, rfl⟩
theorem d_mo_commit_117 : bgd co_mo_commit 117 (.goto (-21)) 3 120 := ⟨by decide +kernel, rfl⟩
theorem d_mo_commit_120 : bgd co_mo_commit 120 (.aload_n 0) 1 121 := ⟨by decide +kernel, rfl⟩
theorem d_mo_commit_121 : bgd co_mo_commit 121 (.invokevirtual 113) 3 124 := ⟨by decide +kernel, rfl⟩
theorem d_mo_commit_124 : bgd co_mo_commit 124 (.ifCond .ne 5) 3 127 := ⟨by decide +kernel, rfl⟩
theorem d_mo_commit_127 : bgd co_mo_commit 127 (.iconst 0) 1 128 := ⟨by decide +kernel, rfl⟩
theorem d_mo_commit_128 : bgd co_mo_commit 128 (.ireturn) 1 129 := ⟨by decide +kernel, rfl⟩
theorem d_mo_commit_129 : bgd co_mo_commit 129 (.aload_n 0) 1 130 := ⟨by decide +kernel, rfl⟩
theorem d_mo_commit_130 : bgd co_mo_commit 130 (.dup) 1 131 := ⟨by decide +kernel, rfl⟩
theorem d_mo_commit_131 : bgd co_mo_commit 131 (.getfield 87) 3 134 := ⟨by decide +kernel, rfl⟩
theorem d_mo_commit_134 : bgd co_mo_commit 134 (.aload_n 0) 1 135 := ⟨by decide +kernel, rfl⟩
theorem d_mo_commit_135 : bgd co_mo_commit 135 (.getfield 90) 3 138 := ⟨by decide +kernel, rfl⟩
theorem d_mo_commit_138 : bgd co_mo_commit 138 (.iadd) 1 139 := ⟨by decide +kernel, rfl⟩
theorem d_mo_commit_139 : bgd co_mo_commit 139 (.putfield 87) 3 142 := ⟨by decide +kernel, rfl⟩
theorem d_mo_commit_142 : bgd co_mo_commit 142 (.aload_n 0) 1 143 := ⟨by decide +kernel, rfl⟩
theorem d_mo_commit_143 : bgd co_mo_commit 143 (.iconst 0) 1 144 := ⟨by decide +kernel, rfl⟩
theorem d_mo_commit_144 : bgd co_mo_commit 144 (.putfield 90) 3 147 := ⟨by decide +kernel, rfl⟩
theorem d_mo_commit_147 : bgd co_mo_commit 147 (.iconst 1) 1 148 := ⟨by decide +kernel, rfl⟩
theorem d_mo_commit_148 : bgd co_mo_commit 148 (.ireturn) 1 149 := ⟨by decide +kernel, rfl⟩
theorem d_mo_copy_0 : bgd co_mo_copy 0 (.iconst 0) 1 1 := ⟨by decide +kernel, rfl⟩
theorem d_mo_copy_1 : bgd co_mo_copy 1 (.istore_n 3) 1 2 := ⟨by decide +kernel, rfl⟩
theorem d_mo_copy_2 : bgd co_mo_copy 2 (.iload_n 3) 1 3 := ⟨by decide +kernel, rfl⟩
theorem d_mo_copy_3 : bgd co_mo_copy 3 (.sipush 200) 3 6 := ⟨by decide +kernel, rfl⟩
theorem d_mo_copy_6 : bgd co_mo_copy 6 (.if_icmp .ge 57) 3 9 := ⟨by decide +kernel, rfl⟩
theorem d_mo_copy_9 : bgd co_mo_copy 9 (.aload_n 0) 1 10 := ⟨by decide +kernel, rfl⟩
theorem d_mo_copy_10 : bgd co_mo_copy 10 (.getfield 7) 3 13 := ⟨by decide +kernel, rfl⟩
theorem d_mo_copy_13 : bgd co_mo_copy 13 (.iload_n 1) 1 14 := ⟨by decide +kernel, rfl⟩
theorem d_mo_copy_14 : bgd co_mo_copy 14 (.iload_n 3) 1 15 := ⟨by decide +kernel, rfl⟩
theorem d_mo_copy_15 : bgd co_mo_copy 15 (.iadd) 1 16 := ⟨by decide +kernel, rfl⟩
theorem d_mo_copy_16 : bgd co_mo_copy 16 (.aload_n 0) 1 17 := ⟨by decide +kernel, rfl⟩
theorem d_mo_copy_17 : bgd co_mo_copy 17 (.getfield 7) 3 20 := ⟨by decide +kernel, rfl⟩
theorem d_mo_copy_20 : bgd co_mo_copy 20 (.iload_n 2) 1 21 := ⟨by decide +kernel, rfl⟩
theorem d_mo_copy_21 : bgd co_mo_copy 21 (.iload_n 3) 1 22 := ⟨by decide +kernel, rfl⟩
theorem d_mo_copy_22 : bgd co_mo_copy 22 (.iadd) 1 23 := ⟨by decide +kernel, rfl⟩
theorem d_mo_copy_23 : bgd co_mo_copy 23 (.iaload) 1 24 := ⟨by decide +kernel, rfl⟩
theorem d_mo_copy_24 : bgd co_mo_copy 24 (.iastore) 1 25 := ⟨by decide +kernel, rfl⟩
theorem d_mo_copy_25 : bgd co_mo_copy 25 (.aload_n 0) 1 26 := ⟨by decide +kernel, rfl⟩
theorem d_mo_copy_26 : bgd co_mo_copy 26 (.getfield 13) 3 29 := ⟨by decide +kernel, rfl⟩
theorem d_mo_copy_29 : bgd co_mo_copy 29 (.iload_n 1) 1 30 := ⟨by decide +kernel, rfl⟩
theorem d_mo_copy_30 : bgd co_mo_copy 30 (.iload_n 3) 1 31 := ⟨by decide +kernel, rfl⟩
theorem d_mo_copy_31 : bgd co_mo_copy 31 (.iadd) 1 32 := ⟨by decide +kernel, rfl⟩
theorem d_mo_copy_32 : bgd co_mo_copy 32 (.aload_n 0) 1 33 := ⟨by decide +kernel, rfl⟩
theorem d_mo_copy_33 : bgd co_mo_copy 33 (.getfield 13) 3 36 := ⟨by decide +kernel, rfl⟩
theorem d_mo_copy_36 : bgd co_mo_copy 36 (.iload_n 2) 1 37 := ⟨by decide +kernel, rfl⟩
theorem d_mo_copy_37 : bgd co_mo_copy 37 (.iload_n 3) 1 38 := ⟨by decide +kernel, rfl⟩
theorem d_mo_copy_38 : bgd co_mo_copy 38 (.iadd) 1 39 := ⟨by decide +kernel, rfl⟩
theorem d_mo_copy_39 : bgd co_mo_copy 39 (.iaload) 1 40 := ⟨by decide +kernel, rfl⟩
theorem d_mo_copy_40 : bgd co_mo_copy 40 (.iastore) 1 41 := ⟨by decide +kernel, rfl⟩
theorem d_mo_copy_41 : bgd co_mo_copy 41 (.aload_n 0) 1 42 := ⟨by decide +kernel, rfl⟩
theorem d_mo_copy_42 : bgd co_mo_copy 42 (.getfield 16) 3 45 := ⟨by decide +kernel, rfl⟩
theorem d_mo_copy_45 : bgd co_mo_copy 45 (.iload_n 1) 1 46 := ⟨by decide +kernel, rfl⟩
theorem d_mo_copy_46 : bgd co_mo_copy 46 (.iload_n 3) 1 47 := ⟨by decide +kernel, rfl⟩
theorem d_mo_copy_47 : bgd co_mo_copy 47 (.iadd) 1 48 := ⟨by decide +kernel, rfl⟩
theorem d_mo_copy_48 : bgd co_mo_copy 48 (.aload_n 0) 1 49 := ⟨by decide +kernel, rfl⟩
theorem d_mo_copy_49 : bgd co_mo_copy 49 (.getfield 16) 3 52 := ⟨by decide +kernel, rfl⟩
theorem d_mo_copy_52 : bgd co_mo_copy 52 (.iload_n 2) 1 53 := ⟨by decide +kernel, rfl⟩
theorem d_mo_copy_53 : bgd co_mo_copy 53 (.iload_n 3) 1 54 := ⟨by decide +kernel, rfl⟩
theorem d_mo_copy_54 : bgd co_mo_copy 54 (.iadd) 1 55 := ⟨by decide +kernel, rfl⟩
theorem d_mo_copy_55 : bgd co_mo_copy 55 (.iaload) 1 56 := ⟨by decide +kernel, rfl⟩
theorem d_mo_copy_56 : bgd co_mo_copy 56 (.iastore) 1 57 := ⟨by decide +kernel, rfl⟩
theorem d_mo_copy_57 : bgd co_mo_copy 57 (.iinc 3 1) 3 60 := ⟨by decide +kernel, rfl⟩
theorem d_mo_copy_60 : bgd co_mo_copy 60 (.goto (-58)) 3 63 := ⟨by decide +kernel, rfl⟩
theorem d_mo_copy_63 : bgd co_mo_copy 63 (.return_) 1 64 := ⟨by decide +kernel, rfl⟩
theorem d_mo_count_0 : bgd co_mo_count 0 (.aload_n 0) 1 1 := ⟨by decide +kernel, rfl⟩
theorem d_mo_count_1 : bgd co_mo_count 1 (.iload_n 1) 1 2 := ⟨by decide +kernel, rfl⟩
theorem d_mo_count_2 : bgd co_mo_count 2 (.ifCond .lt 9) 3 5 := ⟨by decide +kernel, rfl⟩
theorem d_mo_count_5 : bgd co_mo_count 5 (.iload_n 1) 1 6 := ⟨by decide +kernel, rfl⟩
theorem d_mo_count_6 : bgd co_mo_count 6 (.bipush 7) 2 8 := ⟨by decide +kernel, rfl⟩
theorem d_mo_count_8 : bgd co_mo_count 8 (.if_icmp .le 7) 3 11 := ⟨by decide +kernel, rfl⟩
theorem d_mo_count_11 : bgd co_mo_count 11 (.iconst 1) 1 12 := ⟨by decide +kernel, rfl⟩
theorem d_mo_count_12 : bgd co_mo_count 12 (.goto 4) 3 15 := ⟨by decide +kernel, rfl⟩
theorem d_mo_count_15 : bgd co_mo_count 15 (.iconst 0) 1 16 := ⟨by decide +kernel, rfl⟩
theorem d_mo_count_16 : bgd co_mo_count 16 (.putfield 52) 3 19 := ⟨by decide +kernel, rfl⟩
theorem d_mo_count_19 : bgd co_mo_count 19 (.aload_n 0) 1 20 := ⟨by decide +kernel, rfl⟩
theorem d_mo_count_20 : bgd co_mo_count 20 (.getfield 52) 3 23 := ⟨by decide +kernel, rfl⟩
theorem d_mo_count_23 : bgd co_mo_count 23 (.ifCond .le 5) 3 26 := ⟨by decide +kernel, rfl⟩
theorem d_mo_count_26 : bgd co_mo_count 26 (.iconst 0) 1 27 := ⟨by decide +kernel, rfl⟩
theorem d_mo_count_27 : bgd co_mo_count 27 (.ireturn) 1 28 := ⟨by decide +kernel, rfl⟩
theorem d_mo_count_28 : bgd co_mo_count 28 (.iload_n 1) 1 29 := ⟨by decide +kernel, rfl⟩
theorem d_mo_count_29 : bgd co_mo_count 29 (.ifCond .ne 21) 3 32 := ⟨by decide +kernel, rfl⟩
theorem d_mo_count_32 : bgd co_mo_count 32 (.aload_n 0) 1 33 := ⟨by decide +kernel, rfl⟩
theorem d_mo_count_33 : bgd co_mo_count 33 (.invokevirtual 96) 3 36 := ⟨by decide +kernel, rfl⟩
theorem d_mo_count_36 : bgd co_mo_count 36 (.ifCond .eq 7) 3 39 := ⟨by decide +kernel, rfl⟩
theorem d_mo_count_39 : bgd co_mo_count 39 (.iconst (-1)) 1 40 := ⟨by decide +kernel, rfl⟩
theorem d_mo_count_40 : bgd co_mo_count 40 (.goto 106) 3 43 := ⟨by decide +kernel, rfl⟩
theorem d_mo_count_43 : bgd co_mo_count 43 (.aload_n 0) 1 44 := ⟨by decide +kernel, rfl⟩
theorem d_mo_count_44 : bgd co_mo_count 44 (.invokevirtual 102) 3 47 := ⟨by decide +kernel, rfl⟩
theorem d_mo_count_47 : bgd co_mo_count 47 (.goto 99) 3 50 := ⟨by decide +kernel, rfl⟩
theorem d_mo_count_50 : bgd co_mo_count 50 (.iload_n 1) 1 51 := ⟨by decide +kernel, rfl⟩
theorem d_mo_count_51 : bgd co_mo_count 51 (.iconst 1) 1 52 := ⟨by decide +kernel, rfl⟩
theorem d_mo_count_52 : bgd co_mo_count 52 (.if_icmp .ne 10) 3 55 := ⟨by decide +kernel, rfl⟩
theorem d_mo_count_55 : bgd co_mo_count 55 (.aload_n 0) 1 56 := ⟨by decide +kernel, rfl⟩
theorem d_mo_count_56 : bgd co_mo_count 56 (.getfield 61) 3 59 := ⟨by decide +kernel, rfl⟩
theorem d_mo_count_59 : bgd co_mo_count 59 (.goto 87) 3 62 := ⟨by decide +kernel, rfl⟩
theorem d_mo_count_62 : bgd co_mo_count 62 (.iload_n 1) 1 63 := ⟨by decide +kernel, rfl⟩
theorem d_mo_count_63 : bgd co_mo_count 63 (.iconst 2) 1 64 := ⟨by decide +kernel, rfl⟩
theorem d_mo_count_64 : bgd co_mo_count 64 (.if_icmp .ne 10) 3 67 := ⟨by decide +kernel, rfl⟩
theorem d_mo_count_67 : bgd co_mo_count 67 (.aload_n 0) 1 68 := ⟨by decide +kernel, rfl⟩
theorem d_mo_count_68 : bgd co_mo_count 68 (.getfield 67) 3 71 := ⟨by decide +kernel, rfl⟩
theorem d_mo_count_71 : bgd co_mo_count 71 (.goto 75) 3 74 := ⟨by decide +kernel, rfl⟩
theorem d_mo_count_74 : bgd co_mo_count 74 (.iload_n 1) 1 75 := ⟨by decide +kernel, rfl⟩
theorem d_mo_count_75 : bgd co_mo_count 75 (.iconst 3) 1 76 := ⟨by decide +kernel, rfl⟩
theorem d_mo_count_76 : bgd co_mo_count 76 (.if_icmp .ne 21) 3 79 := ⟨by decide +kernel, rfl⟩
theorem d_mo_count_79 : bgd co_mo_count 79 (.aload_n 0) 1 80 := ⟨by decide +kernel, rfl⟩
theorem d_mo_count_80 : bgd co_mo_count 80 (.getfield 58) 3 83 := ⟨by decide +kernel, rfl⟩
theorem d_mo_count_83 : bgd co_mo_count 83 (.ifCond .eq 10) 3 86 := ⟨by decide +kernel, rfl⟩
theorem d_mo_count_86 : bgd co_mo_count 86 (.aload_n 0) 1 87 := ⟨by decide +kernel, rfl⟩
theorem d_mo_count_87 : bgd co_mo_count 87 (.getfield 55) 3 90 := ⟨by decide +kernel, rfl⟩
theorem d_mo_count_90 : bgd co_mo_count 90 (.goto 56) 3 93 := ⟨by decide +kernel, rfl⟩
theorem d_mo_count_93 : bgd co_mo_count 93 (.iconst (-1)) 1 94 := ⟨by decide +kernel, rfl⟩
theorem d_mo_count_94 : bgd co_mo_count 94 (.goto 52) 3 97 := ⟨by decide +kernel, rfl⟩
theorem d_mo_count_97 : bgd co_mo_count 97 (.iload_n 1) 1 98 := ⟨by decide +kernel, rfl⟩
theorem d_mo_count_98 : bgd co_mo_count 98 (.iconst 4) 1 99 := ⟨by decide +kernel, rfl⟩
theorem d_mo_count_99 : bgd co_mo_count 99 (.if_icmp .ne 10) 3 102 := ⟨by decide +kernel, rfl⟩
theorem d_mo_count_102 : bgd co_mo_count 102 (.aload_n 0) 1 103 := ⟨by decide +kernel, rfl⟩
theorem d_mo_count_103 : bgd co_mo_count 103 (.getfield 64) 3 106 := ⟨by decide +kernel, rfl⟩
theorem d_mo_count_106 : bgd co_mo_count 106 (.goto 40) 3 109 := ⟨by decide +kernel, rfl⟩
theorem d_mo_count_109 : bgd co_mo_count 109 (.iload_n 1) 1 110 := ⟨by decide +kernel, rfl⟩
theorem d_mo_count_110 : bgd co_mo_count 110 (.iconst 5) 1 111 := ⟨by decide +kernel, rfl⟩
theorem d_mo_count_111 : bgd co_mo_count 111 (.if_icmp .ne 10) 3 114 := ⟨by decide +kernel, rfl⟩
theorem d_mo_count_114 : bgd co_mo_count 114 (.aload_n 0) 1 115 := ⟨by decide +kernel, rfl⟩
theorem d_mo_count_115 : bgd co_mo_count 115 (.getfield 30) 3 118 := ⟨by decide +kernel, rfl⟩
theorem d_mo_count_118 : bgd co_mo_count 118 (.goto 28) 3 121 := ⟨by decide +kernel, rfl⟩
theorem d_mo_count_121 : bgd co_mo_count 121 (.iload_n 1) 1 122 := ⟨by decide +kernel, rfl⟩
theorem d_mo_count_122 : bgd co_mo_count 122 (.bipush 6) 2 124 := ⟨by decide +kernel, rfl⟩
theorem d_mo_count_124 : bgd co_mo_count 124 (.if_icmp .ne 10) 3 127 := ⟨by decide +kernel, rfl⟩
theorem d_mo_count_127 : bgd co_mo_count 127 (.aload_n 0) 1 128 := ⟨by decide +kernel, rfl⟩
theorem d_mo_count_128 : bgd co_mo_count 128 (.getfield 87) 3 131 := ⟨by decide +kernel, rfl⟩
theorem d_mo_count_131 : bgd co_mo_count 131 (.goto 15) 3 134 := ⟨by decide +kernel, rfl⟩
theorem d_mo_count_134 : bgd co_mo_count 134 (.aload_n 0) 1 135 := ⟨by decide +kernel, rfl⟩
theorem d_mo_count_135 : bgd co_mo_count 135 (.invokevirtual 96) 3 138 := ⟨by decide +kernel, rfl⟩
theorem d_mo_count_138 : bgd co_mo_count 138 (.ifCond .eq 7) 3 141 := ⟨by decide +kernel, rfl⟩
theorem d_mo_count_141 : bgd co_mo_count 141 (.iconst 1) 1 142 := ⟨by decide +kernel, rfl⟩
theorem d_mo_count_142 : bgd co_mo_count 142 (.goto 4) 3 145 := ⟨by decide +kernel, rfl⟩
theorem d_mo_count_145 : bgd co_mo_count 145 (.iconst 0) 1 146 := ⟨by decide +kernel, rfl⟩
theorem d_mo_count_146 : bgd co_mo_count 146 (.ireturn) 1 147 := ⟨by decide +kernel, rfl⟩
theorem d_mo_distance_0 : bgd co_mo_distance 0 (.aload_n 0) 1 1 := ⟨by decide +kernel, rfl⟩
theorem d_mo_distance_1 : bgd co_mo_distance 1 (.aload_n 0) 1 2 := ⟨by decide +kernel, rfl⟩
theorem d_mo_distance_2 : bgd co_mo_distance 2 (.iload_n 1) 1 3 := ⟨by decide +kernel, rfl⟩
theorem d_mo_distance_3 : bgd co_mo_distance 3 (.invokevirtual 123) 3 6 := ⟨by decide +kernel, rfl⟩
theorem d_mo_distance_6 : bgd co_mo_distance 6 (.putfield 52) 3 9 := ⟨by decide +kernel, rfl⟩
theorem d_mo_distance_9 : bgd co_mo_distance 9 (.aload_n 0) 1 10 := ⟨by decide +kernel, rfl⟩
theorem d_mo_distance_10 : bgd co_mo_distance 10 (.getfield 52) 3 13 := ⟨by decide +kernel, rfl⟩
theorem d_mo_distance_13 : bgd co_mo_distance 13 (.ifCond .le 7) 3 16 := ⟨by decide +kernel, rfl⟩
theorem d_mo_distance_16 : bgd co_mo_distance 16 (.iconst 0) 1 17 := ⟨by decide +kernel, rfl⟩
theorem d_mo_distance_17 : bgd co_mo_distance 17 (.goto 9) 3 20 := ⟨by decide +kernel, rfl⟩
theorem d_mo_distance_20 : bgd co_mo_distance 20 (.aload_n 0) 1 21 := ⟨by decide +kernel, rfl⟩
theorem d_mo_distance_21 : bgd co_mo_distance 21 (.getfield 43) 3 24 := ⟨by decide +kernel, rfl⟩
theorem d_mo_distance_24 : bgd co_mo_distance 24 (.iload_n 1) 1 25 := ⟨by decide +kernel, rfl⟩
theorem d_mo_distance_25 : bgd co_mo_distance 25 (.iaload) 1 26 := ⟨by decide +kernel, rfl⟩
theorem d_mo_distance_26 : bgd co_mo_distance 26 (.ireturn) 1 27 := ⟨by decide +kernel, rfl⟩
theorem d_mo_edge_0 : bgd co_mo_edge 0 (.aload_n 0) 1 1 := ⟨by decide +kernel, rfl⟩
theorem d_mo_edge_1 : bgd co_mo_edge 1 (.aload_n 0) 1 2 := ⟨by decide +kernel, rfl⟩
theorem d_mo_edge_2 : bgd co_mo_edge 2 (.invokevirtual 96) 3 5 := ⟨by decide +kernel, rfl⟩
theorem d_mo_edge_5 : bgd co_mo_edge 5 (.ifCond .eq 7) 3 8 := ⟨by decide +kernel, rfl⟩
theorem d_mo_edge_8 : bgd co_mo_edge 8 (.iconst 1) 1 9 := ⟨by decide +kernel, rfl⟩
theorem d_mo_edge_9 : bgd co_mo_edge 9 (.goto 29) 3 12 := ⟨by decide +kernel, rfl⟩
theorem d_mo_edge_12 : bgd co_mo_edge 12 (.aload_n 0) 1 13 := ⟨by decide +kernel, rfl⟩
theorem d_mo_edge_13 : bgd co_mo_edge 13 (.iload_n 1) 1 14 := ⟨by decide +kernel, rfl⟩
theorem d_mo_edge_14 : bgd co_mo_edge 14 (.invokevirtual 106) 3 17 := ⟨by decide +kernel, rfl⟩
theorem d_mo_edge_17 : bgd co_mo_edge 17 (.ifCond .ne 7) 3 20 := ⟨by decide +kernel, rfl⟩
theorem d_mo_edge_20 : bgd co_mo_edge 20 (.iconst 2) 1 21 := ⟨by decide +kernel, rfl⟩
theorem d_mo_edge_21 : bgd co_mo_edge 21 (.goto 17) 3 24 := ⟨by decide +kernel, rfl⟩
theorem d_mo_edge_24 : bgd co_mo_edge 24 (.iload_n 2) 1 25 := ⟨by decide +kernel, rfl⟩
theorem d_mo_edge_25 : bgd co_mo_edge 25 (.ifCond .lt 8) 3 28 := ⟨by decide +kernel, rfl⟩
theorem d_mo_edge_28 : bgd co_mo_edge 28 (.iload_n 2) 1 29 := ⟨by decide +kernel, rfl⟩
theorem d_mo_edge_29 : bgd co_mo_edge 29 (.iconst 2) 1 30 := ⟨by decide +kernel, rfl⟩
theorem d_mo_edge_30 : bgd co_mo_edge 30 (.if_icmp .le 7) 3 33 := ⟨by decide +kernel, rfl⟩
theorem d_mo_edge_33 : bgd co_mo_edge 33 (.iconst 3) 1 34 := ⟨by decide +kernel, rfl⟩
theorem d_mo_edge_34 : bgd co_mo_edge 34 (.goto 4) 3 37 := ⟨by decide +kernel, rfl⟩
theorem d_mo_edge_37 : bgd co_mo_edge 37 (.iconst 0) 1 38 := ⟨by decide +kernel, rfl⟩
theorem d_mo_edge_38 : bgd co_mo_edge 38 (.putfield 52) 3 41 := ⟨by decide +kernel, rfl⟩
theorem d_mo_edge_41 : bgd co_mo_edge 41 (.aload_n 0) 1 42 := ⟨by decide +kernel, rfl⟩
theorem d_mo_edge_42 : bgd co_mo_edge 42 (.getfield 52) 3 45 := ⟨by decide +kernel, rfl⟩
theorem d_mo_edge_45 : bgd co_mo_edge 45 (.ifCond .le 5) 3 48 := ⟨by decide +kernel, rfl⟩
theorem d_mo_edge_48 : bgd co_mo_edge 48 (.iconst 0) 1 49 := ⟨by decide +kernel, rfl⟩
theorem d_mo_edge_49 : bgd co_mo_edge 49 (.ireturn) 1 50 := ⟨by decide +kernel, rfl⟩
theorem d_mo_edge_50 : bgd co_mo_edge 50 (.aload_n 0) 1 51 := ⟨by decide +kernel, rfl⟩
theorem d_mo_edge_51 : bgd co_mo_edge 51 (.iload_n 1) 1 52 := ⟨by decide +kernel, rfl⟩
theorem d_mo_edge_52 : bgd co_mo_edge 52 (.iconst 4) 1 53 := ⟨by decide +kernel, rfl⟩
theorem d_mo_edge_53 : bgd co_mo_edge 53 (.idiv) 1 54 := ⟨by decide +kernel, rfl⟩
theorem d_mo_edge_54 : bgd co_mo_edge 54 (.invokevirtual 116) 3 57 := ⟨by decide +kernel, rfl⟩
theorem d_mo_edge_57 : bgd co_mo_edge 57 (.iload_n 2) 1 58 := ⟨by decide +kernel, rfl⟩
theorem d_mo_edge_58 : bgd co_mo_edge 58 (.ifCond .ne 16) 3 61 := ⟨by decide +kernel, rfl⟩
theorem d_mo_edge_61 : bgd co_mo_edge 61 (.aload_n 0) 1 62 := ⟨by decide +kernel, rfl⟩
theorem d_mo_edge_62 : bgd co_mo_edge 62 (.getfield 7) 3 65 := ⟨by decide +kernel, rfl⟩
theorem d_mo_edge_65 : bgd co_mo_edge 65 (.sipush 200) 3 68 := ⟨by decide +kernel, rfl⟩
theorem d_mo_edge_68 : bgd co_mo_edge 68 (.iload_n 1) 1 69 := ⟨by decide +kernel, rfl⟩
theorem d_mo_edge_69 : bgd co_mo_edge 69 (.iadd) 1 70 := ⟨by decide +kernel, rfl⟩
theorem d_mo_edge_70 : bgd co_mo_edge 70 (.iaload) 1 71 := ⟨by decide +kernel, rfl⟩
theorem d_mo_edge_71 : bgd co_mo_edge 71 (.goto 31) 3 74 := ⟨by decide +kernel, rfl⟩
theorem d_mo_edge_74 : bgd co_mo_edge 74 (.iload_n 2) 1 75 := ⟨by decide +kernel, rfl⟩
theorem d_mo_edge_75 : bgd co_mo_edge 75 (.iconst 1) 1 76 := ⟨by decide +kernel, rfl⟩
theorem d_mo_edge_76 : bgd co_mo_edge 76 (.if_icmp .ne 16) 3 79 := ⟨by decide +kernel, rfl⟩
theorem d_mo_edge_79 : bgd co_mo_edge 79 (.aload_n 0) 1 80 := ⟨by decide +kernel, rfl⟩
theorem d_mo_edge_80 : bgd co_mo_edge 80 (.getfield 13) 3 83 := ⟨by decide +kernel, rfl⟩
theorem d_mo_edge_83 : bgd co_mo_edge 83 (.sipush 200) 3 86 := ⟨by decide +kernel, rfl⟩
theorem d_mo_edge_86 : bgd co_mo_edge 86 (.iload_n 1) 1 87 := ⟨by decide +kernel, rfl⟩
theorem d_mo_edge_87 : bgd co_mo_edge 87 (.iadd) 1 88 := ⟨by decide +kernel, rfl⟩
theorem d_mo_edge_88 : bgd co_mo_edge 88 (.iaload) 1 89 := ⟨by decide +kernel, rfl⟩
theorem d_mo_edge_89 : bgd co_mo_edge 89 (.goto 13) 3 92 := ⟨by decide +kernel, rfl⟩
theorem d_mo_edge_92 : bgd co_mo_edge 92 (.aload_n 0) 1 93 := ⟨by decide +kernel, rfl⟩
theorem d_mo_edge_93 : bgd co_mo_edge 93 (.getfield 16) 3 96 := ⟨by decide +kernel, rfl⟩
theorem d_mo_edge_96 : bgd co_mo_edge 96 (.sipush 200) 3 99 := ⟨by decide +kernel, rfl⟩
theorem d_mo_edge_99 : bgd co_mo_edge 99 (.iload_n 1) 1 100 := ⟨by decide +kernel, rfl⟩
theorem d_mo_edge_100 : bgd co_mo_edge 100 (.iadd) 1 101 := ⟨by decide +kernel, rfl⟩
theorem d_mo_edge_101 : bgd co_mo_edge 101 (.iaload) 1 102 := ⟨by decide +kernel, rfl⟩
theorem d_mo_edge_102 : bgd co_mo_edge 102 (.ireturn) 1 103 := ⟨by decide +kernel, rfl⟩
theorem d_mo_faultOf_0 : bgd co_mo_faultOf 0 (.aload_n 0) 1 1 := ⟨by decide +kernel, rfl⟩
theorem d_mo_faultOf_1 : bgd co_mo_faultOf 1 (.invokevirtual 96) 3 4 := ⟨by decide +kernel, rfl⟩
theorem d_mo_faultOf_4 : bgd co_mo_faultOf 4 (.ifCond .ne 10) 3 7 := ⟨by decide +kernel, rfl⟩
theorem d_mo_faultOf_7 : bgd co_mo_faultOf 7 (.aload_n 0) 1 8 := ⟨by decide +kernel, rfl⟩
theorem d_mo_faultOf_8 : bgd co_mo_faultOf 8 (.getfield 40) 3 11 := ⟨by decide +kernel, rfl⟩
theorem d_mo_faultOf_11 : bgd co_mo_faultOf 11 (.ifCond .eq 7) 3 14 := ⟨by decide +kernel, rfl⟩
theorem d_mo_faultOf_14 : bgd co_mo_faultOf 14 (.iconst 1) 1 15 := ⟨by decide +kernel, rfl⟩
theorem d_mo_faultOf_15 : bgd co_mo_faultOf 15 (.goto 15) 3 18 := ⟨by decide +kernel, rfl⟩
theorem d_mo_faultOf_18 : bgd co_mo_faultOf 18 (.iload_n 1) 1 19 := ⟨by decide +kernel, rfl⟩
theorem d_mo_faultOf_19 : bgd co_mo_faultOf 19 (.invokestatic 99) 3 22 := ⟨by decide +kernel, rfl⟩
theorem d_mo_faultOf_22 : bgd co_mo_faultOf 22 (.ifCond .eq 7) 3 25 := ⟨by decide +kernel, rfl⟩
theorem d_mo_faultOf_25 : bgd co_mo_faultOf 25 (.iconst 0) 1 26 := ⟨by decide +kernel, rfl⟩
theorem d_mo_faultOf_26 : bgd co_mo_faultOf 26 (.goto 4) 3 29 := ⟨by decide +kernel, rfl⟩
theorem d_mo_faultOf_29 : bgd co_mo_faultOf 29 (.iconst 2) 1 30 := ⟨by decide +kernel, rfl⟩
theorem d_mo_faultOf_30 : bgd co_mo_faultOf 30 (.ireturn) 1 31 := ⟨by decide +kernel, rfl⟩
theorem d_mo_format_0 : bgd co_mo_format 0 (.aload_n 0) 1 1 := ⟨by decide +kernel, rfl⟩
theorem d_mo_format_1 : bgd co_mo_format 1 (.iconst 0) 1 2 := ⟨by decide +kernel, rfl⟩
theorem d_mo_format_2 : bgd co_mo_format 2 (.putfield 52) 3 5 := ⟨by decide +kernel, rfl⟩
theorem d_mo_format_5 : bgd co_mo_format 5 (.aload_n 0) 1 6 := ⟨by decide +kernel, rfl⟩
theorem d_mo_format_6 : bgd co_mo_format 6 (.iconst 0) 1 7 := ⟨by decide +kernel, rfl⟩
theorem d_mo_format_7 : bgd co_mo_format 7 (.putfield 64) 3 10 := ⟨by decide +kernel, rfl⟩
theorem d_mo_format_10 : bgd co_mo_format 10 (.aload_n 0) 1 11 := ⟨by decide +kernel, rfl⟩
theorem d_mo_format_11 : bgd co_mo_format 11 (.iconst 1) 1 12 := ⟨by decide +kernel, rfl⟩
theorem d_mo_format_12 : bgd co_mo_format 12 (.putfield 40) 3 15 := ⟨by decide +kernel, rfl⟩
theorem d_mo_format_15 : bgd co_mo_format 15 (.aload_n 0) 1 16 := ⟨by decide +kernel, rfl⟩
theorem d_mo_format_16 : bgd co_mo_format 16 (.iconst 0) 1 17 := ⟨by decide +kernel, rfl⟩
theorem d_mo_format_17 : bgd co_mo_format 17 (.putfield 58) 3 20 := ⟨by decide +kernel, rfl⟩
theorem d_mo_format_20 : bgd co_mo_format 20 (.aload_n 0) 1 21 := ⟨by decide +kernel, rfl⟩
theorem d_mo_format_21 : bgd co_mo_format 21 (.invokevirtual 81) 3 24 := ⟨by decide +kernel, rfl⟩
theorem d_mo_format_24 : bgd co_mo_format 24 (.aload_n 0) 1 25 := ⟨by decide +kernel, rfl⟩
theorem d_mo_format_25 : bgd co_mo_format 25 (.invokevirtual 74) 3 28 := ⟨by decide +kernel, rfl⟩
theorem d_mo_format_28 : bgd co_mo_format 28 (.ifCond .ne 5) 3 31 := ⟨by decide +kernel, rfl⟩
theorem d_mo_format_31 : bgd co_mo_format 31 (.iconst 0) 1 32 := ⟨by decide +kernel, rfl⟩
theorem d_mo_format_32 : bgd co_mo_format 32 (.ireturn) 1 33 := ⟨by decide +kernel, rfl⟩
theorem d_mo_format_33 : bgd co_mo_format 33 (.aload_n 0) 1 34 := ⟨by decide +kernel, rfl⟩
theorem d_mo_format_34 : bgd co_mo_format 34 (.iconst 0) 1 35 := ⟨by decide +kernel, rfl⟩
theorem d_mo_format_35 : bgd co_mo_format 35 (.putfield 84) 3 38 := ⟨by decide +kernel, rfl⟩
theorem d_mo_format_38 : bgd co_mo_format 38 (.aload_n 0) 1 39 := ⟨by decide +kernel, rfl⟩
theorem d_mo_format_39 : bgd co_mo_format 39 (.iconst 0) 1 40 := ⟨by decide +kernel, rfl⟩
theorem d_mo_format_40 : bgd co_mo_format 40 (.putfield 78) 3 43 := ⟨by decide +kernel, rfl⟩
theorem d_mo_format_43 : bgd co_mo_format 43 (.aload_n 0) 1 44 := ⟨by decide +kernel, rfl⟩
theorem d_mo_format_44 : bgd co_mo_format 44 (.iconst 0) 1 45 := ⟨by decide +kernel, rfl⟩
theorem d_mo_format_45 : bgd co_mo_format 45 (.putfield 87) 3 48 := ⟨by decide +kernel, rfl⟩
theorem d_mo_format_48 : bgd co_mo_format 48 (.aload_n 0) 1 49 := ⟨by decide +kernel, rfl⟩
theorem d_mo_format_49 : bgd co_mo_format 49 (.iconst 0) 1 50 := ⟨by decide +kernel, rfl⟩
theorem d_mo_format_50 : bgd co_mo_format 50 (.putfield 90) 3 53 := ⟨by decide +kernel, rfl⟩
theorem d_mo_format_53 : bgd co_mo_format 53 (.aload_n 0) 1 54 := ⟨by decide +kernel, rfl⟩
theorem d_mo_format_54 : bgd co_mo_format 54 (.invokevirtual 49) 3 57 := ⟨by decide +kernel, rfl⟩
theorem d_mo_format_57 : bgd co_mo_format 57 (.aload_n 0) 1 58 := ⟨by decide +kernel, rfl⟩
theorem d_mo_format_58 : bgd co_mo_format 58 (.invokevirtual 93) 3 61 := ⟨by decide +kernel, rfl⟩
theorem d_mo_format_61 : bgd co_mo_format 61 (.ifCond .ne 5) 3 64 := ⟨by decide +kernel, rfl⟩
theorem d_mo_format_64 : bgd co_mo_format 64 (.iconst 0) 1 65 := ⟨by decide +kernel, rfl⟩
theorem d_mo_format_65 : bgd co_mo_format 65 (.ireturn) 1 66 := ⟨by decide +kernel, rfl⟩
theorem d_mo_format_66 : bgd co_mo_format 66 (.aload_n 0) 1 67 := ⟨by decide +kernel, rfl⟩
theorem d_mo_format_67 : bgd co_mo_format 67 (.iconst 1) 1 68 := ⟨by decide +kernel, rfl⟩
theorem d_mo_format_68 : bgd co_mo_format 68 (.putfield 84) 3 71 := ⟨by decide +kernel, rfl⟩
theorem d_mo_format_71 : bgd co_mo_format 71 (.aload_n 0) 1 72 := ⟨by decide +kernel, rfl⟩
theorem d_mo_format_72 : bgd co_mo_format 72 (.iconst 0) 1 73 := ⟨by decide +kernel, rfl⟩
theorem d_mo_format_73 : bgd co_mo_format 73 (.putfield 19) 3 76 := ⟨by decide +kernel, rfl⟩
theorem d_mo_format_76 : bgd co_mo_format 76 (.iconst 1) 1 77 := ⟨by decide +kernel, rfl⟩
theorem d_mo_format_77 : bgd co_mo_format 77 (.ireturn) 1 78 := ⟨by decide +kernel, rfl⟩
theorem d_mo_isDown_0 : bgd co_mo_isDown 0 (.aload_n 0) 1 1 := ⟨by decide +kernel, rfl⟩
theorem d_mo_isDown_1 : bgd co_mo_isDown 1 (.getfield 19) 3 4 := ⟨by decide +kernel, rfl⟩
theorem d_mo_isDown_4 : bgd co_mo_isDown 4 (.ifCond .ne 10) 3 7 := ⟨by decide +kernel, rfl⟩
theorem d_mo_isDown_7 : bgd co_mo_isDown 7 (.aload_n 0) 1 8 := ⟨by decide +kernel, rfl⟩
theorem d_mo_isDown_8 : bgd co_mo_isDown 8 (.getfield 84) 3 11 := ⟨by decide +kernel, rfl⟩
theorem d_mo_isDown_11 : bgd co_mo_isDown 11 (.ifCond .ne 7) 3 14 := ⟨by decide +kernel, rfl⟩
theorem d_mo_isDown_14 : bgd co_mo_isDown 14 (.iconst 1) 1 15 := ⟨by decide +kernel, rfl⟩
theorem d_mo_isDown_15 : bgd co_mo_isDown 15 (.goto 4) 3 18 := ⟨by decide +kernel, rfl⟩
theorem d_mo_isDown_18 : bgd co_mo_isDown 18 (.iconst 0) 1 19 := ⟨by decide +kernel, rfl⟩
theorem d_mo_isDown_19 : bgd co_mo_isDown 19 (.ireturn) 1 20 := ⟨by decide +kernel, rfl⟩
theorem d_mo_isFormatted_0 : bgd co_mo_isFormatted 0 (.iconst 0) 1 1 := ⟨by decide +kernel, rfl⟩
theorem d_mo_isFormatted_1 : bgd co_mo_isFormatted 1 (.istore_n 1) 1 2 := ⟨by decide +kernel, rfl⟩
theorem d_mo_isFormatted_2 : bgd co_mo_isFormatted 2 (.iload_n 1) 1 3 := ⟨by decide +kernel, rfl⟩
theorem d_mo_isFormatted_3 : bgd co_mo_isFormatted 3 (.bipush 50) 2 5 := ⟨by decide +kernel, rfl⟩
theorem d_mo_isFormatted_5 : bgd co_mo_isFormatted 5 (.if_icmp .ge 24) 3 8 := ⟨by decide +kernel, rfl⟩
theorem d_mo_isFormatted_8 : bgd co_mo_isFormatted 8 (.aload_n 0) 1 9 := ⟨by decide +kernel, rfl⟩
theorem d_mo_isFormatted_9 : bgd co_mo_isFormatted 9 (.invokevirtual 74) 3 12 := ⟨by decide +kernel, rfl⟩
theorem d_mo_isFormatted_12 : bgd co_mo_isFormatted 12 (.ifCond .ne 5) 3 15 := ⟨by decide +kernel, rfl⟩
theorem d_mo_isFormatted_15 : bgd co_mo_isFormatted 15 (.iconst 0) 1 16 := ⟨by decide +kernel, rfl⟩
theorem d_mo_isFormatted_16 : bgd co_mo_isFormatted 16 (.ireturn) 1 17 := ⟨by decide +kernel, rfl⟩
theorem d_mo_isFormatted_17 : bgd co_mo_isFormatted 17 (.aload_n 0) 1 18 := ⟨by decide +kernel, rfl⟩
theorem d_mo_isFormatted_18 : bgd co_mo_isFormatted 18 (.iload_n 1) 1 19 := ⟨by decide +kernel, rfl⟩
theorem d_mo_isFormatted_19 : bgd co_mo_isFormatted 19 (.invokevirtual 70) 3 22 := ⟨by decide +kernel, rfl⟩
theorem d_mo_isFormatted_22 : bgd co_mo_isFormatted 22 (.pop) 1 23 := ⟨by decide +kernel, rfl⟩
theorem d_mo_isFormatted_23 : bgd co_mo_isFormatted 23 (.iinc 1 1) 3 26 := ⟨by decide +kernel, rfl⟩
theorem d_mo_isFormatted_26 : bgd co_mo_isFormatted 26 (.goto (-24)) 3 29 := ⟨by decide +kernel, rfl⟩
theorem d_mo_isFormatted_29 : bgd co_mo_isFormatted 29 (.aload_n 0) 1 30 := ⟨by decide +kernel, rfl⟩
theorem d_mo_isFormatted_30 : bgd co_mo_isFormatted 30 (.invokevirtual 74) 3 33 := ⟨by decide +kernel, rfl⟩
theorem d_mo_isFormatted_33 : bgd co_mo_isFormatted 33 (.ifCond .eq 14) 3 36 := ⟨by decide +kernel, rfl⟩
theorem d_mo_isFormatted_36 : bgd co_mo_isFormatted 36 (.aload_n 0) 1 37 := ⟨by decide +kernel, rfl⟩
theorem d_mo_isFormatted_37 : bgd co_mo_isFormatted 37 (.invokevirtual 74) 3 40 := ⟨by decide +kernel, rfl⟩
theorem d_mo_isFormatted_40 : bgd co_mo_isFormatted 40 (.ifCond .eq 7) 3 43 := ⟨by decide +kernel, rfl⟩
theorem d_mo_isFormatted_43 : bgd co_mo_isFormatted 43 (.iconst 1) 1 44 := ⟨by decide +kernel, rfl⟩
theorem d_mo_isFormatted_44 : bgd co_mo_isFormatted 44 (.goto 4) 3 47 := ⟨by decide +kernel, rfl⟩
theorem d_mo_isFormatted_47 : bgd co_mo_isFormatted 47 (.iconst 0) 1 48 := ⟨by decide +kernel, rfl⟩
theorem d_mo_isFormatted_48 : bgd co_mo_isFormatted 48 (.ireturn) 1 49 := ⟨by decide +kernel, rfl⟩
theorem d_mo_isHome_0 : bgd co_mo_isHome 0 (.iconst 0) 1 1 := ⟨by decide +kernel, rfl⟩
theorem d_mo_isHome_1 : bgd co_mo_isHome 1 (.istore_n 1) 1 2 := ⟨by decide +kernel, rfl⟩
theorem d_mo_isHome_2 : bgd co_mo_isHome 2 (.iload_n 1) 1 3 := ⟨by decide +kernel, rfl⟩
theorem d_mo_isHome_3 : bgd co_mo_isHome 3 (.bipush 50) 2 5 := ⟨by decide +kernel, rfl⟩
theorem d_mo_isHome_5 : bgd co_mo_isHome 5 (.if_icmp .ge 33) 3 8 := ⟨by decide +kernel, rfl⟩
theorem d_mo_isHome_8 : bgd co_mo_isHome 8 (.aload_n 0) 1 9 := ⟨by decide +kernel, rfl⟩
theorem d_mo_isHome_9 : bgd co_mo_isHome 9 (.getfield 27) 3 12 := ⟨by decide +kernel, rfl⟩
theorem d_mo_isHome_12 : bgd co_mo_isHome 12 (.iload_n 1) 1 13 := ⟨by decide +kernel, rfl⟩
theorem d_mo_isHome_13 : bgd co_mo_isHome 13 (.baload) 1 14 := ⟨by decide +kernel, rfl⟩
theorem d_mo_isHome_14 : bgd co_mo_isHome 14 (.ifCond .eq 18) 3 17 := ⟨by decide +kernel, rfl⟩
theorem d_mo_isHome_17 : bgd co_mo_isHome 17 (.aload_n 0) 1 18 := ⟨by decide +kernel, rfl⟩
theorem d_mo_isHome_18 : bgd co_mo_isHome 18 (.invokevirtual 74) 3 21 := ⟨by decide +kernel, rfl⟩
theorem d_mo_isHome_21 : bgd co_mo_isHome 21 (.ifCond .ne 5) 3 24 := ⟨by decide +kernel, rfl⟩
theorem d_mo_isHome_24 : bgd co_mo_isHome 24 (.iconst 0) 1 25 := ⟨by decide +kernel, rfl⟩
theorem d_mo_isHome_25 : bgd co_mo_isHome 25 (.ireturn) 1 26 := ⟨by decide +kernel, rfl⟩
theorem d_mo_isHome_26 : bgd co_mo_isHome 26 (.aload_n 0) 1 27 := ⟨by decide +kernel, rfl⟩
theorem d_mo_isHome_27 : bgd co_mo_isHome 27 (.iload_n 1) 1 28 := ⟨by decide +kernel, rfl⟩
theorem d_mo_isHome_28 : bgd co_mo_isHome 28 (.invokevirtual 70) 3 31 := ⟨by decide +kernel, rfl⟩
theorem d_mo_isHome_31 : bgd co_mo_isHome 31 (.pop) 1 32 := ⟨by decide +kernel, rfl⟩
theorem d_mo_isHome_32 : bgd co_mo_isHome 32 (.iinc 1 1) 3 35 := ⟨by decide +kernel, rfl⟩
theorem d_mo_isHome_35 : bgd co_mo_isHome 35 (.goto (-33)) 3 38 := ⟨by decide +kernel, rfl⟩
theorem d_mo_isHome_38 : bgd co_mo_isHome 38 (.aload_n 0) 1 39 := ⟨by decide +kernel, rfl⟩
theorem d_mo_isHome_39 : bgd co_mo_isHome 39 (.invokevirtual 74) 3 42 := ⟨by decide +kernel, rfl⟩
theorem d_mo_isHome_42 : bgd co_mo_isHome 42 (.ifCond .ne 5) 3 45 := ⟨by decide +kernel, rfl⟩
theorem d_mo_isHome_45 : bgd co_mo_isHome 45 (.iconst 0) 1 46 := ⟨by decide +kernel, rfl⟩
theorem d_mo_isHome_46 : bgd co_mo_isHome 46 (.ireturn) 1 47 := ⟨by decide +kernel, rfl⟩
theorem d_mo_isHome_47 : bgd co_mo_isHome 47 (.aload_n 0) 1 48 := ⟨by decide +kernel, rfl⟩
theorem d_mo_isHome_48 : bgd co_mo_isHome 48 (.iconst 0) 1 49 := ⟨by decide +kernel, rfl⟩
theorem d_mo_isHome_49 : bgd co_mo_isHome 49 (.putfield 78) 3 52 := ⟨by decide +kernel, rfl⟩
theorem d_mo_isHome_52 : bgd co_mo_isHome 52 (.iconst 1) 1 53 := ⟨by decide +kernel, rfl⟩
theorem d_mo_isHome_53 : bgd co_mo_isHome 53 (.ireturn) 1 54 := ⟨by decide +kernel, rfl⟩
theorem d_mo_isNew_0 : bgd co_mo_isNew 0 (.iconst 0) 1 1 := ⟨by decide +kernel, rfl⟩
theorem d_mo_isNew_1 : bgd co_mo_isNew 1 (.istore_n 2) 1 2 := ⟨by decide +kernel, rfl⟩
theorem d_mo_isNew_2 : bgd co_mo_isNew 2 (.iload_n 2) 1 3 := ⟨by decide +kernel, rfl⟩
theorem d_mo_isNew_3 : bgd co_mo_isNew 3 (.aload_n 0) 1 4 := ⟨by decide +kernel, rfl⟩
theorem d_mo_isNew_4 : bgd co_mo_isNew 4 (.getfield 64) 3 7 := ⟨by decide +kernel, rfl⟩
theorem d_mo_isNew_7 : bgd co_mo_isNew 7 (.if_icmp .ge 19) 3 10 := ⟨by decide +kernel, rfl⟩
theorem d_mo_isNew_10 : bgd co_mo_isNew 10 (.aload_n 0) 1 11 := ⟨by decide +kernel, rfl⟩
theorem d_mo_isNew_11 : bgd co_mo_isNew 11 (.getfield 34) 3 14 := ⟨by decide +kernel, rfl⟩
theorem d_mo_isNew_14 : bgd co_mo_isNew 14 (.iload_n 2) 1 15 := ⟨by decide +kernel, rfl⟩
theorem d_mo_isNew_15 : bgd co_mo_isNew 15 (.iaload) 1 16 := ⟨by decide +kernel, rfl⟩
theorem d_mo_isNew_16 : bgd co_mo_isNew 16 (.iload_n 1) 1 17 := ⟨by decide +kernel, rfl⟩
theorem d_mo_isNew_17 : bgd co_mo_isNew 17 (.if_icmp .eq 9) 3 20 := ⟨by decide +kernel, rfl⟩
theorem d_mo_isNew_20 : bgd co_mo_isNew 20 (.iinc 2 1) 3 23 := ⟨by decide +kernel, rfl⟩
theorem d_mo_isNew_23 : bgd co_mo_isNew 23 (.goto (-21)) 3 26 := ⟨by decide +kernel, rfl⟩
theorem d_mo_isNew_26 : bgd co_mo_isNew 26 (.iload_n 2) 1 27 := ⟨by decide +kernel, rfl⟩
theorem d_mo_isNew_27 : bgd co_mo_isNew 27 (.aload_n 0) 1 28 := ⟨by decide +kernel, rfl⟩
theorem d_mo_isNew_28 : bgd co_mo_isNew 28 (.getfield 64) 3 31 := ⟨by decide +kernel, rfl⟩
theorem d_mo_isNew_31 : bgd co_mo_isNew 31 (.if_icmp .ne 7) 3 34 := ⟨by decide +kernel, rfl⟩
theorem d_mo_isNew_34 : bgd co_mo_isNew 34 (.iconst 1) 1 35 := ⟨by decide +kernel, rfl⟩
theorem d_mo_isNew_35 : bgd co_mo_isNew 35 (.goto 4) 3 38 := ⟨by decide +kernel, rfl⟩
theorem d_mo_isNew_38 : bgd co_mo_isNew 38 (.iconst 0) 1 39 := ⟨by decide +kernel, rfl⟩
theorem d_mo_isNew_39 : bgd co_mo_isNew 39 (.istore_n 3) 1 40 := ⟨by decide +kernel, rfl⟩
theorem d_mo_isNew_40 : bgd co_mo_isNew 40 (.aload_n 0) 1 41 := ⟨by decide +kernel, rfl⟩
theorem d_mo_isNew_41 : bgd co_mo_isNew 41 (.dup) 1 42 := ⟨by decide +kernel, rfl⟩
theorem d_mo_isNew_42 : bgd co_mo_isNew 42 (.getfield 64) 3 45 := ⟨by decide +kernel, rfl⟩
theorem d_mo_isNew_45 : bgd co_mo_isNew 45 (.iload_n 3) 1 46 := ⟨by decide +kernel, rfl⟩
theorem d_mo_isNew_46 : bgd co_mo_isNew 46 (.ifCond .eq 7) 3 49 := ⟨by decide +kernel, rfl⟩
theorem d_mo_isNew_49 : bgd co_mo_isNew 49 (.iconst 1) 1 50 := ⟨by decide +kernel, rfl⟩
theorem d_mo_isNew_50 : bgd co_mo_isNew 50 (.goto 4) 3 53 := ⟨by decide +kernel, rfl⟩
theorem d_mo_isNew_53 : bgd co_mo_isNew 53 (.iconst 0) 1 54 := ⟨by decide +kernel, rfl⟩
theorem d_mo_isNew_54 : bgd co_mo_isNew 54 (.iadd) 1 55 := ⟨by decide +kernel, rfl⟩
theorem d_mo_isNew_55 : bgd co_mo_isNew 55 (.putfield 64) 3 58 := ⟨by decide +kernel, rfl⟩
theorem d_mo_isNew_58 : bgd co_mo_isNew 58 (.iload_n 2) 1 59 := ⟨by decide +kernel, rfl⟩
theorem d_mo_isNew_59 : bgd co_mo_isNew 59 (.istore 4) 2 61 := ⟨by decide +kernel, rfl⟩
theorem d_mo_isNew_61 : bgd co_mo_isNew 61 (.iload 4) 2 63 := ⟨by decide +kernel, rfl⟩
theorem d_mo_isNew_63 : bgd co_mo_isNew 63 (.ifCond .le 25) 3 66 := ⟨by decide +kernel, rfl⟩
theorem d_mo_isNew_66 : bgd co_mo_isNew 66 (.aload_n 0) 1 67 := ⟨by decide +kernel, rfl⟩
theorem d_mo_isNew_67 : bgd co_mo_isNew 67 (.getfield 34) 3 70 := ⟨by decide +kernel, rfl⟩
theorem d_mo_isNew_70 : bgd co_mo_isNew 70 (.iload 4) 2 72 := ⟨by decide +kernel, rfl⟩
theorem d_mo_isNew_72 : bgd co_mo_isNew 72 (.aload_n 0) 1 73 := ⟨by decide +kernel, rfl⟩
theorem d_mo_isNew_73 : bgd co_mo_isNew 73 (.getfield 34) 3 76 := ⟨by decide +kernel, rfl⟩
theorem d_mo_isNew_76 : bgd co_mo_isNew 76 (.iload 4) 2 78 := ⟨by decide +kernel, rfl⟩
theorem d_mo_isNew_78 : bgd co_mo_isNew 78 (.iconst 1) 1 79 := ⟨by decide +kernel, rfl⟩
theorem d_mo_isNew_79 : bgd co_mo_isNew 79 (.isub) 1 80 := ⟨by decide +kernel, rfl⟩
theorem d_mo_isNew_80 : bgd co_mo_isNew 80 (.iaload) 1 81 := ⟨by decide +kernel, rfl⟩
theorem d_mo_isNew_81 : bgd co_mo_isNew 81 (.iastore) 1 82 := ⟨by decide +kernel, rfl⟩
theorem d_mo_isNew_82 : bgd co_mo_isNew 82 (.iinc 4 (-1)) 3 85 := ⟨by decide +kernel, rfl⟩
theorem d_mo_isNew_85 : bgd co_mo_isNew 85 (.goto (-24)) 3 88 := ⟨by decide +kernel, rfl⟩
theorem d_mo_isNew_88 : bgd co_mo_isNew 88 (.aload_n 0) 1 89 := ⟨by decide +kernel, rfl⟩
theorem d_mo_isNew_89 : bgd co_mo_isNew 89 (.getfield 34) 3 92 := ⟨by decide +kernel, rfl⟩
theorem d_mo_isNew_92 : bgd co_mo_isNew 92 (.iconst 0) 1 93 := ⟨by decide +kernel, rfl⟩
theorem d_mo_isNew_93 : bgd co_mo_isNew 93 (.iload_n 1) 1 94 := ⟨by decide +kernel, rfl⟩
theorem d_mo_isNew_94 : bgd co_mo_isNew 94 (.iastore) 1 95 := ⟨by decide +kernel, rfl⟩
theorem d_mo_isNew_95 : bgd co_mo_isNew 95 (.aload_n 0) 1 96 := ⟨by decide +kernel, rfl⟩
theorem d_mo_isNew_96 : bgd co_mo_isNew 96 (.aload_n 0) 1 97 := ⟨by decide +kernel, rfl⟩
theorem d_mo_isNew_97 : bgd co_mo_isNew 97 (.getfield 64) 3 100 := ⟨by decide +kernel, rfl⟩
theorem d_mo_isNew_100 : bgd co_mo_isNew 100 (.aload_n 0) 1 101 := ⟨by decide +kernel, rfl⟩
theorem d_mo_isNew_101 : bgd co_mo_isNew 101 (.getfield 37) 3 104 := ⟨by decide +kernel, rfl⟩
theorem d_mo_isNew_104 : bgd co_mo_isNew 104 (.if_icmp .le 10) 3 107 := ⟨by decide +kernel, rfl⟩
theorem d_mo_isNew_107 : bgd co_mo_isNew 107 (.aload_n 0) 1 108 := ⟨by decide +kernel, rfl⟩
theorem d_mo_isNew_108 : bgd co_mo_isNew 108 (.getfield 37) 3 111 := ⟨by decide +kernel, rfl⟩
theorem d_mo_isNew_111 : bgd co_mo_isNew 111 (.goto 7) 3 114 := ⟨by decide +kernel, rfl⟩
theorem d_mo_isNew_114 : bgd co_mo_isNew 114 (.aload_n 0) 1 115 := ⟨by decide +kernel, rfl⟩
theorem d_mo_isNew_115 : bgd co_mo_isNew 115 (.getfield 64) 3 118 := ⟨by decide +kernel, rfl⟩
theorem d_mo_isNew_118 : bgd co_mo_isNew 118 (.putfield 64) 3 121 := ⟨by decide +kernel, rfl⟩
theorem d_mo_isNew_121 : bgd co_mo_isNew 121 (.iload_n 3) 1 122 := ⟨by decide +kernel, rfl⟩
theorem d_mo_isNew_122 : bgd co_mo_isNew 122 (.ireturn) 1 123 := ⟨by decide +kernel, rfl⟩
theorem d_mo_isVertex_0 : bgd co_mo_isVertex 0 (.iload_n 0) 1 1 := ⟨by decide +kernel, rfl⟩
theorem d_mo_isVertex_1 : bgd co_mo_isVertex 1 (.ifCond .lt 13) 3 4 := ⟨by decide +kernel, rfl⟩
theorem d_mo_isVertex_4 : bgd co_mo_isVertex 4 (.iload_n 0) 1 5 := ⟨by decide +kernel, rfl⟩
theorem d_mo_isVertex_5 : bgd co_mo_isVertex 5 (.bipush 64) 2 7 := ⟨by decide +kernel, rfl⟩
theorem d_mo_isVertex_7 : bgd co_mo_isVertex 7 (.if_icmp .ge 7) 3 10 := ⟨by decide +kernel, rfl⟩
theorem d_mo_isVertex_10 : bgd co_mo_isVertex 10 (.iconst 1) 1 11 := ⟨by decide +kernel, rfl⟩
theorem d_mo_isVertex_11 : bgd co_mo_isVertex 11 (.goto 4) 3 14 := ⟨by decide +kernel, rfl⟩
theorem d_mo_isVertex_14 : bgd co_mo_isVertex 14 (.iconst 0) 1 15 := ⟨by decide +kernel, rfl⟩
theorem d_mo_isVertex_15 : bgd co_mo_isVertex 15 (.ireturn) 1 16 := ⟨by decide +kernel, rfl⟩
theorem d_mo_isVisible_0 : bgd co_mo_isVisible 0 (.iload_n 1) 1 1 := ⟨by decide +kernel, rfl⟩
theorem d_mo_isVisible_1 : bgd co_mo_isVisible 1 (.ifCond .lt 28) 3 4 := ⟨by decide +kernel, rfl⟩
theorem d_mo_isVisible_4 : bgd co_mo_isVisible 4 (.iload_n 1) 1 5 := ⟨by decide +kernel, rfl⟩
theorem d_mo_isVisible_5 : bgd co_mo_isVisible 5 (.sipush 200) 3 8 := ⟨by decide +kernel, rfl⟩
theorem d_mo_isVisible_8 : bgd co_mo_isVisible 8 (.if_icmp .ge 21) 3 11 := ⟨by decide +kernel, rfl⟩
theorem d_mo_isVisible_11 : bgd co_mo_isVisible 11 (.aload_n 0) 1 12 := ⟨by decide +kernel, rfl⟩
theorem d_mo_isVisible_12 : bgd co_mo_isVisible 12 (.getfield 7) 3 15 := ⟨by decide +kernel, rfl⟩
theorem d_mo_isVisible_15 : bgd co_mo_isVisible 15 (.sipush 200) 3 18 := ⟨by decide +kernel, rfl⟩
theorem d_mo_isVisible_18 : bgd co_mo_isVisible 18 (.iload_n 1) 1 19 := ⟨by decide +kernel, rfl⟩
theorem d_mo_isVisible_19 : bgd co_mo_isVisible 19 (.iadd) 1 20 := ⟨by decide +kernel, rfl⟩
theorem d_mo_isVisible_20 : bgd co_mo_isVisible 20 (.iaload) 1 21 := ⟨by decide +kernel, rfl⟩
theorem d_mo_isVisible_21 : bgd co_mo_isVisible 21 (.iconst (-1)) 1 22 := ⟨by decide +kernel, rfl⟩
theorem d_mo_isVisible_22 : bgd co_mo_isVisible 22 (.if_icmp .eq 7) 3 25 := ⟨by decide +kernel, rfl⟩
theorem d_mo_isVisible_25 : bgd co_mo_isVisible 25 (.iconst 1) 1 26 := ⟨by decide +kernel, rfl⟩
theorem d_mo_isVisible_26 : bgd co_mo_isVisible 26 (.goto 4) 3 29 := ⟨by decide +kernel, rfl⟩
theorem d_mo_isVisible_29 : bgd co_mo_isVisible 29 (.iconst 0) 1 30 := ⟨by decide +kernel, rfl⟩
theorem d_mo_isVisible_30 : bgd co_mo_isVisible 30 (.ireturn) 1 31 := ⟨by decide +kernel, rfl⟩
theorem d_mo_isWritten_0 : bgd co_mo_isWritten 0 (.aload_n 0) 1 1 := ⟨by decide +kernel, rfl⟩
theorem d_mo_isWritten_1 : bgd co_mo_isWritten 1 (.getfield 30) 3 4 := ⟨by decide +kernel, rfl⟩
theorem d_mo_isWritten_4 : bgd co_mo_isWritten 4 (.ifCond .ne 20) 3 7 := ⟨by decide +kernel, rfl⟩
theorem d_mo_isWritten_7 : bgd co_mo_isWritten 7 (.aload_n 0) 1 8 := ⟨by decide +kernel, rfl⟩
theorem d_mo_isWritten_8 : bgd co_mo_isWritten 8 (.iconst (-1)) 1 9 := ⟨by decide +kernel, rfl⟩
theorem d_mo_isWritten_9 : bgd co_mo_isWritten 9 (.putfield 30) 3 12 := ⟨by decide +kernel, rfl⟩
theorem d_mo_isWritten_12 : bgd co_mo_isWritten 12 (.aload_n 0) 1 13 := ⟨by decide +kernel, rfl⟩
theorem d_mo_isWritten_13 : bgd co_mo_isWritten 13 (.iconst 1) 1 14 := ⟨by decide +kernel, rfl⟩
theorem d_mo_isWritten_14 : bgd co_mo_isWritten 14 (.putfield 19) 3 17 := ⟨by decide +kernel, rfl⟩
theorem d_mo_isWritten_17 : bgd co_mo_isWritten 17 (.aload_n 0) 1 18 := ⟨by decide +kernel, rfl⟩
theorem d_mo_isWritten_18 : bgd co_mo_isWritten 18 (.iconst 0) 1 19 := ⟨by decide +kernel, rfl⟩
theorem d_mo_isWritten_19 : bgd co_mo_isWritten 19 (.putfield 58) 3 22 := ⟨by decide +kernel, rfl⟩
theorem d_mo_isWritten_22 : bgd co_mo_isWritten 22 (.iconst 0) 1 23 := ⟨by decide +kernel, rfl⟩
theorem d_mo_isWritten_23 : bgd co_mo_isWritten 23 (.ireturn) 1 24 := ⟨by decide +kernel, rfl⟩
theorem d_mo_isWritten_24 : bgd co_mo_isWritten 24 (.aload_n 0) 1 25 := ⟨by decide +kernel, rfl⟩
theorem d_mo_isWritten_25 : bgd co_mo_isWritten 25 (.aload_n 0) 1 26 := ⟨by decide +kernel, rfl⟩
theorem d_mo_isWritten_26 : bgd co_mo_isWritten 26 (.getfield 30) 3 29 := ⟨by decide +kernel, rfl⟩
theorem d_mo_isWritten_29 : bgd co_mo_isWritten 29 (.ifCond .le 12) 3 32 := ⟨by decide +kernel, rfl⟩
theorem d_mo_isWritten_32 : bgd co_mo_isWritten 32 (.aload_n 0) 1 33 := ⟨by decide +kernel, rfl⟩
theorem d_mo_isWritten_33 : bgd co_mo_isWritten 33 (.getfield 30) 3 36 := ⟨by decide +kernel, rfl⟩
theorem d_mo_isWritten_36 : bgd co_mo_isWritten 36 (.iconst 1) 1 37 := ⟨by decide +kernel, rfl⟩
theorem d_mo_isWritten_37 : bgd co_mo_isWritten 37 (.isub) 1 38 := ⟨by decide +kernel, rfl⟩
theorem d_mo_isWritten_38 : bgd co_mo_isWritten 38 (.goto 7) 3 41 := ⟨by decide +kernel, rfl⟩
theorem d_mo_isWritten_41 : bgd co_mo_isWritten 41 (.aload_n 0) 1 42 := ⟨by decide +kernel, rfl⟩
theorem d_mo_isWritten_42 : bgd co_mo_isWritten 42 (.getfield 30) 3 45 := ⟨by decide +kernel, rfl⟩
theorem d_mo_isWritten_45 : bgd co_mo_isWritten 45 (.putfield 30) 3 48 := ⟨by decide +kernel, rfl⟩
theorem d_mo_isWritten_48 : bgd co_mo_isWritten 48 (.aload_n 0) 1 49 := ⟨by decide +kernel, rfl⟩
theorem d_mo_isWritten_49 : bgd co_mo_isWritten 49 (.dup) 1 50 := ⟨by decide +kernel, rfl⟩
theorem d_mo_isWritten_50 : bgd co_mo_isWritten 50 (.getfield 61) 3 53 := ⟨by decide +kernel, rfl⟩
theorem d_mo_isWritten_53 : bgd co_mo_isWritten 53 (.iconst 1) 1 54 := ⟨by decide +kernel, rfl⟩
theorem d_mo_isWritten_54 : bgd co_mo_isWritten 54 (.iadd) 1 55 := ⟨by decide +kernel, rfl⟩
theorem d_mo_isWritten_55 : bgd co_mo_isWritten 55 (.putfield 61) 3 58 := ⟨by decide +kernel, rfl⟩
theorem d_mo_isWritten_58 : bgd co_mo_isWritten 58 (.iconst 1) 1 59 := ⟨by decide +kernel, rfl⟩
theorem d_mo_isWritten_59 : bgd co_mo_isWritten 59 (.ireturn) 1 60 := ⟨by decide +kernel, rfl⟩
theorem d_mo_look_0 : bgd co_mo_look 0 (.aload_n 0) 1 1 := ⟨by decide +kernel, rfl⟩
theorem d_mo_look_1 : bgd co_mo_look 1 (.dup) 1 2 := ⟨by decide +kernel, rfl⟩
theorem d_mo_look_2 : bgd co_mo_look 2 (.getfield 67) 3 5 := ⟨by decide +kernel, rfl⟩
theorem d_mo_look_5 : bgd co_mo_look 5 (.aload_n 0) 1 6 := ⟨by decide +kernel, rfl⟩
theorem d_mo_look_6 : bgd co_mo_look 6 (.iload_n 1) 1 7 := ⟨by decide +kernel, rfl⟩
theorem d_mo_look_7 : bgd co_mo_look 7 (.invokevirtual 70) 3 10 := ⟨by decide +kernel, rfl⟩
theorem d_mo_look_10 : bgd co_mo_look 10 (.ifCond .eq 7) 3 13 := ⟨by decide +kernel, rfl⟩
theorem d_mo_look_13 : bgd co_mo_look 13 (.iconst 1) 1 14 := ⟨by decide +kernel, rfl⟩
theorem d_mo_look_14 : bgd co_mo_look 14 (.goto 4) 3 17 := ⟨by decide +kernel, rfl⟩
theorem d_mo_look_17 : bgd co_mo_look 17 (.iconst 0) 1 18 := ⟨by decide +kernel, rfl⟩
theorem d_mo_look_18 : bgd co_mo_look 18 (.iadd) 1 19 := ⟨by decide +kernel, rfl⟩
theorem d_mo_look_19 : bgd co_mo_look 19 (.putfield 67) 3 22 := ⟨by decide +kernel, rfl⟩
theorem d_mo_look_22 : bgd co_mo_look 22 (.return_) 1 23 := ⟨by decide +kernel, rfl⟩
theorem d_mo_recover_0 : bgd co_mo_recover 0 (.aload_n 0) 1 1 := ⟨by decide +kernel, rfl⟩
theorem d_mo_recover_1 : bgd co_mo_recover 1 (.iconst 0) 1 2 := ⟨by decide +kernel, rfl⟩
theorem d_mo_recover_2 : bgd co_mo_recover 2 (.putfield 52) 3 5 := ⟨by decide +kernel, rfl⟩
theorem d_mo_recover_5 : bgd co_mo_recover 5 (.aload_n 0) 1 6 := ⟨by decide +kernel, rfl⟩
theorem d_mo_recover_6 : bgd co_mo_recover 6 (.iconst 0) 1 7 := ⟨by decide +kernel, rfl⟩
theorem d_mo_recover_7 : bgd co_mo_recover 7 (.putfield 64) 3 10 := ⟨by decide +kernel, rfl⟩
theorem d_mo_recover_10 : bgd co_mo_recover 10 (.aload_n 0) 1 11 := ⟨by decide +kernel, rfl⟩
theorem d_mo_recover_11 : bgd co_mo_recover 11 (.iconst 0) 1 12 := ⟨by decide +kernel, rfl⟩
theorem d_mo_recover_12 : bgd co_mo_recover 12 (.putfield 58) 3 15 := ⟨by decide +kernel, rfl⟩
theorem d_mo_recover_15 : bgd co_mo_recover 15 (.aload_n 0) 1 16 := ⟨by decide +kernel, rfl⟩
theorem d_mo_recover_16 : bgd co_mo_recover 16 (.iconst 1) 1 17 := ⟨by decide +kernel, rfl⟩
theorem d_mo_recover_17 : bgd co_mo_recover 17 (.putfield 40) 3 20 := ⟨by decide +kernel, rfl⟩
theorem d_mo_recover_20 : bgd co_mo_recover 20 (.aload_n 0) 1 21 := ⟨by decide +kernel, rfl⟩
theorem d_mo_recover_21 : bgd co_mo_recover 21 (.getfield 84) 3 24 := ⟨by decide +kernel, rfl⟩
theorem d_mo_recover_24 : bgd co_mo_recover 24 (.ifCond .ne 5) 3 27 := ⟨by decide +kernel, rfl⟩
theorem d_mo_recover_27 : bgd co_mo_recover 27 (.iconst 2) 1 28 := ⟨by decide +kernel, rfl⟩
theorem d_mo_recover_28 : bgd co_mo_recover 28 (.ireturn) 1 29 := ⟨by decide +kernel, rfl⟩
theorem d_mo_recover_29 : bgd co_mo_recover 29 (.aload_n 0) 1 30 := ⟨by decide +kernel, rfl⟩
theorem d_mo_recover_30 : bgd co_mo_recover 30 (.sipush 200) 3 33 := ⟨by decide +kernel, rfl⟩
theorem d_mo_recover_33 : bgd co_mo_recover 33 (.iconst 0) 1 34 := ⟨by decide +kernel, rfl⟩
theorem d_mo_recover_34 : bgd co_mo_recover 34 (.invokevirtual 109) 3 37 := ⟨by decide +kernel, rfl⟩
theorem d_mo_recover_37 : bgd co_mo_recover 37 (.aload_n 0) 1 38 := ⟨by decide +kernel, rfl⟩
theorem d_mo_recover_38 : bgd co_mo_recover 38 (.iconst 0) 1 39 := ⟨by decide +kernel, rfl⟩
theorem d_mo_recover_39 : bgd co_mo_recover 39 (.putfield 19) 3 42 := ⟨by decide +kernel, rfl⟩
theorem d_mo_recover_42 : bgd co_mo_recover 42 (.aload_n 0) 1 43 := ⟨by decide +kernel, rfl⟩
theorem d_mo_recover_43 : bgd co_mo_recover 43 (.getfield 78) 3 46 := ⟨by decide +kernel, rfl⟩
theorem d_mo_recover_46 : bgd co_mo_recover 46 (.ifCond .eq 12) 3 49 := ⟨by decide +kernel, rfl⟩
theorem d_mo_recover_49 : bgd co_mo_recover 49 (.aload_n 0) 1 50 := ⟨by decide +kernel, rfl⟩
theorem d_mo_recover_50 : bgd co_mo_recover 50 (.invokevirtual 113) 3 53 := ⟨by decide +kernel, rfl⟩
theorem d_mo_recover_53 : bgd co_mo_recover 53 (.ifCond .ne 5) 3 56 := ⟨by decide +kernel, rfl⟩
theorem d_mo_recover_56 : bgd co_mo_recover 56 (.iconst 1) 1 57 := ⟨by decide +kernel, rfl⟩
theorem d_mo_recover_57 : bgd co_mo_recover 57 (.ireturn) 1 58 := ⟨by decide +kernel, rfl⟩
theorem d_mo_recover_58 : bgd co_mo_recover 58 (.aload_n 0) 1 59 := ⟨by decide +kernel, rfl⟩
theorem d_mo_recover_59 : bgd co_mo_recover 59 (.dup) 1 60 := ⟨by decide +kernel, rfl⟩
theorem d_mo_recover_60 : bgd co_mo_recover 60 (.getfield 87) 3 63 := ⟨by decide +kernel, rfl⟩
theorem d_mo_recover_63 : bgd co_mo_recover 63 (.aload_n 0) 1 64 := ⟨by decide +kernel, rfl⟩
theorem d_mo_recover_64 : bgd co_mo_recover 64 (.getfield 90) 3 67 := ⟨by decide +kernel, rfl⟩
theorem d_mo_recover_67 : bgd co_mo_recover 67 (.iadd) 1 68 := ⟨by decide +kernel, rfl⟩
theorem d_mo_recover_68 : bgd co_mo_recover 68 (.putfield 87) 3 71 := ⟨by decide +kernel, rfl⟩
theorem d_mo_recover_71 : bgd co_mo_recover 71 (.aload_n 0) 1 72 := ⟨by decide +kernel, rfl⟩
theorem d_mo_recover_72 : bgd co_mo_recover 72 (.iconst 0) 1 73 := ⟨by decide +kernel, rfl⟩
theorem d_mo_recover_73 : bgd co_mo_recover 73 (.putfield 90) 3 76 := ⟨by decide +kernel, rfl⟩
theorem d_mo_recover_76 : bgd co_mo_recover 76 (.iconst 0) 1 77 := ⟨by decide +kernel, rfl⟩
theorem d_mo_recover_77 : bgd co_mo_recover 77 (.ireturn) 1 78 := ⟨by decide +kernel, rfl⟩
theorem d_mo_remove_0 : bgd co_mo_remove 0 (.aload_n 0) 1 1 := ⟨by decide +kernel, rfl⟩
theorem d_mo_remove_1 : bgd co_mo_remove 1 (.aload_n 0) 1 2 := ⟨by decide +kernel, rfl⟩
theorem d_mo_remove_2 : bgd co_mo_remove 2 (.invokevirtual 96) 3 5 := ⟨by decide +kernel, rfl⟩
theorem d_mo_remove_5 : bgd co_mo_remove 5 (.ifCond .ne 10) 3 8 := ⟨by decide +kernel, rfl⟩
theorem d_mo_remove_8 : bgd co_mo_remove 8 (.aload_n 0) 1 9 := ⟨by decide +kernel, rfl⟩
theorem d_mo_remove_9 : bgd co_mo_remove 9 (.getfield 58) 3 12 := ⟨by decide +kernel, rfl⟩
theorem d_mo_remove_12 : bgd co_mo_remove 12 (.ifCond .ne 7) 3 15 := ⟨by decide +kernel, rfl⟩
theorem d_mo_remove_15 : bgd co_mo_remove 15 (.iconst 1) 1 16 := ⟨by decide +kernel, rfl⟩
theorem d_mo_remove_16 : bgd co_mo_remove 16 (.goto 29) 3 19 := ⟨by decide +kernel, rfl⟩
theorem d_mo_remove_19 : bgd co_mo_remove 19 (.aload_n 0) 1 20 := ⟨by decide +kernel, rfl⟩
theorem d_mo_remove_20 : bgd co_mo_remove 20 (.iload_n 1) 1 21 := ⟨by decide +kernel, rfl⟩
theorem d_mo_remove_21 : bgd co_mo_remove 21 (.invokevirtual 106) 3 24 := ⟨by decide +kernel, rfl⟩
theorem d_mo_remove_24 : bgd co_mo_remove 24 (.ifCond .ne 7) 3 27 := ⟨by decide +kernel, rfl⟩
theorem d_mo_remove_27 : bgd co_mo_remove 27 (.iconst 2) 1 28 := ⟨by decide +kernel, rfl⟩
theorem d_mo_remove_28 : bgd co_mo_remove 28 (.goto 17) 3 31 := ⟨by decide +kernel, rfl⟩
theorem d_mo_remove_31 : bgd co_mo_remove 31 (.aload_n 0) 1 32 := ⟨by decide +kernel, rfl⟩
theorem d_mo_remove_32 : bgd co_mo_remove 32 (.getfield 55) 3 35 := ⟨by decide +kernel, rfl⟩
theorem d_mo_remove_35 : bgd co_mo_remove 35 (.bipush 20) 2 37 := ⟨by decide +kernel, rfl⟩
theorem d_mo_remove_37 : bgd co_mo_remove 37 (.if_icmp .ne 7) 3 40 := ⟨by decide +kernel, rfl⟩
theorem d_mo_remove_40 : bgd co_mo_remove 40 (.iconst 3) 1 41 := ⟨by decide +kernel, rfl⟩
theorem d_mo_remove_41 : bgd co_mo_remove 41 (.goto 4) 3 44 := ⟨by decide +kernel, rfl⟩
theorem d_mo_remove_44 : bgd co_mo_remove 44 (.iconst 0) 1 45 := ⟨by decide +kernel, rfl⟩
theorem d_mo_remove_45 : bgd co_mo_remove 45 (.putfield 52) 3 48 := ⟨by decide +kernel, rfl⟩
theorem d_mo_remove_48 : bgd co_mo_remove 48 (.aload_n 0) 1 49 := ⟨by decide +kernel, rfl⟩
theorem d_mo_remove_49 : bgd co_mo_remove 49 (.getfield 52) 3 52 := ⟨by decide +kernel, rfl⟩
theorem d_mo_remove_52 : bgd co_mo_remove 52 (.ifCond .ne 38) 3 55 := ⟨by decide +kernel, rfl⟩
theorem d_mo_remove_55 : bgd co_mo_remove 55 (.aload_n 0) 1 56 := ⟨by decide +kernel, rfl⟩
theorem d_mo_remove_56 : bgd co_mo_remove 56 (.getfield 7) 3 59 := ⟨by decide +kernel, rfl⟩
theorem d_mo_remove_59 : bgd co_mo_remove 59 (.sipush 200) 3 62 := ⟨by decide +kernel, rfl⟩
theorem d_mo_remove_62 : bgd co_mo_remove 62 (.iload_n 1) 1 63 := ⟨by decide +kernel, rfl⟩
theorem d_mo_remove_63 : bgd co_mo_remove 63 (.iadd) 1 64 := ⟨by decide +kernel, rfl⟩
theorem d_mo_remove_64 : bgd co_mo_remove 64 (.iconst (-1)) 1 65 := ⟨by decide +kernel, rfl⟩
theorem d_mo_remove_65 : bgd co_mo_remove 65 (.iastore) 1 66 := ⟨by decide +kernel, rfl⟩
theorem d_mo_remove_66 : bgd co_mo_remove 66 (.aload_n 0) 1 67 := ⟨by decide +kernel, rfl⟩
theorem d_mo_remove_67 : bgd co_mo_remove 67 (.getfield 23) 3 70 := ⟨by decide +kernel, rfl⟩
theorem d_mo_remove_70 : bgd co_mo_remove 70 (.iload_n 1) 1 71 := ⟨by decide +kernel, rfl⟩
theorem d_mo_remove_71 : bgd co_mo_remove 71 (.iconst 4) 1 72 := ⟨by decide +kernel, rfl⟩
theorem d_mo_remove_72 : bgd co_mo_remove 72 (.idiv) 1 73 := ⟨by decide +kernel, rfl⟩
theorem d_mo_remove_73 : bgd co_mo_remove 73 (.iconst 1) 1 74 := ⟨by decide +kernel, rfl⟩
theorem d_mo_remove_74 : bgd co_mo_remove 74 (.bastore) 1 75 := ⟨by decide +kernel, rfl⟩
theorem d_mo_remove_75 : bgd co_mo_remove 75 (.aload_n 0) 1 76 := ⟨by decide +kernel, rfl⟩
theorem d_mo_remove_76 : bgd co_mo_remove 76 (.dup) 1 77 := ⟨by decide +kernel, rfl⟩
theorem d_mo_remove_77 : bgd co_mo_remove 77 (.getfield 55) 3 80 := ⟨by decide +kernel, rfl⟩
theorem d_mo_remove_80 : bgd co_mo_remove 80 (.iconst 1) 1 81 := ⟨by decide +kernel, rfl⟩
theorem d_mo_remove_81 : bgd co_mo_remove 81 (.iadd) 1 82 := ⟨by decide +kernel, rfl⟩
theorem d_mo_remove_82 : bgd co_mo_remove 82 (.putfield 55) 3 85 := ⟨by decide +kernel, rfl⟩
theorem d_mo_remove_85 : bgd co_mo_remove 85 (.aload_n 0) 1 86 := ⟨by decide +kernel, rfl⟩
theorem d_mo_remove_86 : bgd co_mo_remove 86 (.iconst 1) 1 87 := ⟨by decide +kernel, rfl⟩
theorem d_mo_remove_87 : bgd co_mo_remove 87 (.putfield 40) 3 90 := ⟨by decide +kernel, rfl⟩
theorem d_mo_remove_90 : bgd co_mo_remove 90 (.return_) 1 91 := ⟨by decide +kernel, rfl⟩
theorem d_mo_room_0 : bgd co_mo_room 0 (.aload_n 0) 1 1 := ⟨by decide +kernel, rfl⟩
theorem d_mo_room_1 : bgd co_mo_room 1 (.iload_n 1) 1 2 := ⟨by decide +kernel, rfl⟩
theorem d_mo_room_2 : bgd co_mo_room 2 (.iconst 1) 1 3 := ⟨by decide +kernel, rfl⟩
theorem d_mo_room_3 : bgd co_mo_room 3 (.if_icmp .lt 9) 3 6 := ⟨by decide +kernel, rfl⟩
theorem d_mo_room_6 : bgd co_mo_room 6 (.iload_n 1) 1 7 := ⟨by decide +kernel, rfl⟩
theorem d_mo_room_7 : bgd co_mo_room 7 (.bipush 50) 2 9 := ⟨by decide +kernel, rfl⟩
theorem d_mo_room_9 : bgd co_mo_room 9 (.if_icmp .le 7) 3 12 := ⟨by decide +kernel, rfl⟩
theorem d_mo_room_12 : bgd co_mo_room 12 (.iconst 1) 1 13 := ⟨by decide +kernel, rfl⟩
theorem d_mo_room_13 : bgd co_mo_room 13 (.goto 4) 3 16 := ⟨by decide +kernel, rfl⟩
theorem d_mo_room_16 : bgd co_mo_room 16 (.iconst 0) 1 17 := ⟨by decide +kernel, rfl⟩
theorem d_mo_room_17 : bgd co_mo_room 17 (.putfield 52) 3 20 := ⟨by decide +kernel, rfl⟩
theorem d_mo_room_20 : bgd co_mo_room 20 (.aload_n 0) 1 21 := ⟨by decide +kernel, rfl⟩
theorem d_mo_room_21 : bgd co_mo_room 21 (.getfield 52) 3 24 := ⟨by decide +kernel, rfl⟩
theorem d_mo_room_24 : bgd co_mo_room 24 (.ifCond .ne 34) 3 27 := ⟨by decide +kernel, rfl⟩
theorem d_mo_room_27 : bgd co_mo_room 27 (.aload_n 0) 1 28 := ⟨by decide +kernel, rfl⟩
theorem d_mo_room_28 : bgd co_mo_room 28 (.iload_n 1) 1 29 := ⟨by decide +kernel, rfl⟩
theorem d_mo_room_29 : bgd co_mo_room 29 (.putfield 37) 3 32 := ⟨by decide +kernel, rfl⟩
theorem d_mo_room_32 : bgd co_mo_room 32 (.aload_n 0) 1 33 := ⟨by decide +kernel, rfl⟩
theorem d_mo_room_33 : bgd co_mo_room 33 (.aload_n 0) 1 34 := ⟨by decide +kernel, rfl⟩
theorem d_mo_room_34 : bgd co_mo_room 34 (.getfield 64) 3 37 := ⟨by decide +kernel, rfl⟩
theorem d_mo_room_37 : bgd co_mo_room 37 (.aload_n 0) 1 38 := ⟨by decide +kernel, rfl⟩
theorem d_mo_room_38 : bgd co_mo_room 38 (.getfield 37) 3 41 := ⟨by decide +kernel, rfl⟩
theorem d_mo_room_41 : bgd co_mo_room 41 (.if_icmp .le 10) 3 44 := ⟨by decide +kernel, rfl⟩
theorem d_mo_room_44 : bgd co_mo_room 44 (.aload_n 0) 1 45 := ⟨by decide +kernel, rfl⟩
theorem d_mo_room_45 : bgd co_mo_room 45 (.getfield 37) 3 48 := ⟨by decide +kernel, rfl⟩
theorem d_mo_room_48 : bgd co_mo_room 48 (.goto 7) 3 51 := ⟨by decide +kernel, rfl⟩
theorem d_mo_room_51 : bgd co_mo_room 51 (.aload_n 0) 1 52 := ⟨by decide +kernel, rfl⟩
theorem d_mo_room_52 : bgd co_mo_room 52 (.getfield 64) 3 55 := ⟨by decide +kernel, rfl⟩
theorem d_mo_room_55 : bgd co_mo_room 55 (.putfield 64) 3 58 := ⟨by decide +kernel, rfl⟩
theorem d_mo_room_58 : bgd co_mo_room 58 (.return_) 1 59 := ⟨by decide +kernel, rfl⟩
theorem d_mo_thrown_0 : bgd co_mo_thrown 0 (.aload_n 0) 1 1 := ⟨by decide +kernel, rfl⟩
theorem d_mo_thrown_1 : bgd co_mo_thrown 1 (.getfield 52) 3 4 := ⟨by decide +kernel, rfl⟩
theorem d_mo_thrown_4 : bgd co_mo_thrown 4 (.ireturn) 1 5 := ⟨by decide +kernel, rfl⟩
theorem d_mo_untouch_0 : bgd co_mo_untouch 0 (.iconst 0) 1 1 := ⟨by decide +kernel, rfl⟩
theorem d_mo_untouch_1 : bgd co_mo_untouch 1 (.istore_n 1) 1 2 := ⟨by decide +kernel, rfl⟩
theorem d_mo_untouch_2 : bgd co_mo_untouch 2 (.iload_n 1) 1 3 := ⟨by decide +kernel, rfl⟩
theorem d_mo_untouch_3 : bgd co_mo_untouch 3 (.bipush 50) 2 5 := ⟨by decide +kernel, rfl⟩
theorem d_mo_untouch_5 : bgd co_mo_untouch 5 (.if_icmp .ge 16) 3 8 := ⟨by decide +kernel, rfl⟩
theorem d_mo_untouch_8 : bgd co_mo_untouch 8 (.aload_n 0) 1 9 := ⟨by decide +kernel, rfl⟩
theorem d_mo_untouch_9 : bgd co_mo_untouch 9 (.getfield 23) 3 12 := ⟨by decide +kernel, rfl⟩
theorem d_mo_untouch_12 : bgd co_mo_untouch 12 (.iload_n 1) 1 13 := ⟨by decide +kernel, rfl⟩
theorem d_mo_untouch_13 : bgd co_mo_untouch 13 (.iconst 0) 1 14 := ⟨by decide +kernel, rfl⟩
theorem d_mo_untouch_14 : bgd co_mo_untouch 14 (.bastore) 1 15 := ⟨by decide +kernel, rfl⟩
theorem d_mo_untouch_15 : bgd co_mo_untouch 15 (.iinc 1 1) 3 18 := ⟨by decide +kernel, rfl⟩
theorem d_mo_untouch_18 : bgd co_mo_untouch 18 (.goto (-16)) 3 21 := ⟨by decide +kernel, rfl⟩
theorem d_mo_untouch_21 : bgd co_mo_untouch 21 (.aload_n 0) 1 22 := ⟨by decide +kernel, rfl⟩
theorem d_mo_untouch_22 : bgd co_mo_untouch 22 (.iconst 0) 1 23 := ⟨by decide +kernel, rfl⟩
theorem d_mo_untouch_23 : bgd co_mo_untouch 23 (.putfield 55) 3 26 := ⟨by decide +kernel, rfl⟩
theorem d_mo_untouch_26 : bgd co_mo_untouch 26 (.return_) 1 27 := ⟨by decide +kernel, rfl⟩
theorem d_mo_visible_0 : bgd co_mo_visible 0 (.iconst 0) 1 1 := ⟨by decide +kernel, rfl⟩
theorem d_mo_visible_1 : bgd co_mo_visible 1 (.istore_n 1) 1 2 := ⟨by decide +kernel, rfl⟩
theorem d_mo_visible_2 : bgd co_mo_visible 2 (.sipush 200) 3 5 := ⟨by decide +kernel, rfl⟩
theorem d_mo_visible_5 : bgd co_mo_visible 5 (.istore_n 2) 1 6 := ⟨by decide +kernel, rfl⟩
theorem d_mo_visible_6 : bgd co_mo_visible 6 (.iload_n 2) 1 7 := ⟨by decide +kernel, rfl⟩
theorem d_mo_visible_7 : bgd co_mo_visible 7 (.sipush 400) 3 10 := ⟨by decide +kernel, rfl⟩
theorem d_mo_visible_10 : bgd co_mo_visible 10 (.if_icmp .ge 27) 3 13 := ⟨by decide +kernel, rfl⟩
theorem d_mo_visible_13 : bgd co_mo_visible 13 (.iload_n 1) 1 14 := ⟨by decide +kernel, rfl⟩
theorem d_mo_visible_14 : bgd co_mo_visible 14 (.aload_n 0) 1 15 := ⟨by decide +kernel, rfl⟩
theorem d_mo_visible_15 : bgd co_mo_visible 15 (.getfield 7) 3 18 := ⟨by decide +kernel, rfl⟩
theorem d_mo_visible_18 : bgd co_mo_visible 18 (.iload_n 2) 1 19 := ⟨by decide +kernel, rfl⟩
theorem d_mo_visible_19 : bgd co_mo_visible 19 (.iaload) 1 20 := ⟨by decide +kernel, rfl⟩
theorem d_mo_visible_20 : bgd co_mo_visible 20 (.iconst (-1)) 1 21 := ⟨by decide +kernel, rfl⟩
theorem d_mo_visible_21 : bgd co_mo_visible 21 (.if_icmp .eq 7) 3 24 := ⟨by decide +kernel, rfl⟩
theorem d_mo_visible_24 : bgd co_mo_visible 24 (.iconst 1) 1 25 := ⟨by decide +kernel, rfl⟩
theorem d_mo_visible_25 : bgd co_mo_visible 25 (.goto 4) 3 28 := ⟨by decide +kernel, rfl⟩
theorem d_mo_visible_28 : bgd co_mo_visible 28 (.iconst 0) 1 29 := ⟨by decide +kernel, rfl⟩
theorem d_mo_visible_29 : bgd co_mo_visible 29 (.iadd) 1 30 := ⟨by decide +kernel, rfl⟩
theorem d_mo_visible_30 : bgd co_mo_visible 30 (.istore_n 1) 1 31 := ⟨by decide +kernel, rfl⟩
theorem d_mo_visible_31 : bgd co_mo_visible 31 (.iinc 2 1) 3 34 := ⟨by decide +kernel, rfl⟩
theorem d_mo_visible_34 : bgd co_mo_visible 34 (.goto (-28)) 3 37 := ⟨by decide +kernel, rfl⟩
theorem d_mo_visible_37 : bgd co_mo_visible 37 (.iload_n 1) 1 38 := ⟨by decide +kernel, rfl⟩
theorem d_mo_visible_38 : bgd co_mo_visible 38 (.ireturn) 1 39 := ⟨by decide +kernel, rfl⟩
theorem tc_mo_abort : Cond.code y_mo_abort co_mo_abort 1 (some .int) ∈ bgTs := bg_tw 814 (by decide +kernel) (by decide +kernel)
theorem ti_mo_abort : Cond.instanceMethod y_mo_abort ∈ bgTs := bg_tw 812 (by decide +kernel) (by decide +kernel)
theorem ts_mo_abort : Cond.selects "BlockGraphModel" y_mo_abort y_mo_abort ∈ bgTs := bg_tw 813 (by decide +kernel) (by decide +kernel)
theorem tc_mo_add : Cond.code y_mo_add co_mo_add 5 (some .int) ∈ bgTs := bg_tw 783 (by decide +kernel) (by decide +kernel)
theorem ti_mo_add : Cond.instanceMethod y_mo_add ∈ bgTs := bg_tw 781 (by decide +kernel) (by decide +kernel)
theorem ts_mo_add : Cond.selects "BlockGraphModel" y_mo_add y_mo_add ∈ bgTs := bg_tw 782 (by decide +kernel) (by decide +kernel)
theorem tc_mo_arm : Cond.code y_mo_arm co_mo_arm 2 none ∈ bgTs := bg_tw 818 (by decide +kernel) (by decide +kernel)
theorem ti_mo_arm : Cond.instanceMethod y_mo_arm ∈ bgTs := bg_tw 816 (by decide +kernel) (by decide +kernel)
theorem ts_mo_arm : Cond.selects "BlockGraphModel" y_mo_arm y_mo_arm ∈ bgTs := bg_tw 817 (by decide +kernel) (by decide +kernel)
theorem tc_mo_atHand : Cond.code y_mo_atHand co_mo_atHand 2 (some .int) ∈ bgTs := bg_tw 862 (by decide +kernel) (by decide +kernel)
theorem ti_mo_atHand : Cond.instanceMethod y_mo_atHand ∈ bgTs := bg_tw 860 (by decide +kernel) (by decide +kernel)
theorem ts_mo_atHand : Cond.selects "BlockGraphModel" y_mo_atHand y_mo_atHand ∈ bgTs := bg_tw 861 (by decide +kernel) (by decide +kernel)
theorem tc_mo_begin : Cond.code y_mo_begin co_mo_begin 1 none ∈ bgTs := bg_tw 775 (by decide +kernel) (by decide +kernel)
theorem ti_mo_begin : Cond.instanceMethod y_mo_begin ∈ bgTs := bg_tw 773 (by decide +kernel) (by decide +kernel)
theorem ts_mo_begin : Cond.selects "BlockGraphModel" y_mo_begin y_mo_begin ∈ bgTs := bg_tw 774 (by decide +kernel) (by decide +kernel)
theorem tc_mo_clear : Cond.code y_mo_clear co_mo_clear 2 none ∈ bgTs := bg_tw 676 (by decide +kernel) (by decide +kernel)
theorem ti_mo_clear : Cond.instanceMethod y_mo_clear ∈ bgTs := bg_tw 675 (by decide +kernel) (by decide +kernel)
theorem ts_mo_clear : Cond.selects "BlockGraphModel" y_mo_clear y_mo_clear ∈ bgTs := bg_tw 21 (by decide +kernel) (by decide +kernel)
theorem tc_mo_commit : Cond.code y_mo_commit co_mo_commit 2 (some .boolean) ∈ bgTs := bg_tw 802 (by decide +kernel) (by decide +kernel)
theorem ti_mo_commit : Cond.instanceMethod y_mo_commit ∈ bgTs := bg_tw 800 (by decide +kernel) (by decide +kernel)
theorem ts_mo_commit : Cond.selects "BlockGraphModel" y_mo_commit y_mo_commit ∈ bgTs := bg_tw 801 (by decide +kernel) (by decide +kernel)
theorem tc_mo_copy : Cond.code y_mo_copy co_mo_copy 4 none ∈ bgTs := bg_tw 806 (by decide +kernel) (by decide +kernel)
theorem ti_mo_copy : Cond.instanceMethod y_mo_copy ∈ bgTs := bg_tw 805 (by decide +kernel) (by decide +kernel)
theorem ts_mo_copy : Cond.selects "BlockGraphModel" y_mo_copy y_mo_copy ∈ bgTs := bg_tw 29 (by decide +kernel) (by decide +kernel)
theorem tc_mo_count : Cond.code y_mo_count co_mo_count 2 (some .int) ∈ bgTs := bg_tw 866 (by decide +kernel) (by decide +kernel)
theorem ti_mo_count : Cond.instanceMethod y_mo_count ∈ bgTs := bg_tw 864 (by decide +kernel) (by decide +kernel)
theorem ts_mo_count : Cond.selects "BlockGraphModel" y_mo_count y_mo_count ∈ bgTs := bg_tw 865 (by decide +kernel) (by decide +kernel)
theorem tc_mo_distance : Cond.code y_mo_distance co_mo_distance 2 (some .int) ∈ bgTs := bg_tw 842 (by decide +kernel) (by decide +kernel)
theorem ti_mo_distance : Cond.instanceMethod y_mo_distance ∈ bgTs := bg_tw 840 (by decide +kernel) (by decide +kernel)
theorem ts_mo_distance : Cond.selects "BlockGraphModel" y_mo_distance y_mo_distance ∈ bgTs := bg_tw 841 (by decide +kernel) (by decide +kernel)
theorem tc_mo_edge : Cond.code y_mo_edge co_mo_edge 3 (some .int) ∈ bgTs := bg_tw 826 (by decide +kernel) (by decide +kernel)
theorem ti_mo_edge : Cond.instanceMethod y_mo_edge ∈ bgTs := bg_tw 824 (by decide +kernel) (by decide +kernel)
theorem ts_mo_edge : Cond.selects "BlockGraphModel" y_mo_edge y_mo_edge ∈ bgTs := bg_tw 825 (by decide +kernel) (by decide +kernel)
theorem tc_mo_faultOf : Cond.code y_mo_faultOf co_mo_faultOf 2 (some .int) ∈ bgTs := bg_tw 846 (by decide +kernel) (by decide +kernel)
theorem ti_mo_faultOf : Cond.instanceMethod y_mo_faultOf ∈ bgTs := bg_tw 845 (by decide +kernel) (by decide +kernel)
theorem ts_mo_faultOf : Cond.selects "BlockGraphModel" y_mo_faultOf y_mo_faultOf ∈ bgTs := bg_tw 32 (by decide +kernel) (by decide +kernel)
theorem tc_mo_format : Cond.code y_mo_format co_mo_format 1 (some .boolean) ∈ bgTs := bg_tw 755 (by decide +kernel) (by decide +kernel)
theorem ti_mo_format : Cond.instanceMethod y_mo_format ∈ bgTs := bg_tw 753 (by decide +kernel) (by decide +kernel)
theorem ts_mo_format : Cond.selects "BlockGraphModel" y_mo_format y_mo_format ∈ bgTs := bg_tw 754 (by decide +kernel) (by decide +kernel)
theorem tc_mo_isDown : Cond.code y_mo_isDown co_mo_isDown 1 (some .boolean) ∈ bgTs := bg_tw 779 (by decide +kernel) (by decide +kernel)
theorem ti_mo_isDown : Cond.instanceMethod y_mo_isDown ∈ bgTs := bg_tw 778 (by decide +kernel) (by decide +kernel)
theorem ts_mo_isDown : Cond.selects "BlockGraphModel" y_mo_isDown y_mo_isDown ∈ bgTs := bg_tw 26 (by decide +kernel) (by decide +kernel)
theorem tc_mo_isFormatted : Cond.code y_mo_isFormatted co_mo_isFormatted 2 (some .boolean) ∈ bgTs := bg_tw 767 (by decide +kernel) (by decide +kernel)
theorem ti_mo_isFormatted : Cond.instanceMethod y_mo_isFormatted ∈ bgTs := bg_tw 766 (by decide +kernel) (by decide +kernel)
theorem ts_mo_isFormatted : Cond.selects "BlockGraphModel" y_mo_isFormatted y_mo_isFormatted ∈ bgTs := bg_tw 24 (by decide +kernel) (by decide +kernel)
theorem tc_mo_isHome : Cond.code y_mo_isHome co_mo_isHome 2 (some .boolean) ∈ bgTs := bg_tw 810 (by decide +kernel) (by decide +kernel)
theorem ti_mo_isHome : Cond.instanceMethod y_mo_isHome ∈ bgTs := bg_tw 809 (by decide +kernel) (by decide +kernel)
theorem ts_mo_isHome : Cond.selects "BlockGraphModel" y_mo_isHome y_mo_isHome ∈ bgTs := bg_tw 30 (by decide +kernel) (by decide +kernel)
theorem tc_mo_isNew : Cond.code y_mo_isNew co_mo_isNew 5 (some .boolean) ∈ bgTs := bg_tw 771 (by decide +kernel) (by decide +kernel)
theorem ti_mo_isNew : Cond.instanceMethod y_mo_isNew ∈ bgTs := bg_tw 770 (by decide +kernel) (by decide +kernel)
theorem ts_mo_isNew : Cond.selects "BlockGraphModel" y_mo_isNew y_mo_isNew ∈ bgTs := bg_tw 25 (by decide +kernel) (by decide +kernel)
theorem tc_mo_isVertex : Cond.code y_mo_isVertex co_mo_isVertex 1 (some .boolean) ∈ bgTs := bg_tw 786 (by decide +kernel) (by decide +kernel)
theorem tt_mo_isVertex : Cond.static y_mo_isVertex ∈ bgTs := bg_tw 785 (by decide +kernel) (by decide +kernel)
theorem tc_mo_isVisible : Cond.code y_mo_isVisible co_mo_isVisible 2 (some .boolean) ∈ bgTs := bg_tw 798 (by decide +kernel) (by decide +kernel)
theorem ti_mo_isVisible : Cond.instanceMethod y_mo_isVisible ∈ bgTs := bg_tw 797 (by decide +kernel) (by decide +kernel)
theorem ts_mo_isVisible : Cond.selects "BlockGraphModel" y_mo_isVisible y_mo_isVisible ∈ bgTs := bg_tw 28 (by decide +kernel) (by decide +kernel)
theorem tc_mo_isWritten : Cond.code y_mo_isWritten co_mo_isWritten 1 (some .boolean) ∈ bgTs := bg_tw 763 (by decide +kernel) (by decide +kernel)
theorem ti_mo_isWritten : Cond.instanceMethod y_mo_isWritten ∈ bgTs := bg_tw 762 (by decide +kernel) (by decide +kernel)
theorem ts_mo_isWritten : Cond.selects "BlockGraphModel" y_mo_isWritten y_mo_isWritten ∈ bgTs := bg_tw 23 (by decide +kernel) (by decide +kernel)
theorem tc_mo_look : Cond.code y_mo_look co_mo_look 2 none ∈ bgTs := bg_tw 830 (by decide +kernel) (by decide +kernel)
theorem ti_mo_look : Cond.instanceMethod y_mo_look ∈ bgTs := bg_tw 829 (by decide +kernel) (by decide +kernel)
theorem ts_mo_look : Cond.selects "BlockGraphModel" y_mo_look y_mo_look ∈ bgTs := bg_tw 31 (by decide +kernel) (by decide +kernel)
theorem tc_mo_recover : Cond.code y_mo_recover co_mo_recover 1 (some .int) ∈ bgTs := bg_tw 822 (by decide +kernel) (by decide +kernel)
theorem ti_mo_recover : Cond.instanceMethod y_mo_recover ∈ bgTs := bg_tw 820 (by decide +kernel) (by decide +kernel)
theorem ts_mo_recover : Cond.selects "BlockGraphModel" y_mo_recover y_mo_recover ∈ bgTs := bg_tw 821 (by decide +kernel) (by decide +kernel)
theorem tc_mo_remove : Cond.code y_mo_remove co_mo_remove 2 none ∈ bgTs := bg_tw 794 (by decide +kernel) (by decide +kernel)
theorem ti_mo_remove : Cond.instanceMethod y_mo_remove ∈ bgTs := bg_tw 792 (by decide +kernel) (by decide +kernel)
theorem ts_mo_remove : Cond.selects "BlockGraphModel" y_mo_remove y_mo_remove ∈ bgTs := bg_tw 793 (by decide +kernel) (by decide +kernel)
theorem tc_mo_room : Cond.code y_mo_room co_mo_room 2 none ∈ bgTs := bg_tw 834 (by decide +kernel) (by decide +kernel)
theorem ti_mo_room : Cond.instanceMethod y_mo_room ∈ bgTs := bg_tw 832 (by decide +kernel) (by decide +kernel)
theorem ts_mo_room : Cond.selects "BlockGraphModel" y_mo_room y_mo_room ∈ bgTs := bg_tw 833 (by decide +kernel) (by decide +kernel)
theorem tc_mo_thrown : Cond.code y_mo_thrown co_mo_thrown 1 (some .int) ∈ bgTs := bg_tw 751 (by decide +kernel) (by decide +kernel)
theorem ti_mo_thrown : Cond.instanceMethod y_mo_thrown ∈ bgTs := bg_tw 749 (by decide +kernel) (by decide +kernel)
theorem ts_mo_thrown : Cond.selects "BlockGraphModel" y_mo_thrown y_mo_thrown ∈ bgTs := bg_tw 750 (by decide +kernel) (by decide +kernel)
theorem tc_mo_untouch : Cond.code y_mo_untouch co_mo_untouch 2 none ∈ bgTs := bg_tw 759 (by decide +kernel) (by decide +kernel)
theorem ti_mo_untouch : Cond.instanceMethod y_mo_untouch ∈ bgTs := bg_tw 758 (by decide +kernel) (by decide +kernel)
theorem ts_mo_untouch : Cond.selects "BlockGraphModel" y_mo_untouch y_mo_untouch ∈ bgTs := bg_tw 22 (by decide +kernel) (by decide +kernel)
theorem tc_mo_visible : Cond.code y_mo_visible co_mo_visible 3 (some .int) ∈ bgTs := bg_tw 790 (by decide +kernel) (by decide +kernel)
theorem ti_mo_visible : Cond.instanceMethod y_mo_visible ∈ bgTs := bg_tw 789 (by decide +kernel) (by decide +kernel)
theorem ts_mo_visible : Cond.selects "BlockGraphModel" y_mo_visible y_mo_visible ∈ bgTs := bg_tw 27 (by decide +kernel) (by decide +kernel)
theorem tw_42 : (Jvm.Cond.initialized "BlockGraphModel") ∈ bgTs := bg_tw 42 (by decide +kernel) (by decide +kernel)
theorem tw_673 : (Jvm.Cond.methodLink "BlockGraphModel" (49 : Nat) ({ cls := "BlockGraphModel", name := "clear", desc := "()V" } : Jvm.MethodName)) ∈ bgTs := bg_tw 673 (by decide +kernel) (by decide +kernel)
theorem tw_677 : (Jvm.Cond.fieldLink "BlockGraphModel" (52 : Nat) "BlockGraphModel" "code" "I") ∈ bgTs := bg_tw 677 (by decide +kernel) (by decide +kernel)
theorem tw_678 : (Jvm.Cond.fieldLink "BlockGraphModel" (7 : Nat) "BlockGraphModel" "froms" "[I") ∈ bgTs := bg_tw 678 (by decide +kernel) (by decide +kernel)
theorem tw_679 : (Jvm.Cond.fieldLink "BlockGraphModel" (13 : Nat) "BlockGraphModel" "tos" "[I") ∈ bgTs := bg_tw 679 (by decide +kernel) (by decide +kernel)
theorem tw_680 : (Jvm.Cond.fieldLink "BlockGraphModel" (16 : Nat) "BlockGraphModel" "weights" "[I") ∈ bgTs := bg_tw 680 (by decide +kernel) (by decide +kernel)
theorem tw_681 : (Jvm.Cond.fieldLink "BlockGraphModel" (84 : Nat) "BlockGraphModel" "graph" "Z") ∈ bgTs := bg_tw 681 (by decide +kernel) (by decide +kernel)
theorem tw_682 : (Jvm.Cond.fieldLink "BlockGraphModel" (19 : Nat) "BlockGraphModel" "down" "Z") ∈ bgTs := bg_tw 682 (by decide +kernel) (by decide +kernel)
theorem tw_683 : (Jvm.Cond.fieldLink "BlockGraphModel" (58 : Nat) "BlockGraphModel" "open" "Z") ∈ bgTs := bg_tw 683 (by decide +kernel) (by decide +kernel)
theorem tw_684 : (Jvm.Cond.fieldLink "BlockGraphModel" (55 : Nat) "BlockGraphModel" "operations" "I") ∈ bgTs := bg_tw 684 (by decide +kernel) (by decide +kernel)
theorem tw_685 : (Jvm.Cond.fieldLink "BlockGraphModel" (23 : Nat) "BlockGraphModel" "touched" "[Z") ∈ bgTs := bg_tw 685 (by decide +kernel) (by decide +kernel)
theorem tw_686 : (Jvm.Cond.fieldLink "BlockGraphModel" (27 : Nat) "BlockGraphModel" "logged" "[Z") ∈ bgTs := bg_tw 686 (by decide +kernel) (by decide +kernel)
theorem tw_687 : (Jvm.Cond.fieldLink "BlockGraphModel" (78 : Nat) "BlockGraphModel" "full" "Z") ∈ bgTs := bg_tw 687 (by decide +kernel) (by decide +kernel)
theorem tw_688 : (Jvm.Cond.fieldLink "BlockGraphModel" (87 : Nat) "BlockGraphModel" "commits" "I") ∈ bgTs := bg_tw 688 (by decide +kernel) (by decide +kernel)
theorem tw_689 : (Jvm.Cond.fieldLink "BlockGraphModel" (90 : Nat) "BlockGraphModel" "uncounted" "I") ∈ bgTs := bg_tw 689 (by decide +kernel) (by decide +kernel)
theorem tw_690 : (Jvm.Cond.fieldLink "BlockGraphModel" (30 : Nat) "BlockGraphModel" "armed" "I") ∈ bgTs := bg_tw 690 (by decide +kernel) (by decide +kernel)
theorem tw_691 : (Jvm.Cond.fieldLink "BlockGraphModel" (61 : Nat) "BlockGraphModel" "writes" "I") ∈ bgTs := bg_tw 691 (by decide +kernel) (by decide +kernel)
theorem tw_692 : (Jvm.Cond.fieldLink "BlockGraphModel" (67 : Nat) "BlockGraphModel" "reads" "I") ∈ bgTs := bg_tw 692 (by decide +kernel) (by decide +kernel)
theorem tw_693 : (Jvm.Cond.fieldLink "BlockGraphModel" (34 : Nat) "BlockGraphModel" "hand" "[I") ∈ bgTs := bg_tw 693 (by decide +kernel) (by decide +kernel)
theorem tw_694 : (Jvm.Cond.fieldLink "BlockGraphModel" (64 : Nat) "BlockGraphModel" "hands" "I") ∈ bgTs := bg_tw 694 (by decide +kernel) (by decide +kernel)
theorem tw_695 : (Jvm.Cond.fieldLink "BlockGraphModel" (37 : Nat) "BlockGraphModel" "most" "I") ∈ bgTs := bg_tw 695 (by decide +kernel) (by decide +kernel)
theorem tw_696 : (Jvm.Cond.fieldLink "BlockGraphModel" (40 : Nat) "BlockGraphModel" "stale" "Z") ∈ bgTs := bg_tw 696 (by decide +kernel) (by decide +kernel)
theorem tw_698 : (Jvm.Cond.fieldLink "BlockGraphModel" (43 : Nat) "BlockGraphModel" "distances" "[I") ∈ bgTs := bg_tw 698 (by decide +kernel) (by decide +kernel)
theorem tw_756 : (Jvm.Cond.methodLink "BlockGraphModel" (81 : Nat) ({ cls := "BlockGraphModel", name := "untouch", desc := "()V" } : Jvm.MethodName)) ∈ bgTs := bg_tw 756 (by decide +kernel) (by decide +kernel)
theorem tw_760 : (Jvm.Cond.methodLink "BlockGraphModel" (74 : Nat) ({ cls := "BlockGraphModel", name := "isWritten", desc := "()Z" } : Jvm.MethodName)) ∈ bgTs := bg_tw 760 (by decide +kernel) (by decide +kernel)
theorem tw_764 : (Jvm.Cond.methodLink "BlockGraphModel" (93 : Nat) ({ cls := "BlockGraphModel", name := "isFormatted", desc := "()Z" } : Jvm.MethodName)) ∈ bgTs := bg_tw 764 (by decide +kernel) (by decide +kernel)
theorem tw_768 : (Jvm.Cond.methodLink "BlockGraphModel" (70 : Nat) ({ cls := "BlockGraphModel", name := "isNew", desc := "(I)Z" } : Jvm.MethodName)) ∈ bgTs := bg_tw 768 (by decide +kernel) (by decide +kernel)
theorem tw_776 : (Jvm.Cond.methodLink "BlockGraphModel" (96 : Nat) ({ cls := "BlockGraphModel", name := "isDown", desc := "()Z" } : Jvm.MethodName)) ∈ bgTs := bg_tw 776 (by decide +kernel) (by decide +kernel)
theorem tw_784 : (Jvm.Cond.methodLink "BlockGraphModel" (99 : Nat) ({ cls := "BlockGraphModel", name := "isVertex", desc := "(I)Z" } : Jvm.MethodName)) ∈ bgTs := bg_tw 784 (by decide +kernel) (by decide +kernel)
theorem tw_787 : (Jvm.Cond.methodLink "BlockGraphModel" (102 : Nat) ({ cls := "BlockGraphModel", name := "visible", desc := "()I" } : Jvm.MethodName)) ∈ bgTs := bg_tw 787 (by decide +kernel) (by decide +kernel)
theorem tw_795 : (Jvm.Cond.methodLink "BlockGraphModel" (106 : Nat) ({ cls := "BlockGraphModel", name := "isVisible", desc := "(I)Z" } : Jvm.MethodName)) ∈ bgTs := bg_tw 795 (by decide +kernel) (by decide +kernel)
theorem tw_803 : (Jvm.Cond.methodLink "BlockGraphModel" (109 : Nat) ({ cls := "BlockGraphModel", name := "copy", desc := "(II)V" } : Jvm.MethodName)) ∈ bgTs := bg_tw 803 (by decide +kernel) (by decide +kernel)
theorem tw_807 : (Jvm.Cond.methodLink "BlockGraphModel" (113 : Nat) ({ cls := "BlockGraphModel", name := "isHome", desc := "()Z" } : Jvm.MethodName)) ∈ bgTs := bg_tw 807 (by decide +kernel) (by decide +kernel)
theorem tw_827 : (Jvm.Cond.methodLink "BlockGraphModel" (116 : Nat) ({ cls := "BlockGraphModel", name := "look", desc := "(I)V" } : Jvm.MethodName)) ∈ bgTs := bg_tw 827 (by decide +kernel) (by decide +kernel)
theorem tw_843 : (Jvm.Cond.methodLink "BlockGraphModel" (123 : Nat) ({ cls := "BlockGraphModel", name := "faultOf", desc := "(I)I" } : Jvm.MethodName)) ∈ bgTs := bg_tw 843 (by decide +kernel) (by decide +kernel)
end
section
def moRt : List (Option (Int × Int) ⊕ List (Option (Int × Int))) := [.inr [some (0, 3), none, none, none, some (0, 1), some (0, 1), some (0, 1), some (0, 20), none, none, some (0, 1), none, none, none, none, none, none, some (0, 51), some (1, 50), some (0, 1), some (0, 63), none, none], .inl (some (-1, 63)), .inl (some (0, 63)), .inl (some (0, 32767)), .inl (some (0, 1)), .inl (some (0, 1)), .inl none, .inl (some (-1, 2064321)), .inl none, .inl none]
/-! the reference's side: ranges, and which places may have changed -/
def moRg (k : Nat) (i : Int) : Option (Int × Int) := match moRt[k - bgMo]? with
  | some (.inl r) => if k < bgMo then none else r
  | some (.inr l) => if k < bgMo then none else (l[i.toNat]?).join
  | none => none
def moRgOk (k : Nat) (i v : Int) : Prop := ∀ lo hi, moRg k i = some (lo, hi) → lo ≤ v ∧ v ≤ hi
def moN (w : bgW) : Prop := ∀ k i, moRgOk k i (w k i)
def bgHit (S : List (Nat × Option Int)) (k : Nat) (i : Int) : Bool := S.any (fun q => q.1 == k && (match q.2 with | none => true | some j => j == i))
def bgFr (S : List (Nat × Option Int)) (w0 w : bgW) : Prop := ∀ k i, bgHit S k i = false → w k i = w0 k i
def moRel (S : List (Nat × Option Int)) (w0 w : bgW) : Prop := moN w ∧ bgFr S w0 w
def bgSb (S' S : List (Nat × Option Int)) : Bool := S'.all (fun q => S.any (fun p => p.1 == q.1 && (p.2 == none || p.2 == q.2)))
theorem bgSb_hit {S' S : List (Nat × Option Int)} (h : bgSb S' S = true) {k : Nat} {i : Int} (hf : bgHit S k i = false) : bgHit S' k i = false := by
  cases hh : bgHit S' k i with
  | false => rfl
  | true =>
    obtain ⟨q, hq, hq2⟩ := List.any_eq_true.mp hh
    obtain ⟨p, hp, hp2⟩ := List.any_eq_true.mp (List.all_eq_true.mp h q hq)
    have : bgHit S k i = true := by
      refine List.any_eq_true.mpr ⟨p, hp, ?_⟩
      obtain ⟨pk, pi⟩ := p
      obtain ⟨qk, qi⟩ := q
      simp only [Bool.and_eq_true, beq_iff_eq, Bool.or_eq_true] at hp2 hq2 ⊢
      refine ⟨hp2.1.trans hq2.1, ?_⟩
      rcases hp2.2 with e | e
      · subst e; rfl
      · subst e; exact hq2.2
    rw [this] at hf
    cases hf
theorem moRel.rfl {S : List (Nat × Option Int)} {w : bgW} (h : moN w) : moRel S w w := ⟨h, fun _ _ _ => Eq.refl _⟩
theorem moRel.trans {S S' : List (Nat × Option Int)} {a b c : bgW} (h1 : moRel S a b) (h2 : moRel S' b c) (hs : bgSb S' S = true) : moRel S a c := ⟨h2.1, fun k i h => (h2.2 k i (bgSb_hit hs h)).trans (h1.2 k i h)⟩
theorem moRel.up {S : List (Nat × Option Int)} {w0 w : bgW} {k : Nat} {i v : Int} (h : moRel S w0 w) (hk : bgHit S k i = true) (hv : moRgOk k i v) : moRel S w0 (bgU w k i v) := by
  refine ⟨fun k' i' => ?_, fun k' i' hf => ?_⟩
  · by_cases hc : k' = k ∧ i' = i
    · obtain ⟨rfl, rfl⟩ := hc
      rw [bgU_eq]
      exact hv
    · have e : bgU w k i v k' i' = w k' i' := by
        unfold bgU
        rw [if_neg hc]
      rw [e]
      exact h.1 k' i'
  · have e : bgU w k i v k' i' = w k' i' := by
      unfold bgU
      rw [if_neg (fun q => by rw [q.1, q.2, hk] at hf; cases hf)]
    rw [e]
    exact h.2 k' i' hf
theorem moRgOk.of {k : Nat} {i v lo hi : Int} (hr : moRg k i = some (lo, hi)) (h1 : lo ≤ v) (h2 : v ≤ hi) : moRgOk k i v := by
  intro lo' hi' h
  rw [hr] at h
  cases h
  exact ⟨h1, h2⟩
theorem moRgOk.none {k : Nat} {i v : Int} (hr : moRg k i = none) : moRgOk k i v := by
  intro lo' hi' h
  rw [hr] at h
  cases h
section BGM
variable {K : bgK} {own : String} {cc : ByteArray} {nL : Nat} {rt : Option FieldType} {bb : Bool} {n z : Nat} {Q : State → Prop} {S : List (Nat × Option Int)} {w0 w : bgW} {pc pc' : Nat} {L : List (Option bgV)} {st : List bgV} {k ci idx N len : Nat} {C0 : String} {T : u_T} {ty : Nat → FieldType} {j v lo hi : Int}
theorem bm_geti (C : bgCx K own cc nL rt) (F : bgCF ci C0 T ty N) (hI : moRel S w0 w) (i : Nat) (j : Int) (hj : (i : Int) = j) (hk : bgKinds[k]? = some (.inl ci)) (hiN : i < N) (hr : bgRef k i = none) (hg : moRg k j = some (lo, hi)) (hl : Cond.fieldLink own idx C0 (T i).2.1 (T i).2.2.1 ∈ bgTs) (hd : bgd cc pc (.getfield idx) 3 pc') (kk : ∀ v, v = w k j → lo ≤ v → v ≤ hi → bgX K bb n z Q w pc' L (bi v :: st)) : bgX K bb n z Q w pc L (br k :: st) :=
  bg_geti C F hj hk hiN hr hl hd (kk _ (Eq.refl _) (hI.1 k j lo _ hg).1 (hI.1 k j lo _ hg).2)
theorem bm_puti (C : bgCx K own cc nL rt) (F : bgCF ci C0 T ty N) (hI : moRel S w0 w) (i : Nat) (j : Int) (hj : (i : Int) = j) (hk : bgKinds[k]? = some (.inl ci)) (hiN : i < N) (hr : bgRef k i = none) (hh : bgHit S k j = true) (hg : moRg k j = some (lo, hi)) (h1 : lo ≤ v) (h2 : v ≤ hi) (hfin : (T i).2.2.2 = false) (hty : ty i = .int ∨ (ty i = .boolean ∧ (v = 0 ∨ v = 1))) (hl : Cond.fieldLink own idx C0 (T i).2.1 (T i).2.2.1 ∈ bgTs) (hd : bgd cc pc (.putfield idx) 3 pc') (kk : ∀ w', moRel S w0 w' → w' = bgU w k j v → bgX K false n z Q w' pc' L st) : bgX K bb n z Q w pc L (bi v :: br k :: st) :=
  bg_puti C F hj hk hiN hr hfin hty hl hd (fun w' e => kk w' (by rw [e]; exact hI.up hh (moRgOk.of hg h1 h2)) e)
theorem bm_put0 (C : bgCx K own cc nL rt) (F : bgCF ci C0 T ty N) (hI : moRel S w0 w) (i : Nat) (j : Int) (hj : (i : Int) = j) (hk : bgKinds[k]? = some (.inl ci)) (hiN : i < N) (hr : bgRef k i = none) (hh : bgHit S k j = true) (hg : moRg k j = none) (hfin : (T i).2.2.2 = false) (hty : ty i = .int) (hl : Cond.fieldLink own idx C0 (T i).2.1 (T i).2.2.1 ∈ bgTs) (hd : bgd cc pc (.putfield idx) 3 pc') (kk : ∀ w', moRel S w0 w' → w' = bgU w k j v → bgX K false n z Q w' pc' L st) : bgX K bb n z Q w pc L (bi v :: br k :: st) :=
  bg_puti C F hj hk hiN hr hfin (Or.inl hty) hl hd (fun w' e => kk w' (by rw [e]; exact hI.up hh (moRgOk.none hg)) e)
theorem bm_iald (C : bgCx K own cc nL rt) (hI : moRel S w0 w) (hk : bgKinds[k]? = some (.inr (len, 0))) (hg : moRg k j = some (lo, hi)) (h0 : 0 ≤ j) (h1 : j < (len : Int)) (hd : bgd cc pc .iaload 1 pc') (kk : ∀ v, v = w k j → lo ≤ v → v ≤ hi → bgX K bb n z Q w pc' L (bi v :: st)) : bgX K bb n z Q w pc L (bi j :: br k :: st) :=
  bg_iald C hk h0 h1 hd (kk _ (Eq.refl _) (hI.1 k j lo _ hg).1 (hI.1 k j lo _ hg).2)
theorem bm_iast (C : bgCx K own cc nL rt) (hI : moRel S w0 w) (hk : bgKinds[k]? = some (.inr (len, 0))) (hh : bgHit S k j = true) (hg : moRg k j = some (lo, hi)) (h0 : 0 ≤ j) (h1 : j < (len : Int)) (h2 : lo ≤ v) (h3 : v ≤ hi) (hd : bgd cc pc .iastore 1 pc') (kk : ∀ w', moRel S w0 w' → w' = bgU w k j v → bgX K false n z Q w' pc' L st) : bgX K bb n z Q w pc L (bi v :: bi j :: br k :: st) :=
  bg_iast C hk h0 h1 hd (fun w' e => kk w' (by rw [e]; exact hI.up hh (moRgOk.of hg h2 h3)) e)
theorem bm_iast0 (C : bgCx K own cc nL rt) (hI : moRel S w0 w) (hk : bgKinds[k]? = some (.inr (len, 0))) (hh : bgHit S k j = true) (hg : moRg k j = none) (h0 : 0 ≤ j) (h1 : j < (len : Int)) (hd : bgd cc pc .iastore 1 pc') (kk : ∀ w', moRel S w0 w' → w' = bgU w k j v → bgX K false n z Q w' pc' L st) : bgX K bb n z Q w pc L (bi v :: bi j :: br k :: st) :=
  bg_iast C hk h0 h1 hd (fun w' e => kk w' (by rw [e]; exact hI.up hh (moRgOk.none hg)) e)
theorem bm_zald (C : bgCx K own cc nL rt) (hI : moRel S w0 w) (hk : bgKinds[k]? = some (.inr (len, 1))) (hg : moRg k j = some (lo, hi)) (h0 : 0 ≤ j) (h1 : j < (len : Int)) (hd : bgd cc pc .baload 1 pc') (kk : ∀ v, v = w k j → lo ≤ v → v ≤ hi → bgX K bb n z Q w pc' L (bi v :: st)) : bgX K bb n z Q w pc L (bi j :: br k :: st) :=
  bg_zald C hk h0 h1 hd (kk _ (Eq.refl _) (hI.1 k j lo _ hg).1 (hI.1 k j lo _ hg).2)
theorem bm_zast (C : bgCx K own cc nL rt) (hI : moRel S w0 w) (hk : bgKinds[k]? = some (.inr (len, 1))) (hh : bgHit S k j = true) (hg : moRg k j = some (lo, hi)) (h0 : 0 ≤ j) (h1 : j < (len : Int)) (h2 : lo ≤ v) (h3 : v ≤ hi) (h4 : v = 0 ∨ v = 1) (hd : bgd cc pc .bastore 1 pc') (kk : ∀ w', moRel S w0 w' → w' = bgU w k j v → bgX K false n z Q w' pc' L st) : bgX K bb n z Q w pc L (bi v :: bi j :: br k :: st) :=
  bg_zast C hk h0 h1 h4 hd (fun w' e => kk w' (by rw [e]; exact hI.up hh (moRgOk.of hg h2 h3)) e)
end BGM
theorem bgU_app (w : bgW) (k : Nat) (i v : Int) (k' : Nat) (i' : Int) : bgU w k i v k' i' = if k' = k ∧ i' = i then v else w k' i' := rfl
theorem bm_vis {w : bgW} {i x : Int} (h1 : 200 ≤ i) (h2 : i < 400) (e : x = w 28 i) (h : x = -1) : ∃ e, 0 ≤ e ∧ e < 200 ∧ w 28 (200 + e) = -1 :=
  ⟨i - 200, by omega, by omega, by rw [show 200 + (i - 200) = i by omega, ← e, h]⟩
theorem bm_copyStep {w0 w w1 w2 w' : bgW} {i a b c : Int} (to fr : Int) (h1 : 0 ≤ i) (h2 : i < 200) (hd : to - fr = 200 ∨ fr - to = 200)
    (hq : ∀ k e, (k = 28 ∨ k = 29 ∨ k = 30) → 0 ≤ e → e < 200 → (e < i → w k (to + e) = w0 k (fr + e)) ∧ w k (fr + e) = w0 k (fr + e))
    (e6 : w' = bgU w2 30 (to + i) c) (e5 : c = w2 30 (fr + i)) (e4 : w2 = bgU w1 29 (to + i) b) (e3 : b = w1 29 (fr + i)) (e2 : w1 = bgU w 28 (to + i) a) (e1 : a = w 28 (fr + i)) :
    ∀ k e, (k = 28 ∨ k = 29 ∨ k = 30) → 0 ≤ e → e < 200 → (e < i + 1 → w' k (to + e) = w0 k (fr + e)) ∧ w' k (fr + e) = w0 k (fr + e) := by
  intro k e hk h0 h3
  have h4 := hq k e hk h0 h3
  subst e6
  subst e4
  subst e2
  rw [bgU_ne _ (by decide), bgU_ne _ (by decide)] at e5
  rw [bgU_ne _ (by decide)] at e3
  refine ⟨fun h6 => ?_, ?_⟩
  · by_cases he : e = i
    · subst he
      rcases hk with rfl | rfl | rfl
      · rw [bgU_ne _ (by decide), bgU_ne _ (by decide), bgU_eq, e1]; exact h4.2
      · rw [bgU_ne _ (by decide), bgU_eq, e3]; exact h4.2
      · rw [bgU_eq, e5]; exact h4.2
    · rw [bgU_nei (by omega), bgU_nei (by omega), bgU_nei (by omega)]
      exact h4.1 (by omega)
  · rw [bgU_nei (by omega), bgU_nei (by omega), bgU_nei (by omega)]
    exact h4.2
end
section
def S_mo_thrown : List (Nat × Option Int) := []
def rm_mo_thrown : Room := { frames := 0, cells := 0, slots := 0, locals := 0 }
set_option maxRecDepth 20000 in
set_option maxHeartbeats 4000000 in
theorem m_mo_thrown {G : bgGl} (hG : bgOk G) {w0 : bgW} (hw : moN w0) : bgM G true 0 0 y_mo_thrown (.code y_mo_thrown co_mo_thrown 1 (some .int)) rm_mo_thrown [br 27] w0 (bgPi (fun v w' => w0 = w' ∧ v = w0 27 0)) := by
  refine bg_met hG (by decide +kernel) (bg_cat rfl) (Nat.le_of_ble_eq_true rfl) ?_
  intro K hK hR hex C
  subst hK
  have hI := moRel.rfl (S := S_mo_thrown) hw
  show bgX K true 0 0 _ w0 0 [some (br 27)] []
  refine bg_aload_n C d_mo_thrown_0 rfl rfl ?_
  refine bm_geti C cf_mo hI 0 0 rfl rfl (by decide) rfl rfl tw_677 d_mo_thrown_1 (fun v1 e1 a1 b1 => ?_)
  exact bg_iret C d_mo_thrown_4 (fun _ => rfl) (Or.inl rfl) (Nat.zero_le _) (Nat.zero_le _) ⟨_, rfl, rfl, by omega⟩
def S_mo_clear : List (Nat × Option Int) := [(28, none)]
def rm_mo_clear : Room := { frames := 0, cells := 0, slots := 0, locals := 0 }
set_option maxRecDepth 20000 in
set_option maxHeartbeats 4000000 in
theorem m_mo_clear {G : bgGl} (hG : bgOk G) {w0 : bgW} (hw : moN w0) : bgM G false 0 0 y_mo_clear (.code y_mo_clear co_mo_clear 2 none) rm_mo_clear [br 27] w0 (bgPv (fun w' => moRel S_mo_clear w0 w' ∧ (∀ e, 0 ≤ e → e < 400 → w' 28 e = -1))) := by
  refine bg_met hG (by decide +kernel) (bg_cat rfl) (Nat.le_of_ble_eq_true rfl) ?_
  intro K hK hR hex C
  subst hK
  have hI := moRel.rfl (S := S_mo_clear) hw
  show bgX K true 0 0 _ w0 0 [some (br 27), none] []
  refine bg_iconst C d_mo_clear_0 ?_
  refine bg_istore_n C d_mo_clear_1 rfl (Nat.le_of_ble_eq_true rfl) ?_
  refine bg_weak ?_
  refine bg_loop (α := bgW × Int) (fun a => (400 - a.2).toNat) (fun a => moRel S_mo_clear w0 a.1 ∧ 0 ≤ a.2 ∧ a.2 ≤ 400 ∧ (∀ e, 0 ≤ e → e < a.2 → a.1 28 e = -1)) (fun a => (a.1, [some (br 27), some (bi a.2)], [])) ?_ (w0, 0) ⟨hI, by (try dsimp only) <;> omega, by (try dsimp only) <;> omega, fun e h0 h1 => absurd h1 (by dsimp only; omega)⟩
  rintro ⟨w1, i1⟩ ⟨hI1, q1_0, q1_1, q1_2⟩ ih2
  try dsimp only at ih2
  try dsimp only at q1_0
  try dsimp only at q1_1
  try dsimp only at q1_2
  try dsimp only
  refine bg_iload_n C d_mo_clear_2 rfl rfl ?_
  refine bg_sipush C d_mo_clear_3 (by decide +kernel) ?_
  refine bg_icmp_ge (tgt := 22) C d_mo_clear_6 (by decide) ⟨by omega, by omega⟩ ⟨by omega, by omega⟩ (fun h2 => ?_) (fun h2 => ?_)
  · exact bg_ret C d_mo_clear_22 (fun h => by cases h) rfl (Nat.zero_le _) (Nat.zero_le _) ⟨rfl, hI1, fun e h0 h1 => q1_2 e h0 (by omega)⟩
  · refine bg_aload_n C d_mo_clear_9 rfl rfl ?_
    refine bg_getr (i := 1) C cf_mo rfl (by decide) rfl tw_678 d_mo_clear_10 ?_
    refine bg_iload_n C d_mo_clear_13 rfl rfl ?_
    refine bg_iconst C d_mo_clear_14 ?_
    refine bm_iast C hI1 rfl rfl rfl (by omega) (by omega) (by omega) (by omega) d_mo_clear_15 (fun w3 hI3 e3 => ?_)
    refine bg_iinc C d_mo_clear_16 rfl ?_
    refine bg_goto (l := 2) C d_mo_clear_19 (by decide) ?_
    exact ih2 (w3, (i1 + 1)) ⟨hI3, by (try dsimp only) <;> omega, by (try dsimp only) <;> omega, fun e h0 h1 => by dsimp only at h1 ⊢; rw [e3]; unfold bgU; split <;> first | rfl | exact q1_2 e h0 (by omega)⟩ (by (try dsimp only) <;> omega)
def S_mo_copy_home : List (Nat × Option Int) := [(28, none), (29, none), (30, none)]
def rm_mo_copy_home : Room := { frames := 0, cells := 0, slots := 0, locals := 0 }
set_option maxRecDepth 20000 in
set_option maxHeartbeats 4000000 in
theorem m_mo_copy_home {G : bgGl} (hG : bgOk G) {w0 : bgW} (hw : moN w0) : bgM G false 0 0 y_mo_copy (.code y_mo_copy co_mo_copy 4 none) rm_mo_copy_home [br 27, bi 0, bi 200] w0 (bgPv (fun w' => moRel S_mo_copy_home w0 w' ∧ (∀ k e, (k = 28 ∨ k = 29 ∨ k = 30) → 0 ≤ e → e < 200 → w' k (0 + e) = w0 k (200 + e) ∧ w' k (200 + e) = w0 k (200 + e)))) := by
  refine bg_met hG (by decide +kernel) (bg_cat rfl) (Nat.le_of_ble_eq_true rfl) ?_
  intro K hK hR hex C
  subst hK
  have hI := moRel.rfl (S := S_mo_copy_home) hw
  show bgX K true 0 0 _ w0 0 [some (br 27), some (bi 0), some (bi 200), none] []
  refine bg_iconst C d_mo_copy_0 ?_
  refine bg_istore_n C d_mo_copy_1 rfl (Nat.le_of_ble_eq_true rfl) ?_
  refine bg_weak ?_
  refine bg_loop (α := bgW × Int) (fun a => (200 - a.2).toNat) (fun a => moRel S_mo_copy_home w0 a.1 ∧ 0 ≤ a.2 ∧ a.2 ≤ 200 ∧ (∀ k e, (k = 28 ∨ k = 29 ∨ k = 30) → 0 ≤ e → e < 200 → (e < a.2 → a.1 k (0 + e) = w0 k (200 + e)) ∧ a.1 k (200 + e) = w0 k (200 + e))) (fun a => (a.1, [some (br 27), some (bi 0), some (bi 200), some (bi a.2)], [])) ?_ (w0, 0) ⟨hI, by (try dsimp only) <;> omega, by (try dsimp only) <;> omega, fun k e _ h0 h1 => ⟨fun h => absurd h (by dsimp only; omega), rfl⟩⟩
  rintro ⟨w1, i1⟩ ⟨hI1, q1_0, q1_1, q1_2⟩ ih2
  try dsimp only at ih2
  try dsimp only at q1_0
  try dsimp only at q1_1
  try dsimp only at q1_2
  try dsimp only
  refine bg_iload_n C d_mo_copy_2 rfl rfl ?_
  refine bg_sipush C d_mo_copy_3 (by decide +kernel) ?_
  refine bg_icmp_ge (tgt := 63) C d_mo_copy_6 (by decide) ⟨by omega, by omega⟩ ⟨by omega, by omega⟩ (fun h2 => ?_) (fun h2 => ?_)
  · exact bg_ret C d_mo_copy_63 (fun h => by cases h) rfl (Nat.zero_le _) (Nat.zero_le _) ⟨rfl, hI1, fun k e hk h0 h1 => ⟨(q1_2 k e hk h0 h1).1 (by omega), (q1_2 k e hk h0 h1).2⟩⟩
  · refine bg_aload_n C d_mo_copy_9 rfl rfl ?_
    refine bg_getr (i := 1) C cf_mo rfl (by decide) rfl tw_678 d_mo_copy_10 ?_
    refine bg_iload_n C d_mo_copy_13 rfl rfl ?_
    refine bg_iload_n C d_mo_copy_14 rfl rfl ?_
    refine bg_iadd C d_mo_copy_15 ?_
    refine bg_aload_n C d_mo_copy_16 rfl rfl ?_
    refine bg_getr (i := 1) C cf_mo rfl (by decide) rfl tw_678 d_mo_copy_17 ?_
    refine bg_iload_n C d_mo_copy_20 rfl rfl ?_
    refine bg_iload_n C d_mo_copy_21 rfl rfl ?_
    refine bg_iadd C d_mo_copy_22 ?_
    refine bm_iald C hI1 rfl rfl (by omega) (by omega) d_mo_copy_23 (fun v3 e3 a3 b3 => ?_)
    refine bm_iast C hI1 rfl rfl rfl (by omega) (by omega) (by omega) (by omega) d_mo_copy_24 (fun w4 hI4 e4 => ?_)
    refine bg_aload_n C d_mo_copy_25 rfl rfl ?_
    refine bg_getr (i := 2) C cf_mo rfl (by decide) rfl tw_679 d_mo_copy_26 ?_
    refine bg_iload_n C d_mo_copy_29 rfl rfl ?_
    refine bg_iload_n C d_mo_copy_30 rfl rfl ?_
    refine bg_iadd C d_mo_copy_31 ?_
    refine bg_aload_n C d_mo_copy_32 rfl rfl ?_
    refine bg_getr (i := 2) C cf_mo rfl (by decide) rfl tw_679 d_mo_copy_33 ?_
    refine bg_iload_n C d_mo_copy_36 rfl rfl ?_
    refine bg_iload_n C d_mo_copy_37 rfl rfl ?_
    refine bg_iadd C d_mo_copy_38 ?_
    refine bm_iald C hI4 rfl rfl (by omega) (by omega) d_mo_copy_39 (fun v5 e5 a5 b5 => ?_)
    refine bm_iast C hI4 rfl rfl rfl (by omega) (by omega) (by omega) (by omega) d_mo_copy_40 (fun w6 hI6 e6 => ?_)
    refine bg_aload_n C d_mo_copy_41 rfl rfl ?_
    refine bg_getr (i := 3) C cf_mo rfl (by decide) rfl tw_680 d_mo_copy_42 ?_
    refine bg_iload_n C d_mo_copy_45 rfl rfl ?_
    refine bg_iload_n C d_mo_copy_46 rfl rfl ?_
    refine bg_iadd C d_mo_copy_47 ?_
    refine bg_aload_n C d_mo_copy_48 rfl rfl ?_
    refine bg_getr (i := 3) C cf_mo rfl (by decide) rfl tw_680 d_mo_copy_49 ?_
    refine bg_iload_n C d_mo_copy_52 rfl rfl ?_
    refine bg_iload_n C d_mo_copy_53 rfl rfl ?_
    refine bg_iadd C d_mo_copy_54 ?_
    refine bm_iald C hI6 rfl rfl (by omega) (by omega) d_mo_copy_55 (fun v7 e7 a7 b7 => ?_)
    refine bm_iast C hI6 rfl rfl rfl (by omega) (by omega) (by omega) (by omega) d_mo_copy_56 (fun w8 hI8 e8 => ?_)
    refine bg_iinc C d_mo_copy_57 rfl ?_
    refine bg_goto (l := 2) C d_mo_copy_60 (by decide) ?_
    exact ih2 (w8, (i1 + 1)) ⟨hI8, by (try dsimp only) <;> omega, by (try dsimp only) <;> omega, bm_copyStep 0 200 (by omega) (by omega) (by omega) q1_2 (by assumption) (by assumption) (by assumption) (by assumption) (by assumption) (by assumption)⟩ (by (try dsimp only) <;> omega)
def S_mo_copy_vis : List (Nat × Option Int) := [(28, none), (29, none), (30, none)]
def rm_mo_copy_vis : Room := { frames := 0, cells := 0, slots := 0, locals := 0 }
set_option maxRecDepth 20000 in
set_option maxHeartbeats 4000000 in
theorem m_mo_copy_vis {G : bgGl} (hG : bgOk G) {w0 : bgW} (hw : moN w0) : bgM G false 0 0 y_mo_copy (.code y_mo_copy co_mo_copy 4 none) rm_mo_copy_vis [br 27, bi 200, bi 0] w0 (bgPv (fun w' => moRel S_mo_copy_vis w0 w' ∧ (∀ k e, (k = 28 ∨ k = 29 ∨ k = 30) → 0 ≤ e → e < 200 → w' k (200 + e) = w0 k (0 + e) ∧ w' k (0 + e) = w0 k (0 + e)))) := by
  refine bg_met hG (by decide +kernel) (bg_cat rfl) (Nat.le_of_ble_eq_true rfl) ?_
  intro K hK hR hex C
  subst hK
  have hI := moRel.rfl (S := S_mo_copy_vis) hw
  show bgX K true 0 0 _ w0 0 [some (br 27), some (bi 200), some (bi 0), none] []
  refine bg_iconst C d_mo_copy_0 ?_
  refine bg_istore_n C d_mo_copy_1 rfl (Nat.le_of_ble_eq_true rfl) ?_
  refine bg_weak ?_
  refine bg_loop (α := bgW × Int) (fun a => (200 - a.2).toNat) (fun a => moRel S_mo_copy_vis w0 a.1 ∧ 0 ≤ a.2 ∧ a.2 ≤ 200 ∧ (∀ k e, (k = 28 ∨ k = 29 ∨ k = 30) → 0 ≤ e → e < 200 → (e < a.2 → a.1 k (200 + e) = w0 k (0 + e)) ∧ a.1 k (0 + e) = w0 k (0 + e))) (fun a => (a.1, [some (br 27), some (bi 200), some (bi 0), some (bi a.2)], [])) ?_ (w0, 0) ⟨hI, by (try dsimp only) <;> omega, by (try dsimp only) <;> omega, fun k e _ h0 h1 => ⟨fun h => absurd h (by dsimp only; omega), rfl⟩⟩
  rintro ⟨w1, i1⟩ ⟨hI1, q1_0, q1_1, q1_2⟩ ih2
  try dsimp only at ih2
  try dsimp only at q1_0
  try dsimp only at q1_1
  try dsimp only at q1_2
  try dsimp only
  refine bg_iload_n C d_mo_copy_2 rfl rfl ?_
  refine bg_sipush C d_mo_copy_3 (by decide +kernel) ?_
  refine bg_icmp_ge (tgt := 63) C d_mo_copy_6 (by decide) ⟨by omega, by omega⟩ ⟨by omega, by omega⟩ (fun h2 => ?_) (fun h2 => ?_)
  · exact bg_ret C d_mo_copy_63 (fun h => by cases h) rfl (Nat.zero_le _) (Nat.zero_le _) ⟨rfl, hI1, fun k e hk h0 h1 => ⟨(q1_2 k e hk h0 h1).1 (by omega), (q1_2 k e hk h0 h1).2⟩⟩
  · refine bg_aload_n C d_mo_copy_9 rfl rfl ?_
    refine bg_getr (i := 1) C cf_mo rfl (by decide) rfl tw_678 d_mo_copy_10 ?_
    refine bg_iload_n C d_mo_copy_13 rfl rfl ?_
    refine bg_iload_n C d_mo_copy_14 rfl rfl ?_
    refine bg_iadd C d_mo_copy_15 ?_
    refine bg_aload_n C d_mo_copy_16 rfl rfl ?_
    refine bg_getr (i := 1) C cf_mo rfl (by decide) rfl tw_678 d_mo_copy_17 ?_
    refine bg_iload_n C d_mo_copy_20 rfl rfl ?_
    refine bg_iload_n C d_mo_copy_21 rfl rfl ?_
    refine bg_iadd C d_mo_copy_22 ?_
    refine bm_iald C hI1 rfl rfl (by omega) (by omega) d_mo_copy_23 (fun v3 e3 a3 b3 => ?_)
    refine bm_iast C hI1 rfl rfl rfl (by omega) (by omega) (by omega) (by omega) d_mo_copy_24 (fun w4 hI4 e4 => ?_)
    refine bg_aload_n C d_mo_copy_25 rfl rfl ?_
    refine bg_getr (i := 2) C cf_mo rfl (by decide) rfl tw_679 d_mo_copy_26 ?_
    refine bg_iload_n C d_mo_copy_29 rfl rfl ?_
    refine bg_iload_n C d_mo_copy_30 rfl rfl ?_
    refine bg_iadd C d_mo_copy_31 ?_
    refine bg_aload_n C d_mo_copy_32 rfl rfl ?_
    refine bg_getr (i := 2) C cf_mo rfl (by decide) rfl tw_679 d_mo_copy_33 ?_
    refine bg_iload_n C d_mo_copy_36 rfl rfl ?_
    refine bg_iload_n C d_mo_copy_37 rfl rfl ?_
    refine bg_iadd C d_mo_copy_38 ?_
    refine bm_iald C hI4 rfl rfl (by omega) (by omega) d_mo_copy_39 (fun v5 e5 a5 b5 => ?_)
    refine bm_iast C hI4 rfl rfl rfl (by omega) (by omega) (by omega) (by omega) d_mo_copy_40 (fun w6 hI6 e6 => ?_)
    refine bg_aload_n C d_mo_copy_41 rfl rfl ?_
    refine bg_getr (i := 3) C cf_mo rfl (by decide) rfl tw_680 d_mo_copy_42 ?_
    refine bg_iload_n C d_mo_copy_45 rfl rfl ?_
    refine bg_iload_n C d_mo_copy_46 rfl rfl ?_
    refine bg_iadd C d_mo_copy_47 ?_
    refine bg_aload_n C d_mo_copy_48 rfl rfl ?_
    refine bg_getr (i := 3) C cf_mo rfl (by decide) rfl tw_680 d_mo_copy_49 ?_
    refine bg_iload_n C d_mo_copy_52 rfl rfl ?_
    refine bg_iload_n C d_mo_copy_53 rfl rfl ?_
    refine bg_iadd C d_mo_copy_54 ?_
    refine bm_iald C hI6 rfl rfl (by omega) (by omega) d_mo_copy_55 (fun v7 e7 a7 b7 => ?_)
    refine bm_iast C hI6 rfl rfl rfl (by omega) (by omega) (by omega) (by omega) d_mo_copy_56 (fun w8 hI8 e8 => ?_)
    refine bg_iinc C d_mo_copy_57 rfl ?_
    refine bg_goto (l := 2) C d_mo_copy_60 (by decide) ?_
    exact ih2 (w8, (i1 + 1)) ⟨hI8, by (try dsimp only) <;> omega, by (try dsimp only) <;> omega, bm_copyStep 200 0 (by omega) (by omega) (by omega) q1_2 (by assumption) (by assumption) (by assumption) (by assumption) (by assumption) (by assumption)⟩ (by (try dsimp only) <;> omega)
def S_mo_untouch : List (Nat × Option Int) := [(31, none), (27, some 7)]
def rm_mo_untouch : Room := { frames := 0, cells := 0, slots := 0, locals := 0 }
set_option maxRecDepth 20000 in
set_option maxHeartbeats 4000000 in
theorem m_mo_untouch {G : bgGl} (hG : bgOk G) {w0 : bgW} (hw : moN w0) : bgM G false 0 0 y_mo_untouch (.code y_mo_untouch co_mo_untouch 2 none) rm_mo_untouch [br 27] w0 (bgPv (fun w' => moRel S_mo_untouch w0 w' ∧ w' 27 7 = 0)) := by
  refine bg_met hG (by decide +kernel) (bg_cat rfl) (Nat.le_of_ble_eq_true rfl) ?_
  intro K hK hR hex C
  subst hK
  have hI := moRel.rfl (S := S_mo_untouch) hw
  show bgX K true 0 0 _ w0 0 [some (br 27), none] []
  refine bg_iconst C d_mo_untouch_0 ?_
  refine bg_istore_n C d_mo_untouch_1 rfl (Nat.le_of_ble_eq_true rfl) ?_
  refine bg_weak ?_
  refine bg_loop (α := bgW × Int) (fun a => (50 - a.2).toNat) (fun a => moRel S_mo_untouch w0 a.1 ∧ 0 ≤ a.2 ∧ a.2 ≤ 50 ∧ a.1 27 7 = w0 27 7) (fun a => (a.1, [some (br 27), some (bi a.2)], [])) ?_ (w0, 0) ⟨hI, by (try dsimp only) <;> omega, by (try dsimp only) <;> omega, by (try dsimp only) <;> omega⟩
  rintro ⟨w1, i1⟩ ⟨hI1, q1_0, q1_1, q1_2⟩ ih2
  try dsimp only at ih2
  try dsimp only at q1_0
  try dsimp only at q1_1
  try dsimp only at q1_2
  try dsimp only
  refine bg_iload_n C d_mo_untouch_2 rfl rfl ?_
  refine bg_bipush C d_mo_untouch_3 (by decide +kernel) ?_
  refine bg_icmp_ge (tgt := 21) C d_mo_untouch_5 (by decide) ⟨by omega, by omega⟩ ⟨by omega, by omega⟩ (fun h2 => ?_) (fun h2 => ?_)
  · refine bg_aload_n C d_mo_untouch_21 rfl rfl ?_
    refine bg_iconst C d_mo_untouch_22 ?_
    refine bm_puti C cf_mo hI1 7 7 rfl rfl (by decide) rfl rfl rfl (by omega) (by omega) rfl (Or.inl rfl) tw_684 d_mo_untouch_23 (fun w3 hI3 e3 => ?_)
    have g3_0 : w3 27 7 = 0 := by rw [e3]; exact bgU_eq
    exact bg_ret C d_mo_untouch_26 (fun h => by cases h) rfl (Nat.zero_le _) (Nat.zero_le _) ⟨rfl, hI3, by omega⟩
  · refine bg_aload_n C d_mo_untouch_8 rfl rfl ?_
    refine bg_getr (i := 8) C cf_mo rfl (by decide) rfl tw_685 d_mo_untouch_9 ?_
    refine bg_iload_n C d_mo_untouch_12 rfl rfl ?_
    refine bg_iconst C d_mo_untouch_13 ?_
    refine bm_zast C hI1 rfl rfl rfl (by omega) (by omega) (by omega) (by omega) (by omega) d_mo_untouch_14 (fun w4 hI4 e4 => ?_)
    have g4_0 : w4 27 7 = w1 27 7 := by rw [e4]; exact bgU_ne _ (by decide)
    refine bg_iinc C d_mo_untouch_15 rfl ?_
    refine bg_goto (l := 2) C d_mo_untouch_18 (by decide) ?_
    exact ih2 (w4, (i1 + 1)) ⟨hI4, by (try dsimp only) <;> omega, by (try dsimp only) <;> omega, by (try dsimp only) <;> omega⟩ (by (try dsimp only) <;> omega)
def S_mo_isWritten : List (Nat × Option Int) := [(27, some 13), (27, some 5), (27, some 6), (27, some 14)]
def rm_mo_isWritten : Room := { frames := 0, cells := 0, slots := 0, locals := 0 }
set_option maxRecDepth 20000 in
set_option maxHeartbeats 4000000 in
theorem m_mo_isWritten {G : bgGl} (hG : bgOk G) {w0 : bgW} (hw : moN w0) : bgM G false 0 0 y_mo_isWritten (.code y_mo_isWritten co_mo_isWritten 1 (some .boolean)) rm_mo_isWritten [br 27] w0 (bgPi (fun v w' => moRel S_mo_isWritten w0 w' ∧ 0 ≤ v ∧ v ≤ 1 ∧ (v = 0 → w' 27 5 = 1) ∧ (v = 1 → w' 27 5 = w0 27 5) ∧ (v = 1 → w' 27 6 = w0 27 6))) := by
  refine bg_met hG (by decide +kernel) (bg_cat rfl) (Nat.le_of_ble_eq_true rfl) ?_
  intro K hK hR hex C
  subst hK
  have hI := moRel.rfl (S := S_mo_isWritten) hw
  show bgX K true 0 0 _ w0 0 [some (br 27)] []
  refine bg_aload_n C d_mo_isWritten_0 rfl rfl ?_
  refine bq_get0 C cf_mo 13 13 rfl rfl (by decide) rfl tw_690 d_mo_isWritten_1 (fun v1 e1 => ?_)
  refine bg_if_ne0 (tgt := 24) C d_mo_isWritten_4 (by decide) ?_ ?_
  · refine bg_aload_n C d_mo_isWritten_24 rfl rfl ?_
    refine bg_aload_n C d_mo_isWritten_25 rfl rfl ?_
    refine bq_get0 C cf_mo 13 13 rfl rfl (by decide) rfl tw_690 d_mo_isWritten_26 (fun v3 e3 => ?_)
    refine bg_if_le0 (tgt := 41) C d_mo_isWritten_29 (by decide) ?_ ?_
    · refine bg_aload_n C d_mo_isWritten_41 rfl rfl ?_
      refine bq_get0 C cf_mo 13 13 rfl rfl (by decide) rfl tw_690 d_mo_isWritten_42 (fun v5 e5 => ?_)
      refine bm_put0 C cf_mo hI 13 13 rfl rfl (by decide) rfl rfl rfl rfl rfl tw_690 d_mo_isWritten_45 (fun w6 hI6 e6 => ?_)
      have g6_0 : w6 27 5 = w0 27 5 := by rw [e6]; exact bgU_nei (by decide)
      have g6_1 : w6 27 6 = w0 27 6 := by rw [e6]; exact bgU_nei (by decide)
      refine bg_aload_n C d_mo_isWritten_48 rfl rfl ?_
      refine bg_dup C d_mo_isWritten_49 rfl ?_
      refine bq_get0 C cf_mo 14 14 rfl rfl (by decide) rfl tw_691 d_mo_isWritten_50 (fun v7 e7 => ?_)
      refine bg_iconst C d_mo_isWritten_53 ?_
      refine bg_iadd C d_mo_isWritten_54 ?_
      refine bm_put0 C cf_mo hI6 14 14 rfl rfl (by decide) rfl rfl rfl rfl rfl tw_691 d_mo_isWritten_55 (fun w8 hI8 e8 => ?_)
      have g8_0 : w8 27 5 = w6 27 5 := by rw [e8]; exact bgU_nei (by decide)
      have g8_1 : w8 27 6 = w6 27 6 := by rw [e8]; exact bgU_nei (by decide)
      refine bg_iconst C d_mo_isWritten_58 ?_
      exact bg_iret C d_mo_isWritten_59 (fun h => by cases h) (Or.inr ⟨rfl, by omega⟩) (Nat.zero_le _) (Nat.zero_le _) ⟨_, rfl, hI8, by omega, by omega, by omega, by omega, by omega⟩
    · refine bg_aload_n C d_mo_isWritten_32 rfl rfl ?_
      refine bq_get0 C cf_mo 13 13 rfl rfl (by decide) rfl tw_690 d_mo_isWritten_33 (fun v9 e9 => ?_)
      refine bg_iconst C d_mo_isWritten_36 ?_
      refine bg_isub C d_mo_isWritten_37 ?_
      refine bg_goto (l := 45) C d_mo_isWritten_38 (by decide) ?_
      refine bm_put0 C cf_mo hI 13 13 rfl rfl (by decide) rfl rfl rfl rfl rfl tw_690 d_mo_isWritten_45 (fun w10 hI10 e10 => ?_)
      have g10_0 : w10 27 5 = w0 27 5 := by rw [e10]; exact bgU_nei (by decide)
      have g10_1 : w10 27 6 = w0 27 6 := by rw [e10]; exact bgU_nei (by decide)
      refine bg_aload_n C d_mo_isWritten_48 rfl rfl ?_
      refine bg_dup C d_mo_isWritten_49 rfl ?_
      refine bq_get0 C cf_mo 14 14 rfl rfl (by decide) rfl tw_691 d_mo_isWritten_50 (fun v11 e11 => ?_)
      refine bg_iconst C d_mo_isWritten_53 ?_
      refine bg_iadd C d_mo_isWritten_54 ?_
      refine bm_put0 C cf_mo hI10 14 14 rfl rfl (by decide) rfl rfl rfl rfl rfl tw_691 d_mo_isWritten_55 (fun w12 hI12 e12 => ?_)
      have g12_0 : w12 27 5 = w10 27 5 := by rw [e12]; exact bgU_nei (by decide)
      have g12_1 : w12 27 6 = w10 27 6 := by rw [e12]; exact bgU_nei (by decide)
      refine bg_iconst C d_mo_isWritten_58 ?_
      exact bg_iret C d_mo_isWritten_59 (fun h => by cases h) (Or.inr ⟨rfl, by omega⟩) (Nat.zero_le _) (Nat.zero_le _) ⟨_, rfl, hI12, by omega, by omega, by omega, by omega, by omega⟩
  · refine bg_aload_n C d_mo_isWritten_7 rfl rfl ?_
    refine bg_iconst C d_mo_isWritten_8 ?_
    refine bm_put0 C cf_mo hI 13 13 rfl rfl (by decide) rfl rfl rfl rfl rfl tw_690 d_mo_isWritten_9 (fun w13 hI13 e13 => ?_)
    have g13_0 : w13 27 5 = w0 27 5 := by rw [e13]; exact bgU_nei (by decide)
    have g13_1 : w13 27 6 = w0 27 6 := by rw [e13]; exact bgU_nei (by decide)
    refine bg_aload_n C d_mo_isWritten_12 rfl rfl ?_
    refine bg_iconst C d_mo_isWritten_13 ?_
    refine bm_puti C cf_mo hI13 5 5 rfl rfl (by decide) rfl rfl rfl (by omega) (by omega) rfl (Or.inr ⟨rfl, by omega⟩) tw_682 d_mo_isWritten_14 (fun w14 hI14 e14 => ?_)
    have g14_0 : w14 27 5 = 1 := by rw [e14]; exact bgU_eq
    have g14_1 : w14 27 6 = w13 27 6 := by rw [e14]; exact bgU_nei (by decide)
    refine bg_aload_n C d_mo_isWritten_17 rfl rfl ?_
    refine bg_iconst C d_mo_isWritten_18 ?_
    refine bm_puti C cf_mo hI14 6 6 rfl rfl (by decide) rfl rfl rfl (by omega) (by omega) rfl (Or.inr ⟨rfl, by omega⟩) tw_683 d_mo_isWritten_19 (fun w15 hI15 e15 => ?_)
    have g15_0 : w15 27 5 = w14 27 5 := by rw [e15]; exact bgU_nei (by decide)
    have g15_1 : w15 27 6 = 0 := by rw [e15]; exact bgU_eq
    refine bg_iconst C d_mo_isWritten_22 ?_
    exact bg_iret C d_mo_isWritten_23 (fun h => by cases h) (Or.inr ⟨rfl, by omega⟩) (Nat.zero_le _) (Nat.zero_le _) ⟨_, rfl, hI15, by omega, by omega, by omega, by omega, by omega⟩
def S_mo_isNew : List (Nat × Option Int) := [(33, none), (27, some 17)]
def rm_mo_isNew : Room := { frames := 0, cells := 0, slots := 0, locals := 0 }
set_option maxRecDepth 20000 in
set_option maxHeartbeats 4000000 in
theorem m_mo_isNew {G : bgGl} (hG : bgOk G) {w0 : bgW} (hw : moN w0) {b : Int} (z0 : w0 27 17 ≤ 50) : bgM G false 0 0 y_mo_isNew (.code y_mo_isNew co_mo_isNew 5 (some .boolean)) rm_mo_isNew [br 27, bi b] w0 (bgPi (fun v w' => moRel S_mo_isNew w0 w' ∧ 0 ≤ v ∧ v ≤ 1 ∧ w' 27 17 ≤ 50)) := by
  refine bg_met hG (by decide +kernel) (bg_cat rfl) (Nat.le_of_ble_eq_true rfl) ?_
  intro K hK hR hex C
  subst hK
  have hI := moRel.rfl (S := S_mo_isNew) hw
  show bgX K true 0 0 _ w0 0 [some (br 27), some (bi b), none, none, none] []
  have hs := hw 27 17 0 51 rfl
  refine bg_iconst C d_mo_isNew_0 ?_
  refine bg_istore_n C d_mo_isNew_1 rfl (Nat.le_of_ble_eq_true rfl) ?_
  refine bg_loop (α := Int) (fun a => (50 - a).toNat) (fun a => 0 ≤ a ∧ a ≤ 50 ∧ a ≤ w0 27 17) (fun a => (w0, [some (br 27), some (bi b), some (bi a), none, none], [])) ?_ 0 ⟨by (try dsimp only) <;> omega, by (try dsimp only) <;> omega, by (try dsimp only) <;> omega⟩
  rintro i1 ⟨q1_0, q1_1, q1_2⟩ ih2
  try dsimp only at ih2
  try dsimp only at q1_0
  try dsimp only at q1_1
  try dsimp only at q1_2
  try dsimp only
  refine bg_iload_n C d_mo_isNew_2 rfl rfl ?_
  refine bg_aload_n C d_mo_isNew_3 rfl rfl ?_
  refine bm_geti C cf_mo hI 17 17 rfl rfl (by decide) rfl rfl tw_694 d_mo_isNew_4 (fun v2 e2 a2 b2 => ?_)
  refine bg_icmp_ge (tgt := 26) C d_mo_isNew_7 (by decide) ⟨by omega, by omega⟩ ⟨by omega, by omega⟩ (fun h3 => ?_) (fun h3 => ?_)
  · refine bg_iload_n C d_mo_isNew_26 rfl rfl ?_
    refine bg_aload_n C d_mo_isNew_27 rfl rfl ?_
    refine bm_geti C cf_mo hI 17 17 rfl rfl (by decide) rfl rfl tw_694 d_mo_isNew_28 (fun v4 e4 a4 b4 => ?_)
    refine bg_icmp_ne (tgt := 38) C d_mo_isNew_31 (by decide) ⟨by omega, by omega⟩ ⟨by omega, by omega⟩ (fun h5 => ?_) (fun h5 => ?_)
    · refine bg_iconst C d_mo_isNew_38 ?_
      refine bg_istore_n C d_mo_isNew_39 rfl (Nat.le_of_ble_eq_true rfl) ?_
      refine bg_aload_n C d_mo_isNew_40 rfl rfl ?_
      refine bg_dup C d_mo_isNew_41 rfl ?_
      refine bm_geti C cf_mo hI 17 17 rfl rfl (by decide) rfl rfl tw_694 d_mo_isNew_42 (fun v6 e6 a6 b6 => ?_)
      refine bg_iload_n C d_mo_isNew_45 rfl rfl ?_
      refine bg_if_eq (tgt := 53) C d_mo_isNew_46 (by decide) ⟨by omega, by omega⟩ (fun h7 => ?_) (fun h7 => by exfalso; omega)
      refine bg_iconst C d_mo_isNew_53 ?_
      refine bg_iadd C d_mo_isNew_54 ?_
      refine bm_puti C cf_mo hI 17 17 rfl rfl (by decide) rfl rfl rfl (by omega) (by omega) rfl (Or.inl rfl) tw_694 d_mo_isNew_55 (fun w8 hI8 e8 => ?_)
      have g8_0 : w8 27 17 = (v6 + 0) := by rw [e8]; exact bgU_eq
      refine bg_iload_n C d_mo_isNew_58 rfl rfl ?_
      refine bg_istore C d_mo_isNew_59 (Nat.le_of_ble_eq_true rfl) ?_
      refine bg_loop (α := bgW × Int) (fun a => (a.2).toNat) (fun a => moRel S_mo_isNew w0 a.1 ∧ 0 ≤ a.2 ∧ a.2 ≤ 50 ∧ a.1 27 17 = w8 27 17) (fun a => (a.1, [some (br 27), some (bi b), some (bi i1), some (bi 0), some (bi a.2)], [])) ?_ (w8, i1) ⟨hI8, by (try dsimp only) <;> omega, by (try dsimp only) <;> omega, by (try dsimp only) <;> omega⟩
      rintro ⟨w9, k9⟩ ⟨hI9, q9_0, q9_1, q9_2⟩ ih61
      try dsimp only at ih61
      try dsimp only at q9_0
      try dsimp only at q9_1
      try dsimp only at q9_2
      try dsimp only
      refine bg_iload C d_mo_isNew_61 rfl ?_
      refine bg_if_le (tgt := 88) C d_mo_isNew_63 (by decide) ⟨by omega, by omega⟩ (fun h10 => ?_) (fun h10 => ?_)
      · refine bg_aload_n C d_mo_isNew_88 rfl rfl ?_
        refine bg_getr (i := 16) C cf_mo rfl (by decide) rfl tw_693 d_mo_isNew_89 ?_
        refine bg_iconst C d_mo_isNew_92 ?_
        refine bg_iload_n C d_mo_isNew_93 rfl rfl ?_
        refine bm_iast0 C hI9 rfl rfl rfl (by omega) (by omega) d_mo_isNew_94 (fun w11 hI11 e11 => ?_)
        have g11_0 : w11 27 17 = w9 27 17 := by rw [e11]; exact bgU_ne _ (by decide)
        refine bg_aload_n C d_mo_isNew_95 rfl rfl ?_
        refine bg_aload_n C d_mo_isNew_96 rfl rfl ?_
        refine bm_geti C cf_mo hI11 17 17 rfl rfl (by decide) rfl rfl tw_694 d_mo_isNew_97 (fun v12 e12 a12 b12 => ?_)
        refine bg_aload_n C d_mo_isNew_100 rfl rfl ?_
        refine bm_geti C cf_mo hI11 18 18 rfl rfl (by decide) rfl rfl tw_695 d_mo_isNew_101 (fun v13 e13 a13 b13 => ?_)
        refine bg_icmp_le (tgt := 114) C d_mo_isNew_104 (by decide) ⟨by omega, by omega⟩ ⟨by omega, by omega⟩ (fun h14 => ?_) (fun h14 => ?_)
        · refine bg_aload_n C d_mo_isNew_114 rfl rfl ?_
          refine bm_geti C cf_mo hI11 17 17 rfl rfl (by decide) rfl rfl tw_694 d_mo_isNew_115 (fun v15 e15 a15 b15 => ?_)
          refine bm_puti C cf_mo hI11 17 17 rfl rfl (by decide) rfl rfl rfl (by omega) (by omega) rfl (Or.inl rfl) tw_694 d_mo_isNew_118 (fun w16 hI16 e16 => ?_)
          have g16_0 : w16 27 17 = v15 := by rw [e16]; exact bgU_eq
          refine bg_iload_n C d_mo_isNew_121 rfl rfl ?_
          exact bg_iret C d_mo_isNew_122 (fun h => by cases h) (Or.inr ⟨rfl, by omega⟩) (Nat.zero_le _) (Nat.zero_le _) ⟨_, rfl, hI16, by omega, by omega, by omega⟩
        · refine bg_aload_n C d_mo_isNew_107 rfl rfl ?_
          refine bm_geti C cf_mo hI11 18 18 rfl rfl (by decide) rfl rfl tw_695 d_mo_isNew_108 (fun v17 e17 a17 b17 => ?_)
          refine bg_goto (l := 118) C d_mo_isNew_111 (by decide) ?_
          refine bm_puti C cf_mo hI11 17 17 rfl rfl (by decide) rfl rfl rfl (by omega) (by omega) rfl (Or.inl rfl) tw_694 d_mo_isNew_118 (fun w18 hI18 e18 => ?_)
          have g18_0 : w18 27 17 = v17 := by rw [e18]; exact bgU_eq
          refine bg_iload_n C d_mo_isNew_121 rfl rfl ?_
          exact bg_iret C d_mo_isNew_122 (fun h => by cases h) (Or.inr ⟨rfl, by omega⟩) (Nat.zero_le _) (Nat.zero_le _) ⟨_, rfl, hI18, by omega, by omega, by omega⟩
      · refine bg_aload_n C d_mo_isNew_66 rfl rfl ?_
        refine bg_getr (i := 16) C cf_mo rfl (by decide) rfl tw_693 d_mo_isNew_67 ?_
        refine bg_iload C d_mo_isNew_70 rfl ?_
        refine bg_aload_n C d_mo_isNew_72 rfl rfl ?_
        refine bg_getr (i := 16) C cf_mo rfl (by decide) rfl tw_693 d_mo_isNew_73 ?_
        refine bg_iload C d_mo_isNew_76 rfl ?_
        refine bg_iconst C d_mo_isNew_78 ?_
        refine bg_isub C d_mo_isNew_79 ?_
        refine bq_iald0 C rfl (by omega) (by omega) d_mo_isNew_80 (fun v19 e19 => ?_)
        refine bm_iast0 C hI9 rfl rfl rfl (by omega) (by omega) d_mo_isNew_81 (fun w20 hI20 e20 => ?_)
        have g20_0 : w20 27 17 = w9 27 17 := by rw [e20]; exact bgU_ne _ (by decide)
        refine bg_iinc C d_mo_isNew_82 rfl ?_
        refine bg_goto (l := 61) C d_mo_isNew_85 (by decide) ?_
        exact ih61 (w20, (k9 + -1)) ⟨hI20, by (try dsimp only) <;> omega, by (try dsimp only) <;> omega, by (try dsimp only) <;> omega⟩ (by (try dsimp only) <;> omega)
    · refine bg_iconst C d_mo_isNew_34 ?_
      refine bg_goto (l := 39) C d_mo_isNew_35 (by decide) ?_
      refine bg_istore_n C d_mo_isNew_39 rfl (Nat.le_of_ble_eq_true rfl) ?_
      refine bg_aload_n C d_mo_isNew_40 rfl rfl ?_
      refine bg_dup C d_mo_isNew_41 rfl ?_
      refine bm_geti C cf_mo hI 17 17 rfl rfl (by decide) rfl rfl tw_694 d_mo_isNew_42 (fun v21 e21 a21 b21 => ?_)
      refine bg_iload_n C d_mo_isNew_45 rfl rfl ?_
      refine bg_if_eq (tgt := 53) C d_mo_isNew_46 (by decide) ⟨by omega, by omega⟩ (fun h22 => by exfalso; omega) (fun h22 => ?_)
      refine bg_iconst C d_mo_isNew_49 ?_
      refine bg_goto (l := 54) C d_mo_isNew_50 (by decide) ?_
      refine bg_iadd C d_mo_isNew_54 ?_
      refine bm_puti C cf_mo hI 17 17 rfl rfl (by decide) rfl rfl rfl (by omega) (by omega) rfl (Or.inl rfl) tw_694 d_mo_isNew_55 (fun w23 hI23 e23 => ?_)
      have g23_0 : w23 27 17 = (v21 + 1) := by rw [e23]; exact bgU_eq
      refine bg_iload_n C d_mo_isNew_58 rfl rfl ?_
      refine bg_istore C d_mo_isNew_59 (Nat.le_of_ble_eq_true rfl) ?_
      refine bg_loop (α := bgW × Int) (fun a => (a.2).toNat) (fun a => moRel S_mo_isNew w0 a.1 ∧ 0 ≤ a.2 ∧ a.2 ≤ 50 ∧ a.1 27 17 = w23 27 17) (fun a => (a.1, [some (br 27), some (bi b), some (bi i1), some (bi 1), some (bi a.2)], [])) ?_ (w23, i1) ⟨hI23, by (try dsimp only) <;> omega, by (try dsimp only) <;> omega, by (try dsimp only) <;> omega⟩
      rintro ⟨w24, k24⟩ ⟨hI24, q24_0, q24_1, q24_2⟩ ih61
      try dsimp only at ih61
      try dsimp only at q24_0
      try dsimp only at q24_1
      try dsimp only at q24_2
      try dsimp only
      refine bg_iload C d_mo_isNew_61 rfl ?_
      refine bg_if_le (tgt := 88) C d_mo_isNew_63 (by decide) ⟨by omega, by omega⟩ (fun h25 => ?_) (fun h25 => ?_)
      · refine bg_aload_n C d_mo_isNew_88 rfl rfl ?_
        refine bg_getr (i := 16) C cf_mo rfl (by decide) rfl tw_693 d_mo_isNew_89 ?_
        refine bg_iconst C d_mo_isNew_92 ?_
        refine bg_iload_n C d_mo_isNew_93 rfl rfl ?_
        refine bm_iast0 C hI24 rfl rfl rfl (by omega) (by omega) d_mo_isNew_94 (fun w26 hI26 e26 => ?_)
        have g26_0 : w26 27 17 = w24 27 17 := by rw [e26]; exact bgU_ne _ (by decide)
        refine bg_aload_n C d_mo_isNew_95 rfl rfl ?_
        refine bg_aload_n C d_mo_isNew_96 rfl rfl ?_
        refine bm_geti C cf_mo hI26 17 17 rfl rfl (by decide) rfl rfl tw_694 d_mo_isNew_97 (fun v27 e27 a27 b27 => ?_)
        refine bg_aload_n C d_mo_isNew_100 rfl rfl ?_
        refine bm_geti C cf_mo hI26 18 18 rfl rfl (by decide) rfl rfl tw_695 d_mo_isNew_101 (fun v28 e28 a28 b28 => ?_)
        refine bg_icmp_le (tgt := 114) C d_mo_isNew_104 (by decide) ⟨by omega, by omega⟩ ⟨by omega, by omega⟩ (fun h29 => ?_) (fun h29 => ?_)
        · refine bg_aload_n C d_mo_isNew_114 rfl rfl ?_
          refine bm_geti C cf_mo hI26 17 17 rfl rfl (by decide) rfl rfl tw_694 d_mo_isNew_115 (fun v30 e30 a30 b30 => ?_)
          refine bm_puti C cf_mo hI26 17 17 rfl rfl (by decide) rfl rfl rfl (by omega) (by omega) rfl (Or.inl rfl) tw_694 d_mo_isNew_118 (fun w31 hI31 e31 => ?_)
          have g31_0 : w31 27 17 = v30 := by rw [e31]; exact bgU_eq
          refine bg_iload_n C d_mo_isNew_121 rfl rfl ?_
          exact bg_iret C d_mo_isNew_122 (fun h => by cases h) (Or.inr ⟨rfl, by omega⟩) (Nat.zero_le _) (Nat.zero_le _) ⟨_, rfl, hI31, by omega, by omega, by omega⟩
        · refine bg_aload_n C d_mo_isNew_107 rfl rfl ?_
          refine bm_geti C cf_mo hI26 18 18 rfl rfl (by decide) rfl rfl tw_695 d_mo_isNew_108 (fun v32 e32 a32 b32 => ?_)
          refine bg_goto (l := 118) C d_mo_isNew_111 (by decide) ?_
          refine bm_puti C cf_mo hI26 17 17 rfl rfl (by decide) rfl rfl rfl (by omega) (by omega) rfl (Or.inl rfl) tw_694 d_mo_isNew_118 (fun w33 hI33 e33 => ?_)
          have g33_0 : w33 27 17 = v32 := by rw [e33]; exact bgU_eq
          refine bg_iload_n C d_mo_isNew_121 rfl rfl ?_
          exact bg_iret C d_mo_isNew_122 (fun h => by cases h) (Or.inr ⟨rfl, by omega⟩) (Nat.zero_le _) (Nat.zero_le _) ⟨_, rfl, hI33, by omega, by omega, by omega⟩
      · refine bg_aload_n C d_mo_isNew_66 rfl rfl ?_
        refine bg_getr (i := 16) C cf_mo rfl (by decide) rfl tw_693 d_mo_isNew_67 ?_
        refine bg_iload C d_mo_isNew_70 rfl ?_
        refine bg_aload_n C d_mo_isNew_72 rfl rfl ?_
        refine bg_getr (i := 16) C cf_mo rfl (by decide) rfl tw_693 d_mo_isNew_73 ?_
        refine bg_iload C d_mo_isNew_76 rfl ?_
        refine bg_iconst C d_mo_isNew_78 ?_
        refine bg_isub C d_mo_isNew_79 ?_
        refine bq_iald0 C rfl (by omega) (by omega) d_mo_isNew_80 (fun v34 e34 => ?_)
        refine bm_iast0 C hI24 rfl rfl rfl (by omega) (by omega) d_mo_isNew_81 (fun w35 hI35 e35 => ?_)
        have g35_0 : w35 27 17 = w24 27 17 := by rw [e35]; exact bgU_ne _ (by decide)
        refine bg_iinc C d_mo_isNew_82 rfl ?_
        refine bg_goto (l := 61) C d_mo_isNew_85 (by decide) ?_
        exact ih61 (w35, (k24 + -1)) ⟨hI35, by (try dsimp only) <;> omega, by (try dsimp only) <;> omega, by (try dsimp only) <;> omega⟩ (by (try dsimp only) <;> omega)
  · refine bg_aload_n C d_mo_isNew_10 rfl rfl ?_
    refine bg_getr (i := 16) C cf_mo rfl (by decide) rfl tw_693 d_mo_isNew_11 ?_
    refine bg_iload_n C d_mo_isNew_14 rfl rfl ?_
    refine bq_iald0 C rfl (by omega) (by omega) d_mo_isNew_15 (fun v36 e36 => ?_)
    refine bg_iload_n C d_mo_isNew_16 rfl rfl ?_
    refine bg_icmp_eq0 (tgt := 26) C d_mo_isNew_17 (by decide) ?_ ?_
    · refine bg_iload_n C d_mo_isNew_26 rfl rfl ?_
      refine bg_aload_n C d_mo_isNew_27 rfl rfl ?_
      refine bm_geti C cf_mo hI 17 17 rfl rfl (by decide) rfl rfl tw_694 d_mo_isNew_28 (fun v38 e38 a38 b38 => ?_)
      refine bg_icmp_ne (tgt := 38) C d_mo_isNew_31 (by decide) ⟨by omega, by omega⟩ ⟨by omega, by omega⟩ (fun h39 => ?_) (fun h39 => ?_)
      · refine bg_iconst C d_mo_isNew_38 ?_
        refine bg_istore_n C d_mo_isNew_39 rfl (Nat.le_of_ble_eq_true rfl) ?_
        refine bg_aload_n C d_mo_isNew_40 rfl rfl ?_
        refine bg_dup C d_mo_isNew_41 rfl ?_
        refine bm_geti C cf_mo hI 17 17 rfl rfl (by decide) rfl rfl tw_694 d_mo_isNew_42 (fun v40 e40 a40 b40 => ?_)
        refine bg_iload_n C d_mo_isNew_45 rfl rfl ?_
        refine bg_if_eq (tgt := 53) C d_mo_isNew_46 (by decide) ⟨by omega, by omega⟩ (fun h41 => ?_) (fun h41 => by exfalso; omega)
        refine bg_iconst C d_mo_isNew_53 ?_
        refine bg_iadd C d_mo_isNew_54 ?_
        refine bm_puti C cf_mo hI 17 17 rfl rfl (by decide) rfl rfl rfl (by omega) (by omega) rfl (Or.inl rfl) tw_694 d_mo_isNew_55 (fun w42 hI42 e42 => ?_)
        have g42_0 : w42 27 17 = (v40 + 0) := by rw [e42]; exact bgU_eq
        refine bg_iload_n C d_mo_isNew_58 rfl rfl ?_
        refine bg_istore C d_mo_isNew_59 (Nat.le_of_ble_eq_true rfl) ?_
        refine bg_loop (α := bgW × Int) (fun a => (a.2).toNat) (fun a => moRel S_mo_isNew w0 a.1 ∧ 0 ≤ a.2 ∧ a.2 ≤ 50 ∧ a.1 27 17 = w42 27 17) (fun a => (a.1, [some (br 27), some (bi b), some (bi i1), some (bi 0), some (bi a.2)], [])) ?_ (w42, i1) ⟨hI42, by (try dsimp only) <;> omega, by (try dsimp only) <;> omega, by (try dsimp only) <;> omega⟩
        rintro ⟨w43, k43⟩ ⟨hI43, q43_0, q43_1, q43_2⟩ ih61
        try dsimp only at ih61
        try dsimp only at q43_0
        try dsimp only at q43_1
        try dsimp only at q43_2
        try dsimp only
        refine bg_iload C d_mo_isNew_61 rfl ?_
        refine bg_if_le (tgt := 88) C d_mo_isNew_63 (by decide) ⟨by omega, by omega⟩ (fun h44 => ?_) (fun h44 => ?_)
        · refine bg_aload_n C d_mo_isNew_88 rfl rfl ?_
          refine bg_getr (i := 16) C cf_mo rfl (by decide) rfl tw_693 d_mo_isNew_89 ?_
          refine bg_iconst C d_mo_isNew_92 ?_
          refine bg_iload_n C d_mo_isNew_93 rfl rfl ?_
          refine bm_iast0 C hI43 rfl rfl rfl (by omega) (by omega) d_mo_isNew_94 (fun w45 hI45 e45 => ?_)
          have g45_0 : w45 27 17 = w43 27 17 := by rw [e45]; exact bgU_ne _ (by decide)
          refine bg_aload_n C d_mo_isNew_95 rfl rfl ?_
          refine bg_aload_n C d_mo_isNew_96 rfl rfl ?_
          refine bm_geti C cf_mo hI45 17 17 rfl rfl (by decide) rfl rfl tw_694 d_mo_isNew_97 (fun v46 e46 a46 b46 => ?_)
          refine bg_aload_n C d_mo_isNew_100 rfl rfl ?_
          refine bm_geti C cf_mo hI45 18 18 rfl rfl (by decide) rfl rfl tw_695 d_mo_isNew_101 (fun v47 e47 a47 b47 => ?_)
          refine bg_icmp_le (tgt := 114) C d_mo_isNew_104 (by decide) ⟨by omega, by omega⟩ ⟨by omega, by omega⟩ (fun h48 => ?_) (fun h48 => ?_)
          · refine bg_aload_n C d_mo_isNew_114 rfl rfl ?_
            refine bm_geti C cf_mo hI45 17 17 rfl rfl (by decide) rfl rfl tw_694 d_mo_isNew_115 (fun v49 e49 a49 b49 => ?_)
            refine bm_puti C cf_mo hI45 17 17 rfl rfl (by decide) rfl rfl rfl (by omega) (by omega) rfl (Or.inl rfl) tw_694 d_mo_isNew_118 (fun w50 hI50 e50 => ?_)
            have g50_0 : w50 27 17 = v49 := by rw [e50]; exact bgU_eq
            refine bg_iload_n C d_mo_isNew_121 rfl rfl ?_
            exact bg_iret C d_mo_isNew_122 (fun h => by cases h) (Or.inr ⟨rfl, by omega⟩) (Nat.zero_le _) (Nat.zero_le _) ⟨_, rfl, hI50, by omega, by omega, by omega⟩
          · refine bg_aload_n C d_mo_isNew_107 rfl rfl ?_
            refine bm_geti C cf_mo hI45 18 18 rfl rfl (by decide) rfl rfl tw_695 d_mo_isNew_108 (fun v51 e51 a51 b51 => ?_)
            refine bg_goto (l := 118) C d_mo_isNew_111 (by decide) ?_
            refine bm_puti C cf_mo hI45 17 17 rfl rfl (by decide) rfl rfl rfl (by omega) (by omega) rfl (Or.inl rfl) tw_694 d_mo_isNew_118 (fun w52 hI52 e52 => ?_)
            have g52_0 : w52 27 17 = v51 := by rw [e52]; exact bgU_eq
            refine bg_iload_n C d_mo_isNew_121 rfl rfl ?_
            exact bg_iret C d_mo_isNew_122 (fun h => by cases h) (Or.inr ⟨rfl, by omega⟩) (Nat.zero_le _) (Nat.zero_le _) ⟨_, rfl, hI52, by omega, by omega, by omega⟩
        · refine bg_aload_n C d_mo_isNew_66 rfl rfl ?_
          refine bg_getr (i := 16) C cf_mo rfl (by decide) rfl tw_693 d_mo_isNew_67 ?_
          refine bg_iload C d_mo_isNew_70 rfl ?_
          refine bg_aload_n C d_mo_isNew_72 rfl rfl ?_
          refine bg_getr (i := 16) C cf_mo rfl (by decide) rfl tw_693 d_mo_isNew_73 ?_
          refine bg_iload C d_mo_isNew_76 rfl ?_
          refine bg_iconst C d_mo_isNew_78 ?_
          refine bg_isub C d_mo_isNew_79 ?_
          refine bq_iald0 C rfl (by omega) (by omega) d_mo_isNew_80 (fun v53 e53 => ?_)
          refine bm_iast0 C hI43 rfl rfl rfl (by omega) (by omega) d_mo_isNew_81 (fun w54 hI54 e54 => ?_)
          have g54_0 : w54 27 17 = w43 27 17 := by rw [e54]; exact bgU_ne _ (by decide)
          refine bg_iinc C d_mo_isNew_82 rfl ?_
          refine bg_goto (l := 61) C d_mo_isNew_85 (by decide) ?_
          exact ih61 (w54, (k43 + -1)) ⟨hI54, by (try dsimp only) <;> omega, by (try dsimp only) <;> omega, by (try dsimp only) <;> omega⟩ (by (try dsimp only) <;> omega)
      · refine bg_iconst C d_mo_isNew_34 ?_
        refine bg_goto (l := 39) C d_mo_isNew_35 (by decide) ?_
        refine bg_istore_n C d_mo_isNew_39 rfl (Nat.le_of_ble_eq_true rfl) ?_
        refine bg_aload_n C d_mo_isNew_40 rfl rfl ?_
        refine bg_dup C d_mo_isNew_41 rfl ?_
        refine bm_geti C cf_mo hI 17 17 rfl rfl (by decide) rfl rfl tw_694 d_mo_isNew_42 (fun v55 e55 a55 b55 => ?_)
        refine bg_iload_n C d_mo_isNew_45 rfl rfl ?_
        refine bg_if_eq (tgt := 53) C d_mo_isNew_46 (by decide) ⟨by omega, by omega⟩ (fun h56 => by exfalso; omega) (fun h56 => ?_)
        refine bg_iconst C d_mo_isNew_49 ?_
        refine bg_goto (l := 54) C d_mo_isNew_50 (by decide) ?_
        refine bg_iadd C d_mo_isNew_54 ?_
        refine bm_puti C cf_mo hI 17 17 rfl rfl (by decide) rfl rfl rfl (by omega) (by omega) rfl (Or.inl rfl) tw_694 d_mo_isNew_55 (fun w57 hI57 e57 => ?_)
        have g57_0 : w57 27 17 = (v55 + 1) := by rw [e57]; exact bgU_eq
        refine bg_iload_n C d_mo_isNew_58 rfl rfl ?_
        refine bg_istore C d_mo_isNew_59 (Nat.le_of_ble_eq_true rfl) ?_
        refine bg_loop (α := bgW × Int) (fun a => (a.2).toNat) (fun a => moRel S_mo_isNew w0 a.1 ∧ 0 ≤ a.2 ∧ a.2 ≤ 50 ∧ a.1 27 17 = w57 27 17) (fun a => (a.1, [some (br 27), some (bi b), some (bi i1), some (bi 1), some (bi a.2)], [])) ?_ (w57, i1) ⟨hI57, by (try dsimp only) <;> omega, by (try dsimp only) <;> omega, by (try dsimp only) <;> omega⟩
        rintro ⟨w58, k58⟩ ⟨hI58, q58_0, q58_1, q58_2⟩ ih61
        try dsimp only at ih61
        try dsimp only at q58_0
        try dsimp only at q58_1
        try dsimp only at q58_2
        try dsimp only
        refine bg_iload C d_mo_isNew_61 rfl ?_
        refine bg_if_le (tgt := 88) C d_mo_isNew_63 (by decide) ⟨by omega, by omega⟩ (fun h59 => ?_) (fun h59 => ?_)
        · refine bg_aload_n C d_mo_isNew_88 rfl rfl ?_
          refine bg_getr (i := 16) C cf_mo rfl (by decide) rfl tw_693 d_mo_isNew_89 ?_
          refine bg_iconst C d_mo_isNew_92 ?_
          refine bg_iload_n C d_mo_isNew_93 rfl rfl ?_
          refine bm_iast0 C hI58 rfl rfl rfl (by omega) (by omega) d_mo_isNew_94 (fun w60 hI60 e60 => ?_)
          have g60_0 : w60 27 17 = w58 27 17 := by rw [e60]; exact bgU_ne _ (by decide)
          refine bg_aload_n C d_mo_isNew_95 rfl rfl ?_
          refine bg_aload_n C d_mo_isNew_96 rfl rfl ?_
          refine bm_geti C cf_mo hI60 17 17 rfl rfl (by decide) rfl rfl tw_694 d_mo_isNew_97 (fun v61 e61 a61 b61 => ?_)
          refine bg_aload_n C d_mo_isNew_100 rfl rfl ?_
          refine bm_geti C cf_mo hI60 18 18 rfl rfl (by decide) rfl rfl tw_695 d_mo_isNew_101 (fun v62 e62 a62 b62 => ?_)
          refine bg_icmp_le (tgt := 114) C d_mo_isNew_104 (by decide) ⟨by omega, by omega⟩ ⟨by omega, by omega⟩ (fun h63 => ?_) (fun h63 => ?_)
          · refine bg_aload_n C d_mo_isNew_114 rfl rfl ?_
            refine bm_geti C cf_mo hI60 17 17 rfl rfl (by decide) rfl rfl tw_694 d_mo_isNew_115 (fun v64 e64 a64 b64 => ?_)
            refine bm_puti C cf_mo hI60 17 17 rfl rfl (by decide) rfl rfl rfl (by omega) (by omega) rfl (Or.inl rfl) tw_694 d_mo_isNew_118 (fun w65 hI65 e65 => ?_)
            have g65_0 : w65 27 17 = v64 := by rw [e65]; exact bgU_eq
            refine bg_iload_n C d_mo_isNew_121 rfl rfl ?_
            exact bg_iret C d_mo_isNew_122 (fun h => by cases h) (Or.inr ⟨rfl, by omega⟩) (Nat.zero_le _) (Nat.zero_le _) ⟨_, rfl, hI65, by omega, by omega, by omega⟩
          · refine bg_aload_n C d_mo_isNew_107 rfl rfl ?_
            refine bm_geti C cf_mo hI60 18 18 rfl rfl (by decide) rfl rfl tw_695 d_mo_isNew_108 (fun v66 e66 a66 b66 => ?_)
            refine bg_goto (l := 118) C d_mo_isNew_111 (by decide) ?_
            refine bm_puti C cf_mo hI60 17 17 rfl rfl (by decide) rfl rfl rfl (by omega) (by omega) rfl (Or.inl rfl) tw_694 d_mo_isNew_118 (fun w67 hI67 e67 => ?_)
            have g67_0 : w67 27 17 = v66 := by rw [e67]; exact bgU_eq
            refine bg_iload_n C d_mo_isNew_121 rfl rfl ?_
            exact bg_iret C d_mo_isNew_122 (fun h => by cases h) (Or.inr ⟨rfl, by omega⟩) (Nat.zero_le _) (Nat.zero_le _) ⟨_, rfl, hI67, by omega, by omega, by omega⟩
        · refine bg_aload_n C d_mo_isNew_66 rfl rfl ?_
          refine bg_getr (i := 16) C cf_mo rfl (by decide) rfl tw_693 d_mo_isNew_67 ?_
          refine bg_iload C d_mo_isNew_70 rfl ?_
          refine bg_aload_n C d_mo_isNew_72 rfl rfl ?_
          refine bg_getr (i := 16) C cf_mo rfl (by decide) rfl tw_693 d_mo_isNew_73 ?_
          refine bg_iload C d_mo_isNew_76 rfl ?_
          refine bg_iconst C d_mo_isNew_78 ?_
          refine bg_isub C d_mo_isNew_79 ?_
          refine bq_iald0 C rfl (by omega) (by omega) d_mo_isNew_80 (fun v68 e68 => ?_)
          refine bm_iast0 C hI58 rfl rfl rfl (by omega) (by omega) d_mo_isNew_81 (fun w69 hI69 e69 => ?_)
          have g69_0 : w69 27 17 = w58 27 17 := by rw [e69]; exact bgU_ne _ (by decide)
          refine bg_iinc C d_mo_isNew_82 rfl ?_
          refine bg_goto (l := 61) C d_mo_isNew_85 (by decide) ?_
          exact ih61 (w69, (k58 + -1)) ⟨hI69, by (try dsimp only) <;> omega, by (try dsimp only) <;> omega, by (try dsimp only) <;> omega⟩ (by (try dsimp only) <;> omega)
    · refine bg_iinc C d_mo_isNew_20 rfl ?_
      refine bg_goto (l := 2) C d_mo_isNew_23 (by decide) ?_
      exact ih2 (i1 + 1) ⟨by omega, by omega, by omega⟩ (by omega)
def S_mo_look : List (Nat × Option Int) := [(33, none), (27, some 17), (27, some 15)]
def rm_mo_look : Room := { frames := 1, cells := 0, slots := 0, locals := 24 }
set_option maxRecDepth 20000 in
set_option maxHeartbeats 4000000 in
theorem m_mo_look {G : bgGl} (hG : bgOk G) {w0 : bgW} (hw : moN w0) {b : Int} (z0 : w0 27 17 ≤ 50) : bgM G false 0 0 y_mo_look (.code y_mo_look co_mo_look 2 none) rm_mo_look [br 27, bi b] w0 (bgPv (fun w' => moRel S_mo_look w0 w' ∧ w' 27 17 ≤ 50)) := by
  refine bg_met hG (by decide +kernel) (bg_cat rfl) (Nat.le_of_ble_eq_true rfl) ?_
  intro K hK hR hex C
  subst hK
  have hI := moRel.rfl (S := S_mo_look) hw
  show bgX K true 0 0 _ w0 0 [some (br 27), some (bi b)] []
  refine bg_aload_n C d_mo_look_0 rfl rfl ?_
  refine bg_dup C d_mo_look_1 rfl ?_
  refine bq_get0 C cf_mo 15 15 rfl rfl (by decide) rfl tw_692 d_mo_look_2 (fun v1 e1 => ?_)
  refine bg_aload_n C d_mo_look_5 rfl rfl ?_
  refine bg_iload_n C d_mo_look_6 rfl rfl ?_
  refine bg_ci C (m_mo_isNew hG hI.1 (by omega)) (bg_invV C cf_mo rfl tw_768 ti_mo_isNew ts_mo_isNew tc_mo_isNew tw_42 ⟨by decide, by decide⟩ (nA := 1) (by decide +kernel) rfl d_mo_look_7 rfl) rfl (by rw [hR]; exact ⟨by decide, by decide⟩) (by rw [hR]; exact ⟨by decide, by decide⟩) (Nat.le_of_ble_eq_true rfl) rfl (fun v2 w2 p2 => ?_)
  obtain ⟨j2, r2_0, r2_1, r2_2⟩ := p2
  have hI2 := hI.trans j2 (by decide)
  refine bg_if_eq (tgt := 17) C d_mo_look_10 (by decide) ⟨by omega, by omega⟩ (fun h3 => ?_) (fun h3 => ?_)
  · refine bg_iconst C d_mo_look_17 ?_
    refine bg_iadd C d_mo_look_18 ?_
    refine bm_put0 C cf_mo hI2 15 15 rfl rfl (by decide) rfl rfl rfl rfl rfl tw_692 d_mo_look_19 (fun w4 hI4 e4 => ?_)
    have g4_0 : w4 27 17 = w2 27 17 := by rw [e4]; exact bgU_nei (by decide)
    exact bg_ret C d_mo_look_22 (fun h => by cases h) rfl (Nat.zero_le _) (Nat.zero_le _) ⟨rfl, hI4, by omega⟩
  · refine bg_iconst C d_mo_look_13 ?_
    refine bg_goto (l := 18) C d_mo_look_14 (by decide) ?_
    refine bg_iadd C d_mo_look_18 ?_
    refine bm_put0 C cf_mo hI2 15 15 rfl rfl (by decide) rfl rfl rfl rfl rfl tw_692 d_mo_look_19 (fun w5 hI5 e5 => ?_)
    have g5_0 : w5 27 17 = w2 27 17 := by rw [e5]; exact bgU_nei (by decide)
    exact bg_ret C d_mo_look_22 (fun h => by cases h) rfl (Nat.zero_le _) (Nat.zero_le _) ⟨rfl, hI5, by omega⟩
def S_mo_isHome : List (Nat × Option Int) := [(27, some 13), (27, some 5), (27, some 6), (27, some 14), (33, none), (27, some 17), (27, some 10)]
def rm_mo_isHome : Room := { frames := 1, cells := 0, slots := 0, locals := 24 }
set_option maxRecDepth 20000 in
set_option maxHeartbeats 4000000 in
theorem m_mo_isHome {G : bgGl} (hG : bgOk G) {w0 : bgW} (hw : moN w0) (z0 : w0 27 17 ≤ 50) : bgM G false 0 0 y_mo_isHome (.code y_mo_isHome co_mo_isHome 2 (some .boolean)) rm_mo_isHome [br 27] w0 (bgPi (fun v w' => moRel S_mo_isHome w0 w' ∧ 0 ≤ v ∧ v ≤ 1 ∧ (v = 0 → w' 27 5 = 1) ∧ (v = 1 → w' 27 5 = w0 27 5) ∧ (v = 1 → w' 27 6 = w0 27 6) ∧ w' 27 17 ≤ 50)) := by
  refine bg_met hG (by decide +kernel) (bg_cat rfl) (Nat.le_of_ble_eq_true rfl) ?_
  intro K hK hR hex C
  subst hK
  have hI := moRel.rfl (S := S_mo_isHome) hw
  show bgX K true 0 0 _ w0 0 [some (br 27), none] []
  refine bg_iconst C d_mo_isHome_0 ?_
  refine bg_istore_n C d_mo_isHome_1 rfl (Nat.le_of_ble_eq_true rfl) ?_
  refine bg_weak ?_
  refine bg_loop (α := bgW × Int) (fun a => (50 - a.2).toNat) (fun a => moRel S_mo_isHome w0 a.1 ∧ 0 ≤ a.2 ∧ a.2 ≤ 50 ∧ a.1 27 17 ≤ 50 ∧ a.1 27 5 = w0 27 5 ∧ a.1 27 6 = w0 27 6) (fun a => (a.1, [some (br 27), some (bi a.2)], [])) ?_ (w0, 0) ⟨hI, by (try dsimp only) <;> omega, by (try dsimp only) <;> omega, by (try dsimp only) <;> omega, by (try dsimp only) <;> omega, by (try dsimp only) <;> omega⟩
  rintro ⟨w1, i1⟩ ⟨hI1, q1_0, q1_1, q1_2, q1_3, q1_4⟩ ih2
  try dsimp only at ih2
  try dsimp only at q1_0
  try dsimp only at q1_1
  try dsimp only at q1_2
  try dsimp only at q1_3
  try dsimp only at q1_4
  try dsimp only
  refine bg_iload_n C d_mo_isHome_2 rfl rfl ?_
  refine bg_bipush C d_mo_isHome_3 (by decide +kernel) ?_
  refine bg_icmp_ge (tgt := 38) C d_mo_isHome_5 (by decide) ⟨by omega, by omega⟩ ⟨by omega, by omega⟩ (fun h2 => ?_) (fun h2 => ?_)
  · refine bg_aload_n C d_mo_isHome_38 rfl rfl ?_
    refine bg_ci C (m_mo_isWritten hG hI1.1) (bg_invV C cf_mo rfl tw_760 ti_mo_isWritten ts_mo_isWritten tc_mo_isWritten tw_42 ⟨by decide, by decide⟩ (nA := 0) (by decide +kernel) rfl d_mo_isHome_39 rfl) rfl (by rw [hR]; exact ⟨by decide, by decide⟩) (by rw [hR]; exact ⟨by decide, by decide⟩) (Nat.le_of_ble_eq_true rfl) rfl (fun v3 w3 p3 => ?_)
    obtain ⟨j3, r3_0, r3_1, r3_2, r3_3, r3_4⟩ := p3
    have hI3 := hI1.trans j3 (by decide)
    have g3_2 : w3 27 17 = w1 27 17 := j3.2 27 17 rfl
    refine bg_if_ne (tgt := 47) C d_mo_isHome_42 (by decide) ⟨by omega, by omega⟩ (fun h4 => ?_) (fun h4 => ?_)
    · refine bg_aload_n C d_mo_isHome_47 rfl rfl ?_
      refine bg_iconst C d_mo_isHome_48 ?_
      refine bm_puti C cf_mo hI3 10 10 rfl rfl (by decide) rfl rfl rfl (by omega) (by omega) rfl (Or.inr ⟨rfl, by omega⟩) tw_687 d_mo_isHome_49 (fun w5 hI5 e5 => ?_)
      have g5_0 : w5 27 5 = w3 27 5 := by rw [e5]; exact bgU_nei (by decide)
      have g5_1 : w5 27 6 = w3 27 6 := by rw [e5]; exact bgU_nei (by decide)
      have g5_2 : w5 27 17 = w3 27 17 := by rw [e5]; exact bgU_nei (by decide)
      refine bg_iconst C d_mo_isHome_52 ?_
      exact bg_iret C d_mo_isHome_53 (fun h => by cases h) (Or.inr ⟨rfl, by omega⟩) (Nat.zero_le _) (Nat.zero_le _) ⟨_, rfl, hI5, by omega, by omega, by omega, by omega, by omega, by omega⟩
    · refine bg_iconst C d_mo_isHome_45 ?_
      exact bg_iret C d_mo_isHome_46 (fun h => by cases h) (Or.inr ⟨rfl, by omega⟩) (Nat.zero_le _) (Nat.zero_le _) ⟨_, rfl, hI3, by omega, by omega, by omega, by omega, by omega, by omega⟩
  · refine bg_aload_n C d_mo_isHome_8 rfl rfl ?_
    refine bg_getr (i := 9) C cf_mo rfl (by decide) rfl tw_686 d_mo_isHome_9 ?_
    refine bg_iload_n C d_mo_isHome_12 rfl rfl ?_
    refine bm_zald C hI1 rfl rfl (by omega) (by omega) d_mo_isHome_13 (fun v6 e6 a6 b6 => ?_)
    refine bg_if_eq (tgt := 32) C d_mo_isHome_14 (by decide) ⟨by omega, by omega⟩ (fun h7 => ?_) (fun h7 => ?_)
    · refine bg_iinc C d_mo_isHome_32 rfl ?_
      refine bg_goto (l := 2) C d_mo_isHome_35 (by decide) ?_
      exact ih2 (w1, (i1 + 1)) ⟨hI1, by (try dsimp only) <;> omega, by (try dsimp only) <;> omega, by (try dsimp only) <;> omega, by (try dsimp only) <;> omega, by (try dsimp only) <;> omega⟩ (by (try dsimp only) <;> omega)
    · refine bg_aload_n C d_mo_isHome_17 rfl rfl ?_
      refine bg_ci C (m_mo_isWritten hG hI1.1) (bg_invV C cf_mo rfl tw_760 ti_mo_isWritten ts_mo_isWritten tc_mo_isWritten tw_42 ⟨by decide, by decide⟩ (nA := 0) (by decide +kernel) rfl d_mo_isHome_18 rfl) rfl (by rw [hR]; exact ⟨by decide, by decide⟩) (by rw [hR]; exact ⟨by decide, by decide⟩) (Nat.le_of_ble_eq_true rfl) rfl (fun v8 w8 p8 => ?_)
      obtain ⟨j8, r8_0, r8_1, r8_2, r8_3, r8_4⟩ := p8
      have hI8 := hI1.trans j8 (by decide)
      have g8_2 : w8 27 17 = w1 27 17 := j8.2 27 17 rfl
      refine bg_if_ne (tgt := 26) C d_mo_isHome_21 (by decide) ⟨by omega, by omega⟩ (fun h9 => ?_) (fun h9 => ?_)
      · refine bg_aload_n C d_mo_isHome_26 rfl rfl ?_
        refine bg_iload_n C d_mo_isHome_27 rfl rfl ?_
        refine bg_ci C (m_mo_isNew hG hI8.1 (by omega)) (bg_invV C cf_mo rfl tw_768 ti_mo_isNew ts_mo_isNew tc_mo_isNew tw_42 ⟨by decide, by decide⟩ (nA := 1) (by decide +kernel) rfl d_mo_isHome_28 rfl) rfl (by rw [hR]; exact ⟨by decide, by decide⟩) (by rw [hR]; exact ⟨by decide, by decide⟩) (Nat.le_of_ble_eq_true rfl) rfl (fun v10 w10 p10 => ?_)
        obtain ⟨j10, r10_0, r10_1, r10_2⟩ := p10
        have hI10 := hI8.trans j10 (by decide)
        have g10_0 : w10 27 5 = w8 27 5 := j10.2 27 5 rfl
        have g10_1 : w10 27 6 = w8 27 6 := j10.2 27 6 rfl
        refine bg_pop C d_mo_isHome_31 rfl ?_
        refine bg_iinc C d_mo_isHome_32 rfl ?_
        refine bg_goto (l := 2) C d_mo_isHome_35 (by decide) ?_
        exact ih2 (w10, (i1 + 1)) ⟨hI10, by (try dsimp only) <;> omega, by (try dsimp only) <;> omega, by (try dsimp only) <;> omega, by (try dsimp only) <;> omega, by (try dsimp only) <;> omega⟩ (by (try dsimp only) <;> omega)
      · refine bg_iconst C d_mo_isHome_24 ?_
        exact bg_iret C d_mo_isHome_25 (fun h => by cases h) (Or.inr ⟨rfl, by omega⟩) (Nat.zero_le _) (Nat.zero_le _) ⟨_, rfl, hI8, by omega, by omega, by omega, by omega, by omega, by omega⟩
def S_mo_isFormatted : List (Nat × Option Int) := [(27, some 13), (27, some 5), (27, some 6), (27, some 14), (33, none), (27, some 17)]
def rm_mo_isFormatted : Room := { frames := 1, cells := 0, slots := 0, locals := 24 }
set_option maxRecDepth 20000 in
set_option maxHeartbeats 4000000 in
theorem m_mo_isFormatted {G : bgGl} (hG : bgOk G) {w0 : bgW} (hw : moN w0) (z0 : w0 27 17 ≤ 50) : bgM G false 0 0 y_mo_isFormatted (.code y_mo_isFormatted co_mo_isFormatted 2 (some .boolean)) rm_mo_isFormatted [br 27] w0 (bgPi (fun v w' => moRel S_mo_isFormatted w0 w' ∧ 0 ≤ v ∧ v ≤ 1 ∧ (v = 0 → w' 27 5 = 1) ∧ (v = 1 → w' 27 5 = w0 27 5) ∧ (v = 1 → w' 27 6 = w0 27 6) ∧ w' 27 17 ≤ 50)) := by
  refine bg_met hG (by decide +kernel) (bg_cat rfl) (Nat.le_of_ble_eq_true rfl) ?_
  intro K hK hR hex C
  subst hK
  have hI := moRel.rfl (S := S_mo_isFormatted) hw
  show bgX K true 0 0 _ w0 0 [some (br 27), none] []
  refine bg_iconst C d_mo_isFormatted_0 ?_
  refine bg_istore_n C d_mo_isFormatted_1 rfl (Nat.le_of_ble_eq_true rfl) ?_
  refine bg_weak ?_
  refine bg_loop (α := bgW × Int) (fun a => (50 - a.2).toNat) (fun a => moRel S_mo_isFormatted w0 a.1 ∧ 0 ≤ a.2 ∧ a.2 ≤ 50 ∧ a.1 27 17 ≤ 50 ∧ a.1 27 5 = w0 27 5 ∧ a.1 27 6 = w0 27 6) (fun a => (a.1, [some (br 27), some (bi a.2)], [])) ?_ (w0, 0) ⟨hI, by (try dsimp only) <;> omega, by (try dsimp only) <;> omega, by (try dsimp only) <;> omega, by (try dsimp only) <;> omega, by (try dsimp only) <;> omega⟩
  rintro ⟨w1, i1⟩ ⟨hI1, q1_0, q1_1, q1_2, q1_3, q1_4⟩ ih2
  try dsimp only at ih2
  try dsimp only at q1_0
  try dsimp only at q1_1
  try dsimp only at q1_2
  try dsimp only at q1_3
  try dsimp only at q1_4
  try dsimp only
  refine bg_iload_n C d_mo_isFormatted_2 rfl rfl ?_
  refine bg_bipush C d_mo_isFormatted_3 (by decide +kernel) ?_
  refine bg_icmp_ge (tgt := 29) C d_mo_isFormatted_5 (by decide) ⟨by omega, by omega⟩ ⟨by omega, by omega⟩ (fun h2 => ?_) (fun h2 => ?_)
  · refine bg_aload_n C d_mo_isFormatted_29 rfl rfl ?_
    refine bg_ci C (m_mo_isWritten hG hI1.1) (bg_invV C cf_mo rfl tw_760 ti_mo_isWritten ts_mo_isWritten tc_mo_isWritten tw_42 ⟨by decide, by decide⟩ (nA := 0) (by decide +kernel) rfl d_mo_isFormatted_30 rfl) rfl (by rw [hR]; exact ⟨by decide, by decide⟩) (by rw [hR]; exact ⟨by decide, by decide⟩) (Nat.le_of_ble_eq_true rfl) rfl (fun v3 w3 p3 => ?_)
    obtain ⟨j3, r3_0, r3_1, r3_2, r3_3, r3_4⟩ := p3
    have hI3 := hI1.trans j3 (by decide)
    have g3_2 : w3 27 17 = w1 27 17 := j3.2 27 17 rfl
    refine bg_if_eq (tgt := 47) C d_mo_isFormatted_33 (by decide) ⟨by omega, by omega⟩ (fun h4 => ?_) (fun h4 => ?_)
    · refine bg_iconst C d_mo_isFormatted_47 ?_
      exact bg_iret C d_mo_isFormatted_48 (fun h => by cases h) (Or.inr ⟨rfl, by omega⟩) (Nat.zero_le _) (Nat.zero_le _) ⟨_, rfl, hI3, by omega, by omega, by omega, by omega, by omega, by omega⟩
    · refine bg_aload_n C d_mo_isFormatted_36 rfl rfl ?_
      refine bg_ci C (m_mo_isWritten hG hI3.1) (bg_invV C cf_mo rfl tw_760 ti_mo_isWritten ts_mo_isWritten tc_mo_isWritten tw_42 ⟨by decide, by decide⟩ (nA := 0) (by decide +kernel) rfl d_mo_isFormatted_37 rfl) rfl (by rw [hR]; exact ⟨by decide, by decide⟩) (by rw [hR]; exact ⟨by decide, by decide⟩) (Nat.le_of_ble_eq_true rfl) rfl (fun v5 w5 p5 => ?_)
      obtain ⟨j5, r5_0, r5_1, r5_2, r5_3, r5_4⟩ := p5
      have hI5 := hI3.trans j5 (by decide)
      have g5_2 : w5 27 17 = w3 27 17 := j5.2 27 17 rfl
      refine bg_if_eq (tgt := 47) C d_mo_isFormatted_40 (by decide) ⟨by omega, by omega⟩ (fun h6 => ?_) (fun h6 => ?_)
      · refine bg_iconst C d_mo_isFormatted_47 ?_
        exact bg_iret C d_mo_isFormatted_48 (fun h => by cases h) (Or.inr ⟨rfl, by omega⟩) (Nat.zero_le _) (Nat.zero_le _) ⟨_, rfl, hI5, by omega, by omega, by omega, by omega, by omega, by omega⟩
      · refine bg_iconst C d_mo_isFormatted_43 ?_
        refine bg_goto (l := 48) C d_mo_isFormatted_44 (by decide) ?_
        exact bg_iret C d_mo_isFormatted_48 (fun h => by cases h) (Or.inr ⟨rfl, by omega⟩) (Nat.zero_le _) (Nat.zero_le _) ⟨_, rfl, hI5, by omega, by omega, by omega, by omega, by omega, by omega⟩
  · refine bg_aload_n C d_mo_isFormatted_8 rfl rfl ?_
    refine bg_ci C (m_mo_isWritten hG hI1.1) (bg_invV C cf_mo rfl tw_760 ti_mo_isWritten ts_mo_isWritten tc_mo_isWritten tw_42 ⟨by decide, by decide⟩ (nA := 0) (by decide +kernel) rfl d_mo_isFormatted_9 rfl) rfl (by rw [hR]; exact ⟨by decide, by decide⟩) (by rw [hR]; exact ⟨by decide, by decide⟩) (Nat.le_of_ble_eq_true rfl) rfl (fun v7 w7 p7 => ?_)
    obtain ⟨j7, r7_0, r7_1, r7_2, r7_3, r7_4⟩ := p7
    have hI7 := hI1.trans j7 (by decide)
    have g7_2 : w7 27 17 = w1 27 17 := j7.2 27 17 rfl
    refine bg_if_ne (tgt := 17) C d_mo_isFormatted_12 (by decide) ⟨by omega, by omega⟩ (fun h8 => ?_) (fun h8 => ?_)
    · refine bg_aload_n C d_mo_isFormatted_17 rfl rfl ?_
      refine bg_iload_n C d_mo_isFormatted_18 rfl rfl ?_
      refine bg_ci C (m_mo_isNew hG hI7.1 (by omega)) (bg_invV C cf_mo rfl tw_768 ti_mo_isNew ts_mo_isNew tc_mo_isNew tw_42 ⟨by decide, by decide⟩ (nA := 1) (by decide +kernel) rfl d_mo_isFormatted_19 rfl) rfl (by rw [hR]; exact ⟨by decide, by decide⟩) (by rw [hR]; exact ⟨by decide, by decide⟩) (Nat.le_of_ble_eq_true rfl) rfl (fun v9 w9 p9 => ?_)
      obtain ⟨j9, r9_0, r9_1, r9_2⟩ := p9
      have hI9 := hI7.trans j9 (by decide)
      have g9_0 : w9 27 5 = w7 27 5 := j9.2 27 5 rfl
      have g9_1 : w9 27 6 = w7 27 6 := j9.2 27 6 rfl
      refine bg_pop C d_mo_isFormatted_22 rfl ?_
      refine bg_iinc C d_mo_isFormatted_23 rfl ?_
      refine bg_goto (l := 2) C d_mo_isFormatted_26 (by decide) ?_
      exact ih2 (w9, (i1 + 1)) ⟨hI9, by (try dsimp only) <;> omega, by (try dsimp only) <;> omega, by (try dsimp only) <;> omega, by (try dsimp only) <;> omega, by (try dsimp only) <;> omega⟩ (by (try dsimp only) <;> omega)
    · refine bg_iconst C d_mo_isFormatted_15 ?_
      exact bg_iret C d_mo_isFormatted_16 (fun h => by cases h) (Or.inr ⟨rfl, by omega⟩) (Nat.zero_le _) (Nat.zero_le _) ⟨_, rfl, hI7, by omega, by omega, by omega, by omega, by omega, by omega⟩
def S_mo_isDown : List (Nat × Option Int) := []
def rm_mo_isDown : Room := { frames := 0, cells := 0, slots := 0, locals := 0 }
set_option maxRecDepth 20000 in
set_option maxHeartbeats 4000000 in
theorem m_mo_isDown {G : bgGl} (hG : bgOk G) {w0 : bgW} (hw : moN w0) : bgM G true 0 0 y_mo_isDown (.code y_mo_isDown co_mo_isDown 1 (some .boolean)) rm_mo_isDown [br 27] w0 (bgPi (fun v w' => w0 = w' ∧ 0 ≤ v ∧ v ≤ 1 ∧ (v = 0 → w0 27 5 = 0) ∧ (v = 0 → w0 27 4 = 1))) := by
  refine bg_met hG (by decide +kernel) (bg_cat rfl) (Nat.le_of_ble_eq_true rfl) ?_
  intro K hK hR hex C
  subst hK
  have hI := moRel.rfl (S := S_mo_isDown) hw
  show bgX K true 0 0 _ w0 0 [some (br 27)] []
  refine bg_aload_n C d_mo_isDown_0 rfl rfl ?_
  refine bm_geti C cf_mo hI 5 5 rfl rfl (by decide) rfl rfl tw_682 d_mo_isDown_1 (fun v1 e1 a1 b1 => ?_)
  refine bg_if_ne (tgt := 14) C d_mo_isDown_4 (by decide) ⟨by omega, by omega⟩ (fun h2 => ?_) (fun h2 => ?_)
  · refine bg_iconst C d_mo_isDown_14 ?_
    refine bg_goto (l := 19) C d_mo_isDown_15 (by decide) ?_
    exact bg_iret C d_mo_isDown_19 (fun _ => rfl) (Or.inr ⟨rfl, by omega⟩) (Nat.zero_le _) (Nat.zero_le _) ⟨_, rfl, rfl, by omega, by omega, by omega, by omega⟩
  · refine bg_aload_n C d_mo_isDown_7 rfl rfl ?_
    refine bm_geti C cf_mo hI 4 4 rfl rfl (by decide) rfl rfl tw_681 d_mo_isDown_8 (fun v3 e3 a3 b3 => ?_)
    refine bg_if_ne (tgt := 18) C d_mo_isDown_11 (by decide) ⟨by omega, by omega⟩ (fun h4 => ?_) (fun h4 => ?_)
    · refine bg_iconst C d_mo_isDown_18 ?_
      exact bg_iret C d_mo_isDown_19 (fun _ => rfl) (Or.inr ⟨rfl, by omega⟩) (Nat.zero_le _) (Nat.zero_le _) ⟨_, rfl, rfl, by omega, by omega, by omega, by omega⟩
    · refine bg_iconst C d_mo_isDown_14 ?_
      refine bg_goto (l := 19) C d_mo_isDown_15 (by decide) ?_
      exact bg_iret C d_mo_isDown_19 (fun _ => rfl) (Or.inr ⟨rfl, by omega⟩) (Nat.zero_le _) (Nat.zero_le _) ⟨_, rfl, rfl, by omega, by omega, by omega, by omega⟩
def S_mo_visible : List (Nat × Option Int) := []
def rm_mo_visible : Room := { frames := 0, cells := 0, slots := 0, locals := 0 }
set_option maxRecDepth 20000 in
set_option maxHeartbeats 4000000 in
theorem m_mo_visible {G : bgGl} (hG : bgOk G) {w0 : bgW} (hw : moN w0) : bgM G true 0 0 y_mo_visible (.code y_mo_visible co_mo_visible 3 (some .int)) rm_mo_visible [br 27] w0 (bgPi (fun v w' => w0 = w' ∧ 0 ≤ v ∧ v ≤ 200 ∧ (v = 200 ∨ ∃ e, 0 ≤ e ∧ e < 200 ∧ w0 28 (200 + e) = -1))) := by
  refine bg_met hG (by decide +kernel) (bg_cat rfl) (Nat.le_of_ble_eq_true rfl) ?_
  intro K hK hR hex C
  subst hK
  have hI := moRel.rfl (S := S_mo_visible) hw
  show bgX K true 0 0 _ w0 0 [some (br 27), none, none] []
  refine bg_iconst C d_mo_visible_0 ?_
  refine bg_istore_n C d_mo_visible_1 rfl (Nat.le_of_ble_eq_true rfl) ?_
  refine bg_sipush C d_mo_visible_2 (by decide +kernel) ?_
  refine bg_istore_n C d_mo_visible_5 rfl (Nat.le_of_ble_eq_true rfl) ?_
  refine bg_loop (α := Int × Int) (fun a => (400 - a.2).toNat) (fun a => 200 ≤ a.2 ∧ a.2 ≤ 400 ∧ 0 ≤ a.1 ∧ a.1 ≤ a.2 - 200 ∧ (a.1 = a.2 - 200 ∨ ∃ e, 0 ≤ e ∧ e < 200 ∧ w0 28 (200 + e) = -1)) (fun a => (w0, [some (br 27), some (bi a.1), some (bi a.2)], [])) ?_ (0, 200) ⟨by (try dsimp only) <;> omega, by (try dsimp only) <;> omega, by (try dsimp only) <;> omega, by (try dsimp only) <;> omega, Or.inl (by (try dsimp only); omega)⟩
  rintro ⟨c1, i1⟩ ⟨q1_0, q1_1, q1_2, q1_3, q1_4⟩ ih6
  try dsimp only at ih6
  try dsimp only at q1_0
  try dsimp only at q1_1
  try dsimp only at q1_2
  try dsimp only at q1_3
  try dsimp only at q1_4
  try dsimp only
  refine bg_iload_n C d_mo_visible_6 rfl rfl ?_
  refine bg_sipush C d_mo_visible_7 (by decide +kernel) ?_
  refine bg_icmp_ge (tgt := 37) C d_mo_visible_10 (by decide) ⟨by omega, by omega⟩ ⟨by omega, by omega⟩ (fun h2 => ?_) (fun h2 => ?_)
  · refine bg_iload_n C d_mo_visible_37 rfl rfl ?_
    exact bg_iret C d_mo_visible_38 (fun _ => rfl) (Or.inl rfl) (Nat.zero_le _) (Nat.zero_le _) ⟨_, rfl, rfl, by omega, by omega, by rcases q1_4 with h | h; exact Or.inl (by omega); exact Or.inr h⟩
  · refine bg_iload_n C d_mo_visible_13 rfl rfl ?_
    refine bg_aload_n C d_mo_visible_14 rfl rfl ?_
    refine bg_getr (i := 1) C cf_mo rfl (by decide) rfl tw_678 d_mo_visible_15 ?_
    refine bg_iload_n C d_mo_visible_18 rfl rfl ?_
    refine bm_iald C hI rfl rfl (by omega) (by omega) d_mo_visible_19 (fun v3 e3 a3 b3 => ?_)
    refine bg_iconst C d_mo_visible_20 ?_
    refine bg_icmp_eq (tgt := 28) C d_mo_visible_21 (by decide) ⟨by omega, by omega⟩ ⟨by omega, by omega⟩ (fun h4 => ?_) (fun h4 => ?_)
    · refine bg_iconst C d_mo_visible_28 ?_
      refine bg_iadd C d_mo_visible_29 ?_
      refine bg_istore_n C d_mo_visible_30 rfl (Nat.le_of_ble_eq_true rfl) ?_
      refine bg_iinc C d_mo_visible_31 rfl ?_
      refine bg_goto (l := 6) C d_mo_visible_34 (by decide) ?_
      exact ih6 ((c1 + 0), (i1 + 1)) ⟨by (try dsimp only) <;> omega, by (try dsimp only) <;> omega, by (try dsimp only) <;> omega, by (try dsimp only) <;> omega, by dsimp only; rcases q1_4 with h | h <;> first | exact Or.inr h | exact Or.inl (by omega) | exact Or.inr (bm_vis (by omega) (by omega) ‹_› (by omega))⟩ (by (try dsimp only) <;> omega)
    · refine bg_iconst C d_mo_visible_24 ?_
      refine bg_goto (l := 29) C d_mo_visible_25 (by decide) ?_
      refine bg_iadd C d_mo_visible_29 ?_
      refine bg_istore_n C d_mo_visible_30 rfl (Nat.le_of_ble_eq_true rfl) ?_
      refine bg_iinc C d_mo_visible_31 rfl ?_
      refine bg_goto (l := 6) C d_mo_visible_34 (by decide) ?_
      exact ih6 ((c1 + 1), (i1 + 1)) ⟨by (try dsimp only) <;> omega, by (try dsimp only) <;> omega, by (try dsimp only) <;> omega, by (try dsimp only) <;> omega, by dsimp only; rcases q1_4 with h | h <;> first | exact Or.inr h | exact Or.inl (by omega) | exact Or.inr (bm_vis (by omega) (by omega) ‹_› (by omega))⟩ (by (try dsimp only) <;> omega)
def S_mo_isVertex : List (Nat × Option Int) := []
def rm_mo_isVertex : Room := { frames := 0, cells := 0, slots := 0, locals := 0 }
set_option maxRecDepth 20000 in
set_option maxHeartbeats 4000000 in
theorem m_mo_isVertex {G : bgGl} (hG : bgOk G) {w0 : bgW} (hw : moN w0) {x : Int} (z0 : -2147483648 ≤ x) (z1 : x ≤ 2147483647) : bgM G true 0 0 y_mo_isVertex (.code y_mo_isVertex co_mo_isVertex 1 (some .boolean)) rm_mo_isVertex [bi x] w0 (bgPi (fun v w' => w0 = w' ∧ 0 ≤ v ∧ v ≤ 1 ∧ (v = 0 ∨ (0 ≤ x ∧ x ≤ 63)))) := by
  refine bg_met hG (by decide +kernel) (bg_cat rfl) (Nat.le_of_ble_eq_true rfl) ?_
  intro K hK hR hex C
  subst hK
  have hI := moRel.rfl (S := S_mo_isVertex) hw
  show bgX K true 0 0 _ w0 0 [some (bi x)] []
  refine bg_iload_n C d_mo_isVertex_0 rfl rfl ?_
  refine bg_if_lt (tgt := 14) C d_mo_isVertex_1 (by decide) ⟨by omega, by omega⟩ (fun h1 => ?_) (fun h1 => ?_)
  · refine bg_iconst C d_mo_isVertex_14 ?_
    exact bg_iret C d_mo_isVertex_15 (fun _ => rfl) (Or.inr ⟨rfl, by omega⟩) (Nat.zero_le _) (Nat.zero_le _) ⟨_, rfl, rfl, by omega, by omega, by omega⟩
  · refine bg_iload_n C d_mo_isVertex_4 rfl rfl ?_
    refine bg_bipush C d_mo_isVertex_5 (by decide +kernel) ?_
    refine bg_icmp_ge (tgt := 14) C d_mo_isVertex_7 (by decide) ⟨by omega, by omega⟩ ⟨by omega, by omega⟩ (fun h2 => ?_) (fun h2 => ?_)
    · refine bg_iconst C d_mo_isVertex_14 ?_
      exact bg_iret C d_mo_isVertex_15 (fun _ => rfl) (Or.inr ⟨rfl, by omega⟩) (Nat.zero_le _) (Nat.zero_le _) ⟨_, rfl, rfl, by omega, by omega, by omega⟩
    · refine bg_iconst C d_mo_isVertex_10 ?_
      refine bg_goto (l := 15) C d_mo_isVertex_11 (by decide) ?_
      exact bg_iret C d_mo_isVertex_15 (fun _ => rfl) (Or.inr ⟨rfl, by omega⟩) (Nat.zero_le _) (Nat.zero_le _) ⟨_, rfl, rfl, by omega, by omega, by omega⟩
def S_mo_isVisible : List (Nat × Option Int) := []
def rm_mo_isVisible : Room := { frames := 0, cells := 0, slots := 0, locals := 0 }
set_option maxRecDepth 20000 in
set_option maxHeartbeats 4000000 in
theorem m_mo_isVisible {G : bgGl} (hG : bgOk G) {w0 : bgW} (hw : moN w0) {e : Int} (z0 : -2147483648 ≤ e) (z1 : e ≤ 2147483647) : bgM G true 0 0 y_mo_isVisible (.code y_mo_isVisible co_mo_isVisible 2 (some .boolean)) rm_mo_isVisible [br 27, bi e] w0 (bgPi (fun v w' => w0 = w' ∧ 0 ≤ v ∧ v ≤ 1 ∧ (v = 0 ∨ (0 ≤ e ∧ e ≤ 199)))) := by
  refine bg_met hG (by decide +kernel) (bg_cat rfl) (Nat.le_of_ble_eq_true rfl) ?_
  intro K hK hR hex C
  subst hK
  have hI := moRel.rfl (S := S_mo_isVisible) hw
  show bgX K true 0 0 _ w0 0 [some (br 27), some (bi e)] []
  refine bg_iload_n C d_mo_isVisible_0 rfl rfl ?_
  refine bg_if_lt (tgt := 29) C d_mo_isVisible_1 (by decide) ⟨by omega, by omega⟩ (fun h1 => ?_) (fun h1 => ?_)
  · refine bg_iconst C d_mo_isVisible_29 ?_
    exact bg_iret C d_mo_isVisible_30 (fun _ => rfl) (Or.inr ⟨rfl, by omega⟩) (Nat.zero_le _) (Nat.zero_le _) ⟨_, rfl, rfl, by omega, by omega, by omega⟩
  · refine bg_iload_n C d_mo_isVisible_4 rfl rfl ?_
    refine bg_sipush C d_mo_isVisible_5 (by decide +kernel) ?_
    refine bg_icmp_ge (tgt := 29) C d_mo_isVisible_8 (by decide) ⟨by omega, by omega⟩ ⟨by omega, by omega⟩ (fun h2 => ?_) (fun h2 => ?_)
    · refine bg_iconst C d_mo_isVisible_29 ?_
      exact bg_iret C d_mo_isVisible_30 (fun _ => rfl) (Or.inr ⟨rfl, by omega⟩) (Nat.zero_le _) (Nat.zero_le _) ⟨_, rfl, rfl, by omega, by omega, by omega⟩
    · refine bg_aload_n C d_mo_isVisible_11 rfl rfl ?_
      refine bg_getr (i := 1) C cf_mo rfl (by decide) rfl tw_678 d_mo_isVisible_12 ?_
      refine bg_sipush C d_mo_isVisible_15 (by decide +kernel) ?_
      refine bg_iload_n C d_mo_isVisible_18 rfl rfl ?_
      refine bg_iadd C d_mo_isVisible_19 ?_
      refine bm_iald C hI rfl rfl (by omega) (by omega) d_mo_isVisible_20 (fun v3 e3 a3 b3 => ?_)
      refine bg_iconst C d_mo_isVisible_21 ?_
      refine bg_icmp_eq (tgt := 29) C d_mo_isVisible_22 (by decide) ⟨by omega, by omega⟩ ⟨by omega, by omega⟩ (fun h4 => ?_) (fun h4 => ?_)
      · refine bg_iconst C d_mo_isVisible_29 ?_
        exact bg_iret C d_mo_isVisible_30 (fun _ => rfl) (Or.inr ⟨rfl, by omega⟩) (Nat.zero_le _) (Nat.zero_le _) ⟨_, rfl, rfl, by omega, by omega, by omega⟩
      · refine bg_iconst C d_mo_isVisible_25 ?_
        refine bg_goto (l := 30) C d_mo_isVisible_26 (by decide) ?_
        exact bg_iret C d_mo_isVisible_30 (fun _ => rfl) (Or.inr ⟨rfl, by omega⟩) (Nat.zero_le _) (Nat.zero_le _) ⟨_, rfl, rfl, by omega, by omega, by omega⟩
def S_mo_faultOf : List (Nat × Option Int) := []
def rm_mo_faultOf : Room := { frames := 1, cells := 0, slots := 0, locals := 20 }
set_option maxRecDepth 20000 in
set_option maxHeartbeats 4000000 in
theorem m_mo_faultOf {G : bgGl} (hG : bgOk G) {w0 : bgW} (hw : moN w0) {x : Int} (z0 : -2147483648 ≤ x) (z1 : x ≤ 2147483647) : bgM G true 0 0 y_mo_faultOf (.code y_mo_faultOf co_mo_faultOf 2 (some .int)) rm_mo_faultOf [br 27, bi x] w0 (bgPi (fun v w' => w0 = w' ∧ 0 ≤ v ∧ v ≤ 2 ∧ (v = 0 → w0 27 19 = 0) ∧ (v = 0 → 0 ≤ x) ∧ (v = 0 → x ≤ 63))) := by
  refine bg_met hG (by decide +kernel) (bg_cat rfl) (Nat.le_of_ble_eq_true rfl) ?_
  intro K hK hR hex C
  subst hK
  have hI := moRel.rfl (S := S_mo_faultOf) hw
  show bgX K true 0 0 _ w0 0 [some (br 27), some (bi x)] []
  refine bg_aload_n C d_mo_faultOf_0 rfl rfl ?_
  refine bg_ci C (m_mo_isDown hG hI.1) (bg_invV C cf_mo rfl tw_776 ti_mo_isDown ts_mo_isDown tc_mo_isDown tw_42 ⟨by decide, by decide⟩ (nA := 0) (by decide +kernel) rfl d_mo_faultOf_1 rfl) rfl (by rw [hR]; exact ⟨by decide, by decide⟩) (by rw [hR]; exact ⟨by decide, by decide⟩) (Nat.le_of_ble_eq_true rfl) rfl (fun v1 w1 p1 => ?_)
  obtain ⟨rfl, r1_0, r1_1, r1_2, r1_3⟩ := p1
  refine bg_if_ne (tgt := 14) C d_mo_faultOf_4 (by decide) ⟨by omega, by omega⟩ (fun h2 => ?_) (fun h2 => ?_)
  · refine bg_iconst C d_mo_faultOf_14 ?_
    refine bg_goto (l := 30) C d_mo_faultOf_15 (by decide) ?_
    exact bg_iret C d_mo_faultOf_30 (fun _ => rfl) (Or.inl rfl) (Nat.zero_le _) (Nat.zero_le _) ⟨_, rfl, rfl, by omega, by omega, by omega, by omega, by omega⟩
  · refine bg_aload_n C d_mo_faultOf_7 rfl rfl ?_
    refine bm_geti C cf_mo hI 19 19 rfl rfl (by decide) rfl rfl tw_696 d_mo_faultOf_8 (fun v3 e3 a3 b3 => ?_)
    refine bg_if_eq (tgt := 18) C d_mo_faultOf_11 (by decide) ⟨by omega, by omega⟩ (fun h4 => ?_) (fun h4 => ?_)
    · refine bg_iload_n C d_mo_faultOf_18 rfl rfl ?_
      refine bg_ci C (m_mo_isVertex hG hI.1 (by omega) (by omega)) (bg_invS C tw_784 tt_mo_isVertex tc_mo_isVertex tw_42 ⟨by decide, by decide⟩ (nA := 1) (by decide +kernel) rfl d_mo_faultOf_19 rfl) rfl (by rw [hR]; exact ⟨by decide, by decide⟩) (by rw [hR]; exact ⟨by decide, by decide⟩) (Nat.le_of_ble_eq_true rfl) rfl (fun v5 w5 p5 => ?_)
      obtain ⟨rfl, r5_0, r5_1, r5_2⟩ := p5
      refine bg_if_eq (tgt := 29) C d_mo_faultOf_22 (by decide) ⟨by omega, by omega⟩ (fun h6 => ?_) (fun h6 => ?_)
      · refine bg_iconst C d_mo_faultOf_29 ?_
        exact bg_iret C d_mo_faultOf_30 (fun _ => rfl) (Or.inl rfl) (Nat.zero_le _) (Nat.zero_le _) ⟨_, rfl, rfl, by omega, by omega, by omega, by omega, by omega⟩
      · refine bg_iconst C d_mo_faultOf_25 ?_
        refine bg_goto (l := 30) C d_mo_faultOf_26 (by decide) ?_
        exact bg_iret C d_mo_faultOf_30 (fun _ => rfl) (Or.inl rfl) (Nat.zero_le _) (Nat.zero_le _) ⟨_, rfl, rfl, by omega, by omega, by omega, by omega, by omega⟩
    · refine bg_iconst C d_mo_faultOf_14 ?_
      refine bg_goto (l := 30) C d_mo_faultOf_15 (by decide) ?_
      exact bg_iret C d_mo_faultOf_30 (fun _ => rfl) (Or.inl rfl) (Nat.zero_le _) (Nat.zero_le _) ⟨_, rfl, rfl, by omega, by omega, by omega, by omega, by omega⟩
end
section
/-! counting and summing below a bound -/
def bcn (P : Nat → Prop) [DecidablePred P] : Nat → Nat
  | 0 => 0
  | m + 1 => bcn P m + (if P m then 1 else 0)
theorem bcn_le (P : Nat → Prop) [DecidablePred P] : ∀ m, bcn P m ≤ m
  | 0 => Nat.le_refl _
  | m + 1 => by
    have := bcn_le P m
    unfold bcn
    split <;> omega
theorem bcn_mono {P Q : Nat → Prop} [DecidablePred P] [DecidablePred Q] : ∀ m, (∀ i, i < m → P i → Q i) → bcn P m ≤ bcn Q m
  | 0, _ => Nat.le_refl _
  | m + 1, h => by
    have h1 := bcn_mono m (fun i hi => h i (by omega))
    have h2 := h m (by omega)
    unfold bcn
    by_cases hp : P m
    · rw [if_pos hp, if_pos (h2 hp)]
      omega
    · rw [if_neg hp]
      omega
theorem bcn_lt {P Q : Nat → Prop} [DecidablePred P] [DecidablePred Q] : ∀ m j, (∀ i, i < m → P i → Q i) → j < m → ¬ P j → Q j → bcn P m < bcn Q m
  | 0, _, _, hj, _, _ => absurd hj (Nat.not_lt_zero _)
  | m + 1, j, h, hj, hp, hq => by
    by_cases hm : j = m
    · subst hm
      have h1 := bcn_mono j (fun i hi => h i (by omega))
      unfold bcn
      rw [if_neg hp, if_pos hq]
      omega
    · have h1 := bcn_lt m j (fun i hi => h i (by omega)) (by omega) hp hq
      have h2 := h m (by omega)
      unfold bcn
      by_cases hpm : P m
      · rw [if_pos hpm, if_pos (h2 hpm)]
        omega
      · rw [if_neg hpm]
        omega
theorem bcn_not {P : Nat → Prop} [DecidablePred P] {m j : Nat} (hj : j < m) (hp : ¬ P j) : bcn P m < m := by
  have h := bcn_lt (P := P) (Q := fun _ => True) m j (fun _ _ _ => trivial) hj hp trivial
  exact Nat.lt_of_lt_of_le h (bcn_le _ m)
theorem bcn_pos {P : Nat → Prop} [DecidablePred P] {m j : Nat} (hj : j < m) (hp : P j) : 0 < bcn P m := by
  have h := bcn_lt (P := fun _ => False) (Q := P) m j (fun _ _ h => h.elim) hj (fun h => h) hp
  omega
def bsm (f : Nat → Nat) : Nat → Nat
  | 0 => 0
  | m + 1 => bsm f m + f m
theorem bsm_mono {f g : Nat → Nat} : ∀ m, (∀ i, i < m → f i ≤ g i) → bsm f m ≤ bsm g m
  | 0, _ => Nat.le_refl _
  | m + 1, h => by
    have h1 := bsm_mono m (fun i hi => h i (by omega))
    have h2 := h m (by omega)
    unfold bsm
    omega
theorem bsm_lt {f g : Nat → Nat} : ∀ m j, (∀ i, i < m → f i ≤ g i) → j < m → f j < g j → bsm f m < bsm g m
  | 0, _, _, hj, _ => absurd hj (Nat.not_lt_zero _)
  | m + 1, j, h, hj, hl => by
    have h2 := h m (by omega)
    by_cases hm : j = m
    · subst hm
      have h1 := bsm_mono j (fun i hi => h i (by omega))
      unfold bsm
      omega
    · have h1 := bsm_lt m j (fun i hi => h i (by omega)) (by omega) hl
      unfold bsm
      omega
/-! what holds of the reference between calls -/
def bmE (w : bgW) : Prop := ∀ e : Int, 0 ≤ e → e < 400 → w 28 e ≠ -1 → 1 ≤ w 30 e
def bmH (w : bgW) : Prop := ∀ e : Int, 0 ≤ e → e < 200 → w 28 e = w 28 (200 + e) ∧ (w 28 e ≠ -1 → w 29 e = w 29 (200 + e) ∧ w 30 e = w 30 (200 + e))
def bmJ (w : bgW) : Prop := w 27 5 = 0 → w 27 4 = 1 → (w 27 6 = 0 ∨ w 27 7 = 0) → bmH w
def bmTi (w : bgW) : Prop := ∀ v : Int, 0 ≤ v → v < 64 → w 34 v ≠ -1 → v ≠ w 27 20 → ∃ e : Int, 0 ≤ e ∧ e < 200 ∧ w 28 (200 + e) ≠ -1 ∧ w 29 (200 + e) = v ∧ w 34 (w 28 (200 + e)) ≠ -1 ∧ w 34 (w 28 (200 + e)) + w 30 (200 + e) = w 34 v
def bmT (w : bgW) : Prop := w 27 19 = 0 → bmTi w
def bmB (w : bgW) : Prop := w 27 17 ≤ 50 ∧ bmE w ∧ bmJ w ∧ bmT w
section BMI
variable {w w' : bgW}
theorem bmE_of (h28 : ∀ i, w' 28 i = w 28 i) (h30 : ∀ i, w' 30 i = w 30 i) (h : bmE w) : bmE w' := by
  have e28 : w' 28 = w 28 := funext h28
  have e30 : w' 30 = w 30 := funext h30
  unfold bmE
  rw [e28, e30]
  exact h
theorem bmH_of (h28 : ∀ i, w' 28 i = w 28 i) (h29 : ∀ i, w' 29 i = w 29 i) (h30 : ∀ i, w' 30 i = w 30 i) (h : bmH w) : bmH w' := by
  have e28 : w' 28 = w 28 := funext h28
  have e29 : w' 29 = w 29 := funext h29
  have e30 : w' 30 = w 30 := funext h30
  unfold bmH
  rw [e28, e29, e30]
  exact h
theorem bmTi_ofV (h28 : ∀ e, 0 ≤ e → e < 200 → w' 28 (200 + e) = w 28 (200 + e)) (h29 : ∀ e, 0 ≤ e → e < 200 → w' 29 (200 + e) = w 29 (200 + e)) (h30 : ∀ e, 0 ≤ e → e < 200 → w' 30 (200 + e) = w 30 (200 + e)) (h34 : ∀ i, w' 34 i = w 34 i) (h20 : w' 27 20 = w 27 20) (h : bmTi w) : bmTi w' := by
  intro v h0 h1 h2 h3
  rw [h34] at h2
  rw [h20] at h3
  obtain ⟨e, a1, a2, a3, a4, a5, a6⟩ := h v h0 h1 h2 h3
  refine ⟨e, a1, a2, ?_, ?_, ?_, ?_⟩
  · rw [h28 e a1 a2]; exact a3
  · rw [h29 e a1 a2]; exact a4
  · rw [h28 e a1 a2, h34]; exact a5
  · rw [h28 e a1 a2, h30 e a1 a2, h34, h34]; exact a6
theorem bmTi_of (h28 : ∀ i, w' 28 i = w 28 i) (h29 : ∀ i, w' 29 i = w 29 i) (h30 : ∀ i, w' 30 i = w 30 i) (h34 : ∀ i, w' 34 i = w 34 i) (h20 : w' 27 20 = w 27 20) (h : bmTi w) : bmTi w' :=
  bmTi_ofV (fun _ _ _ => h28 _) (fun _ _ _ => h29 _) (fun _ _ _ => h30 _) h34 h20 h
theorem bmTi_vis (h28 : ∀ e, 0 ≤ e → e < 200 → w' 28 (200 + e) = w 28 e) (h29 : ∀ e, 0 ≤ e → e < 200 → w' 29 (200 + e) = w 29 e) (h30 : ∀ e, 0 ≤ e → e < 200 → w' 30 (200 + e) = w 30 e) (h34 : ∀ i, w' 34 i = w 34 i) (h20 : w' 27 20 = w 27 20) (hH : bmH w) (h : bmTi w) : bmTi w' := by
  intro v h0 h1 h2 h3
  rw [h34] at h2
  rw [h20] at h3
  obtain ⟨e, a1, a2, a3, a4, a5, a6⟩ := h v h0 h1 h2 h3
  obtain ⟨b1, b2⟩ := hH e a1 a2
  obtain ⟨b3, b4⟩ := b2 (by rw [b1]; exact a3)
  refine ⟨e, a1, a2, ?_, ?_, ?_, ?_⟩
  · rw [h28 e a1 a2, b1]; exact a3
  · rw [h29 e a1 a2, b3]; exact a4
  · rw [h28 e a1 a2, h34, b1]; exact a5
  · rw [h28 e a1 a2, h30 e a1 a2, h34, h34, b1, b4]; exact a6
theorem bmB_of (h28 : ∀ i, w' 28 i = w 28 i) (h29 : ∀ i, w' 29 i = w 29 i) (h30 : ∀ i, w' 30 i = w 30 i) (h34 : ∀ i, w' 34 i = w 34 i) (h4 : w' 27 4 = w 27 4) (h5 : w' 27 5 = w 27 5) (h6 : w' 27 6 = w 27 6) (h7 : w' 27 7 = w 27 7) (h19 : w' 27 19 = w 27 19) (h20 : w' 27 20 = w 27 20) (hh : w' 27 17 ≤ 50) (h : bmB w) : bmB w' := by
  refine ⟨hh, bmE_of h28 h30 h.2.1, ?_, ?_⟩
  · unfold bmJ
    rw [h4, h5, h6, h7]
    exact fun a b c => bmH_of h28 h29 h30 (h.2.2.1 a b c)
  · unfold bmT
    rw [h19]
    exact fun a => bmTi_of h28 h29 h30 h34 h20 (h.2.2.2 a)
/-- the halves are alike -/
theorem bmB_J (h28 : ∀ i, w' 28 i = w 28 i) (h29 : ∀ i, w' 29 i = w 29 i) (h30 : ∀ i, w' 30 i = w 30 i) (h34 : ∀ i, w' 34 i = w 34 i) (h19 : w' 27 19 = w 27 19) (h20 : w' 27 20 = w 27 20) (hh : w' 27 17 ≤ 50) (hH : bmH w) (h : bmB w) : bmB w' := by
  refine ⟨hh, bmE_of h28 h30 h.2.1, fun _ _ _ => bmH_of h28 h29 h30 hH, ?_⟩
  unfold bmT
  rw [h19]
  exact fun a => bmTi_of h28 h29 h30 h34 h20 (h.2.2.2 a)
/-- the power has failed -/
theorem bmB_dn (h28 : ∀ i, w' 28 i = w 28 i) (h29 : ∀ i, w' 29 i = w 29 i) (h30 : ∀ i, w' 30 i = w 30 i) (h34 : ∀ i, w' 34 i = w 34 i) (h19 : w' 27 19 = w 27 19) (h20 : w' 27 20 = w 27 20) (hh : w' 27 17 ≤ 50) (hd : w' 27 5 = 1) (h : bmB w) : bmB w' := by
  refine ⟨hh, bmE_of h28 h30 h.2.1, fun a => absurd a (by omega), ?_⟩
  unfold bmT
  rw [h19]
  exact fun a => bmTi_of h28 h29 h30 h34 h20 (h.2.2.2 a)
theorem bmB_1 (hE : bmE w) (hh : w 27 17 ≤ 50) (hd : w 27 5 = 1) (hs : w 27 19 = 1) : bmB w := ⟨hh, hE, fun a => absurd a (by omega), fun a => absurd a (by omega)⟩
theorem bmB_2 (hE : bmE w) (hh : w 27 17 ≤ 50) (ho : w 27 6 = 1) (hp : 1 ≤ w 27 7) (hs : w 27 19 = 1) : bmB w := ⟨hh, hE, fun _ _ a => by omega, fun a => absurd a (by omega)⟩
theorem bmB_4 (hE : bmE w) (hh : w 27 17 ≤ 50) (hg : w 27 4 = 0) (hs : w 27 19 = 1) : bmB w := ⟨hh, hE, fun _ a => absurd a (by omega), fun a => absurd a (by omega)⟩
theorem bmB_5 (hE : bmE w) (hH : bmH w) (hh : w 27 17 ≤ 50) (hs : w 27 19 = 1) : bmB w := ⟨hh, hE, fun _ _ _ => hH, fun a => absurd a (by omega)⟩
theorem bmB_clear (hc : ∀ e, 0 ≤ e → e < 400 → w 28 e = -1) (hh : w 27 17 ≤ 50) (hs : w 27 19 = 1) : bmB w :=
  ⟨hh, fun e h0 h1 h2 => absurd (hc e h0 h1) h2, fun _ _ _ e h0 h1 => ⟨by rw [hc e h0 (by omega), hc (200 + e) (by omega) (by omega)], fun h => absurd (hc e h0 (by omega)) h⟩, fun a => absurd a (by omega)⟩
theorem bmE_add {wp w1 wq w2 w0 : bgW} {p f x : Int} (e1 : w1 = bgU wp 28 p f) (a1 : ∀ i, wp 28 i = w0 28 i) (e2 : w2 = bgU wq 30 p x) (a2 : ∀ i, wq 30 i = w0 30 i) (h28 : ∀ i, w' 28 i = w1 28 i) (h30 : ∀ i, w' 30 i = w2 30 i) (hx : 1 ≤ x) (hE : bmE w0) : bmE w' := by
  intro e h0 h1 h2
  rw [h28, e1] at h2
  rw [h30, e2]
  by_cases he : e = p
  · subst he
    rw [bgU_eq]
    exact hx
  · rw [bgU_nei he, a1] at h2
    rw [bgU_nei he, a2]
    exact hE e h0 h1 h2
theorem bmE_rm {wp w1 w0 : bgW} {p : Int} (e1 : w1 = bgU wp 28 p (-1)) (a1 : ∀ i, wp 28 i = w0 28 i) (h28 : ∀ i, w' 28 i = w1 28 i) (h30 : ∀ i, w' 30 i = w0 30 i) (hE : bmE w0) : bmE w' := by
  intro e h0 h1 h2
  rw [h28, e1] at h2
  rw [h30]
  by_cases he : e = p
  · subst he
    rw [bgU_eq] at h2
    exact absurd rfl h2
  · rw [bgU_nei he, a1] at h2
    exact hE e h0 h1 h2
/-- behind copy -/
theorem bmE_cp {w0 : bgW} {to fr : Int} (hd : (to = 0 ∧ fr = 200) ∨ (to = 200 ∧ fr = 0)) (r : ∀ k e, (k = 28 ∨ k = 29 ∨ k = 30) → 0 ≤ e → e < 200 → w k (to + e) = w0 k (fr + e) ∧ w k (fr + e) = w0 k (fr + e)) (hE : bmE w0) : bmE w := by
  have key : ∀ x e, 0 ≤ e → e < 200 → (x = to + e ∨ x = fr + e) → w 28 x ≠ -1 → 1 ≤ w 30 x := by
    intro x e h0 h1 hx h2
    have r1 := r 28 e (Or.inl rfl) h0 h1
    have r2 := r 30 e (Or.inr (Or.inr rfl)) h0 h1
    rcases hx with rfl | rfl
    · rw [r1.1] at h2
      rw [r2.1]
      exact hE (fr + e) (by omega) (by omega) h2
    · rw [r1.2] at h2
      rw [r2.2]
      exact hE (fr + e) (by omega) (by omega) h2
  intro e h0 h1 h2
  by_cases hl : e < 200
  · exact key e e h0 hl (by omega) h2
  · exact key e (e - 200) (by omega) (by omega) (by omega) h2
theorem bmH_cp {w0 : bgW} {to fr : Int} (hd : (to = 0 ∧ fr = 200) ∨ (to = 200 ∧ fr = 0)) (r : ∀ k e, (k = 28 ∨ k = 29 ∨ k = 30) → 0 ≤ e → e < 200 → w k (to + e) = w0 k (fr + e) ∧ w k (fr + e) = w0 k (fr + e)) : bmH w := by
  intro e h0 h1
  have q : ∀ k, (k = 28 ∨ k = 29 ∨ k = 30) → w k e = w k (200 + e) := by
    intro k hk
    have r1 := r k e hk h0 h1
    rcases hd with ⟨rfl, rfl⟩ | ⟨rfl, rfl⟩
    · rw [r1.2, ← r1.1, Int.zero_add]
    · rw [r1.1, ← r1.2, Int.zero_add]
  exact ⟨q 28 (Or.inl rfl), fun _ => ⟨q 29 (Or.inr (Or.inl rfl)), q 30 (Or.inr (Or.inr rfl))⟩⟩
end BMI
end
section
def S_mo_format : List (Nat × Option Int) := [(27, some 0), (27, some 17), (27, some 19), (27, some 6), (27, some 7), (27, some 13), (27, some 5), (27, some 14), (27, some 4), (27, some 10), (27, some 11), (27, some 12), (31, none), (28, none), (33, none)]
def rm_mo_format : Room := { frames := 2, cells := 0, slots := 0, locals := 45 }
set_option maxRecDepth 20000 in
set_option maxHeartbeats 4000000 in
theorem m_mo_format {G : bgGl} (hG : bgOk G) {w0 : bgW} (hw : moN w0) (z0 : bmB w0) : bgM G false 0 0 y_mo_format (.code y_mo_format co_mo_format 1 (some .boolean)) rm_mo_format [br 27] w0 (bgPi (fun v w' => moRel S_mo_format w0 w' ∧ bmB w')) := by
  refine bg_met hG (by decide +kernel) (bg_cat rfl) (Nat.le_of_ble_eq_true rfl) ?_
  intro K hK hR hex C
  subst hK
  have hI := moRel.rfl (S := S_mo_format) hw
  show bgX K true 0 0 _ w0 0 [some (br 27)] []
  have hB := z0
  have hB1 := hB.1
  have hs17 := hw 27 17 0 51 rfl
  have hs7 := hw 27 7 0 20 rfl
  have hs19 := hw 27 19 0 1 rfl
  have hs6 := hw 27 6 0 1 rfl
  have hs5 := hw 27 5 0 1 rfl
  refine bg_aload_n C d_mo_format_0 rfl rfl ?_
  refine bg_iconst C d_mo_format_1 ?_
  refine bm_puti C cf_mo hI 0 0 rfl rfl (by decide) rfl rfl rfl (by omega) (by omega) rfl (Or.inl rfl) tw_677 d_mo_format_2 (fun w1 hI1 e1 => ?_)
  have A1_28 : ∀ i, w1 28 i = w0 28 i := fun i => by rw [e1]; exact bgU_ne i (by decide)
  have A1_29 : ∀ i, w1 29 i = w0 29 i := fun i => by rw [e1]; exact bgU_ne i (by decide)
  have A1_30 : ∀ i, w1 30 i = w0 30 i := fun i => by rw [e1]; exact bgU_ne i (by decide)
  have A1_34 : ∀ i, w1 34 i = w0 34 i := fun i => by rw [e1]; exact bgU_ne i (by decide)
  have g1_0 : w1 27 0 = 0 := by rw [e1]; exact bgU_eq
  have g1_1 : w1 27 4 = w0 27 4 := by rw [e1]; exact bgU_nei (by decide)
  have g1_2 : w1 27 5 = w0 27 5 := by rw [e1]; exact bgU_nei (by decide)
  have g1_3 : w1 27 6 = w0 27 6 := by rw [e1]; exact bgU_nei (by decide)
  have g1_4 : w1 27 7 = w0 27 7 := by rw [e1]; exact bgU_nei (by decide)
  have g1_5 : w1 27 17 = w0 27 17 := by rw [e1]; exact bgU_nei (by decide)
  have g1_6 : w1 27 19 = w0 27 19 := by rw [e1]; exact bgU_nei (by decide)
  have g1_7 : w1 27 20 = w0 27 20 := by rw [e1]; exact bgU_nei (by decide)
  refine bg_aload_n C d_mo_format_5 rfl rfl ?_
  refine bg_iconst C d_mo_format_6 ?_
  refine bm_puti C cf_mo hI1 17 17 rfl rfl (by decide) rfl rfl rfl (by omega) (by omega) rfl (Or.inl rfl) tw_694 d_mo_format_7 (fun w2 hI2 e2 => ?_)
  have A2_28 : ∀ i, w2 28 i = w0 28 i := fun i => by rw [e2]; exact (bgU_ne i (by decide)).trans (A1_28 i)
  have A2_29 : ∀ i, w2 29 i = w0 29 i := fun i => by rw [e2]; exact (bgU_ne i (by decide)).trans (A1_29 i)
  have A2_30 : ∀ i, w2 30 i = w0 30 i := fun i => by rw [e2]; exact (bgU_ne i (by decide)).trans (A1_30 i)
  have A2_34 : ∀ i, w2 34 i = w0 34 i := fun i => by rw [e2]; exact (bgU_ne i (by decide)).trans (A1_34 i)
  have g2_0 : w2 27 0 = w1 27 0 := by rw [e2]; exact bgU_nei (by decide)
  have g2_1 : w2 27 4 = w1 27 4 := by rw [e2]; exact bgU_nei (by decide)
  have g2_2 : w2 27 5 = w1 27 5 := by rw [e2]; exact bgU_nei (by decide)
  have g2_3 : w2 27 6 = w1 27 6 := by rw [e2]; exact bgU_nei (by decide)
  have g2_4 : w2 27 7 = w1 27 7 := by rw [e2]; exact bgU_nei (by decide)
  have g2_5 : w2 27 17 = 0 := by rw [e2]; exact bgU_eq
  have g2_6 : w2 27 19 = w1 27 19 := by rw [e2]; exact bgU_nei (by decide)
  have g2_7 : w2 27 20 = w1 27 20 := by rw [e2]; exact bgU_nei (by decide)
  refine bg_aload_n C d_mo_format_10 rfl rfl ?_
  refine bg_iconst C d_mo_format_11 ?_
  refine bm_puti C cf_mo hI2 19 19 rfl rfl (by decide) rfl rfl rfl (by omega) (by omega) rfl (Or.inr ⟨rfl, by omega⟩) tw_696 d_mo_format_12 (fun w3 hI3 e3 => ?_)
  have A3_28 : ∀ i, w3 28 i = w0 28 i := fun i => by rw [e3]; exact (bgU_ne i (by decide)).trans (A2_28 i)
  have A3_29 : ∀ i, w3 29 i = w0 29 i := fun i => by rw [e3]; exact (bgU_ne i (by decide)).trans (A2_29 i)
  have A3_30 : ∀ i, w3 30 i = w0 30 i := fun i => by rw [e3]; exact (bgU_ne i (by decide)).trans (A2_30 i)
  have A3_34 : ∀ i, w3 34 i = w0 34 i := fun i => by rw [e3]; exact (bgU_ne i (by decide)).trans (A2_34 i)
  have g3_0 : w3 27 0 = w2 27 0 := by rw [e3]; exact bgU_nei (by decide)
  have g3_1 : w3 27 4 = w2 27 4 := by rw [e3]; exact bgU_nei (by decide)
  have g3_2 : w3 27 5 = w2 27 5 := by rw [e3]; exact bgU_nei (by decide)
  have g3_3 : w3 27 6 = w2 27 6 := by rw [e3]; exact bgU_nei (by decide)
  have g3_4 : w3 27 7 = w2 27 7 := by rw [e3]; exact bgU_nei (by decide)
  have g3_5 : w3 27 17 = w2 27 17 := by rw [e3]; exact bgU_nei (by decide)
  have g3_6 : w3 27 19 = 1 := by rw [e3]; exact bgU_eq
  have g3_7 : w3 27 20 = w2 27 20 := by rw [e3]; exact bgU_nei (by decide)
  refine bg_aload_n C d_mo_format_15 rfl rfl ?_
  refine bg_iconst C d_mo_format_16 ?_
  refine bm_puti C cf_mo hI3 6 6 rfl rfl (by decide) rfl rfl rfl (by omega) (by omega) rfl (Or.inr ⟨rfl, by omega⟩) tw_683 d_mo_format_17 (fun w4 hI4 e4 => ?_)
  have A4_28 : ∀ i, w4 28 i = w0 28 i := fun i => by rw [e4]; exact (bgU_ne i (by decide)).trans (A3_28 i)
  have A4_29 : ∀ i, w4 29 i = w0 29 i := fun i => by rw [e4]; exact (bgU_ne i (by decide)).trans (A3_29 i)
  have A4_30 : ∀ i, w4 30 i = w0 30 i := fun i => by rw [e4]; exact (bgU_ne i (by decide)).trans (A3_30 i)
  have A4_34 : ∀ i, w4 34 i = w0 34 i := fun i => by rw [e4]; exact (bgU_ne i (by decide)).trans (A3_34 i)
  have g4_0 : w4 27 0 = w3 27 0 := by rw [e4]; exact bgU_nei (by decide)
  have g4_1 : w4 27 4 = w3 27 4 := by rw [e4]; exact bgU_nei (by decide)
  have g4_2 : w4 27 5 = w3 27 5 := by rw [e4]; exact bgU_nei (by decide)
  have g4_3 : w4 27 6 = 0 := by rw [e4]; exact bgU_eq
  have g4_4 : w4 27 7 = w3 27 7 := by rw [e4]; exact bgU_nei (by decide)
  have g4_5 : w4 27 17 = w3 27 17 := by rw [e4]; exact bgU_nei (by decide)
  have g4_6 : w4 27 19 = w3 27 19 := by rw [e4]; exact bgU_nei (by decide)
  have g4_7 : w4 27 20 = w3 27 20 := by rw [e4]; exact bgU_nei (by decide)
  refine bg_aload_n C d_mo_format_20 rfl rfl ?_
  refine bg_cv C (m_mo_untouch hG hI4.1) (bg_invV C cf_mo rfl tw_756 ti_mo_untouch ts_mo_untouch tc_mo_untouch tw_42 ⟨by decide, by decide⟩ (nA := 0) (by decide +kernel) rfl d_mo_format_21 rfl) rfl (by rw [hR]; exact ⟨by decide, by decide⟩) (by rw [hR]; exact ⟨by decide, by decide⟩) (Nat.le_of_ble_eq_true rfl) rfl (fun w5 p5 => ?_)
  obtain ⟨j5, r5_0⟩ := p5
  have hI5 := hI4.trans j5 (by decide)
  have g5_0 : w5 27 0 = w4 27 0 := j5.2 27 0 rfl
  have g5_1 : w5 27 4 = w4 27 4 := j5.2 27 4 rfl
  have g5_2 : w5 27 5 = w4 27 5 := j5.2 27 5 rfl
  have g5_3 : w5 27 6 = w4 27 6 := j5.2 27 6 rfl
  have g5_5 : w5 27 17 = w4 27 17 := j5.2 27 17 rfl
  have g5_6 : w5 27 19 = w4 27 19 := j5.2 27 19 rfl
  have g5_7 : w5 27 20 = w4 27 20 := j5.2 27 20 rfl
  have A5_28 : ∀ i, w5 28 i = w0 28 i := fun i => (j5.2 28 i rfl).trans (A4_28 i)
  have A5_29 : ∀ i, w5 29 i = w0 29 i := fun i => (j5.2 29 i rfl).trans (A4_29 i)
  have A5_30 : ∀ i, w5 30 i = w0 30 i := fun i => (j5.2 30 i rfl).trans (A4_30 i)
  have A5_34 : ∀ i, w5 34 i = w0 34 i := fun i => (j5.2 34 i rfl).trans (A4_34 i)
  refine bg_aload_n C d_mo_format_24 rfl rfl ?_
  refine bg_ci C (m_mo_isWritten hG hI5.1) (bg_invV C cf_mo rfl tw_760 ti_mo_isWritten ts_mo_isWritten tc_mo_isWritten tw_42 ⟨by decide, by decide⟩ (nA := 0) (by decide +kernel) rfl d_mo_format_25 rfl) rfl (by rw [hR]; exact ⟨by decide, by decide⟩) (by rw [hR]; exact ⟨by decide, by decide⟩) (Nat.le_of_ble_eq_true rfl) rfl (fun v6 w6 p6 => ?_)
  obtain ⟨j6, r6_0, r6_1, r6_2, r6_3, r6_4⟩ := p6
  have hI6 := hI5.trans j6 (by decide)
  have g6_0 : w6 27 0 = w5 27 0 := j6.2 27 0 rfl
  have g6_1 : w6 27 4 = w5 27 4 := j6.2 27 4 rfl
  have g6_4 : w6 27 7 = w5 27 7 := j6.2 27 7 rfl
  have g6_5 : w6 27 17 = w5 27 17 := j6.2 27 17 rfl
  have g6_6 : w6 27 19 = w5 27 19 := j6.2 27 19 rfl
  have g6_7 : w6 27 20 = w5 27 20 := j6.2 27 20 rfl
  have A6_28 : ∀ i, w6 28 i = w0 28 i := fun i => (j6.2 28 i rfl).trans (A5_28 i)
  have A6_29 : ∀ i, w6 29 i = w0 29 i := fun i => (j6.2 29 i rfl).trans (A5_29 i)
  have A6_30 : ∀ i, w6 30 i = w0 30 i := fun i => (j6.2 30 i rfl).trans (A5_30 i)
  have A6_34 : ∀ i, w6 34 i = w0 34 i := fun i => (j6.2 34 i rfl).trans (A5_34 i)
  refine bg_if_ne (tgt := 33) C d_mo_format_28 (by decide) ⟨by omega, by omega⟩ (fun h7 => ?_) (fun h7 => ?_)
  · refine bg_aload_n C d_mo_format_33 rfl rfl ?_
    refine bg_iconst C d_mo_format_34 ?_
    refine bm_puti C cf_mo hI6 4 4 rfl rfl (by decide) rfl rfl rfl (by omega) (by omega) rfl (Or.inr ⟨rfl, by omega⟩) tw_681 d_mo_format_35 (fun w8 hI8 e8 => ?_)
    have A8_28 : ∀ i, w8 28 i = w0 28 i := fun i => by rw [e8]; exact (bgU_ne i (by decide)).trans (A6_28 i)
    have A8_29 : ∀ i, w8 29 i = w0 29 i := fun i => by rw [e8]; exact (bgU_ne i (by decide)).trans (A6_29 i)
    have A8_30 : ∀ i, w8 30 i = w0 30 i := fun i => by rw [e8]; exact (bgU_ne i (by decide)).trans (A6_30 i)
    have A8_34 : ∀ i, w8 34 i = w0 34 i := fun i => by rw [e8]; exact (bgU_ne i (by decide)).trans (A6_34 i)
    have g8_0 : w8 27 0 = w6 27 0 := by rw [e8]; exact bgU_nei (by decide)
    have g8_1 : w8 27 4 = 0 := by rw [e8]; exact bgU_eq
    have g8_2 : w8 27 5 = w6 27 5 := by rw [e8]; exact bgU_nei (by decide)
    have g8_3 : w8 27 6 = w6 27 6 := by rw [e8]; exact bgU_nei (by decide)
    have g8_4 : w8 27 7 = w6 27 7 := by rw [e8]; exact bgU_nei (by decide)
    have g8_5 : w8 27 17 = w6 27 17 := by rw [e8]; exact bgU_nei (by decide)
    have g8_6 : w8 27 19 = w6 27 19 := by rw [e8]; exact bgU_nei (by decide)
    have g8_7 : w8 27 20 = w6 27 20 := by rw [e8]; exact bgU_nei (by decide)
    refine bg_aload_n C d_mo_format_38 rfl rfl ?_
    refine bg_iconst C d_mo_format_39 ?_
    refine bm_puti C cf_mo hI8 10 10 rfl rfl (by decide) rfl rfl rfl (by omega) (by omega) rfl (Or.inr ⟨rfl, by omega⟩) tw_687 d_mo_format_40 (fun w9 hI9 e9 => ?_)
    have A9_28 : ∀ i, w9 28 i = w0 28 i := fun i => by rw [e9]; exact (bgU_ne i (by decide)).trans (A8_28 i)
    have A9_29 : ∀ i, w9 29 i = w0 29 i := fun i => by rw [e9]; exact (bgU_ne i (by decide)).trans (A8_29 i)
    have A9_30 : ∀ i, w9 30 i = w0 30 i := fun i => by rw [e9]; exact (bgU_ne i (by decide)).trans (A8_30 i)
    have A9_34 : ∀ i, w9 34 i = w0 34 i := fun i => by rw [e9]; exact (bgU_ne i (by decide)).trans (A8_34 i)
    have g9_0 : w9 27 0 = w8 27 0 := by rw [e9]; exact bgU_nei (by decide)
    have g9_1 : w9 27 4 = w8 27 4 := by rw [e9]; exact bgU_nei (by decide)
    have g9_2 : w9 27 5 = w8 27 5 := by rw [e9]; exact bgU_nei (by decide)
    have g9_3 : w9 27 6 = w8 27 6 := by rw [e9]; exact bgU_nei (by decide)
    have g9_4 : w9 27 7 = w8 27 7 := by rw [e9]; exact bgU_nei (by decide)
    have g9_5 : w9 27 17 = w8 27 17 := by rw [e9]; exact bgU_nei (by decide)
    have g9_6 : w9 27 19 = w8 27 19 := by rw [e9]; exact bgU_nei (by decide)
    have g9_7 : w9 27 20 = w8 27 20 := by rw [e9]; exact bgU_nei (by decide)
    refine bg_aload_n C d_mo_format_43 rfl rfl ?_
    refine bg_iconst C d_mo_format_44 ?_
    refine bm_put0 C cf_mo hI9 11 11 rfl rfl (by decide) rfl rfl rfl rfl rfl tw_688 d_mo_format_45 (fun w10 hI10 e10 => ?_)
    have A10_28 : ∀ i, w10 28 i = w0 28 i := fun i => by rw [e10]; exact (bgU_ne i (by decide)).trans (A9_28 i)
    have A10_29 : ∀ i, w10 29 i = w0 29 i := fun i => by rw [e10]; exact (bgU_ne i (by decide)).trans (A9_29 i)
    have A10_30 : ∀ i, w10 30 i = w0 30 i := fun i => by rw [e10]; exact (bgU_ne i (by decide)).trans (A9_30 i)
    have A10_34 : ∀ i, w10 34 i = w0 34 i := fun i => by rw [e10]; exact (bgU_ne i (by decide)).trans (A9_34 i)
    have g10_0 : w10 27 0 = w9 27 0 := by rw [e10]; exact bgU_nei (by decide)
    have g10_1 : w10 27 4 = w9 27 4 := by rw [e10]; exact bgU_nei (by decide)
    have g10_2 : w10 27 5 = w9 27 5 := by rw [e10]; exact bgU_nei (by decide)
    have g10_3 : w10 27 6 = w9 27 6 := by rw [e10]; exact bgU_nei (by decide)
    have g10_4 : w10 27 7 = w9 27 7 := by rw [e10]; exact bgU_nei (by decide)
    have g10_5 : w10 27 17 = w9 27 17 := by rw [e10]; exact bgU_nei (by decide)
    have g10_6 : w10 27 19 = w9 27 19 := by rw [e10]; exact bgU_nei (by decide)
    have g10_7 : w10 27 20 = w9 27 20 := by rw [e10]; exact bgU_nei (by decide)
    refine bg_aload_n C d_mo_format_48 rfl rfl ?_
    refine bg_iconst C d_mo_format_49 ?_
    refine bm_put0 C cf_mo hI10 12 12 rfl rfl (by decide) rfl rfl rfl rfl rfl tw_689 d_mo_format_50 (fun w11 hI11 e11 => ?_)
    have A11_28 : ∀ i, w11 28 i = w0 28 i := fun i => by rw [e11]; exact (bgU_ne i (by decide)).trans (A10_28 i)
    have A11_29 : ∀ i, w11 29 i = w0 29 i := fun i => by rw [e11]; exact (bgU_ne i (by decide)).trans (A10_29 i)
    have A11_30 : ∀ i, w11 30 i = w0 30 i := fun i => by rw [e11]; exact (bgU_ne i (by decide)).trans (A10_30 i)
    have A11_34 : ∀ i, w11 34 i = w0 34 i := fun i => by rw [e11]; exact (bgU_ne i (by decide)).trans (A10_34 i)
    have g11_0 : w11 27 0 = w10 27 0 := by rw [e11]; exact bgU_nei (by decide)
    have g11_1 : w11 27 4 = w10 27 4 := by rw [e11]; exact bgU_nei (by decide)
    have g11_2 : w11 27 5 = w10 27 5 := by rw [e11]; exact bgU_nei (by decide)
    have g11_3 : w11 27 6 = w10 27 6 := by rw [e11]; exact bgU_nei (by decide)
    have g11_4 : w11 27 7 = w10 27 7 := by rw [e11]; exact bgU_nei (by decide)
    have g11_5 : w11 27 17 = w10 27 17 := by rw [e11]; exact bgU_nei (by decide)
    have g11_6 : w11 27 19 = w10 27 19 := by rw [e11]; exact bgU_nei (by decide)
    have g11_7 : w11 27 20 = w10 27 20 := by rw [e11]; exact bgU_nei (by decide)
    refine bg_aload_n C d_mo_format_53 rfl rfl ?_
    refine bg_cv C (m_mo_clear hG hI11.1) (bg_invV C cf_mo rfl tw_673 ti_mo_clear ts_mo_clear tc_mo_clear tw_42 ⟨by decide, by decide⟩ (nA := 0) (by decide +kernel) rfl d_mo_format_54 rfl) rfl (by rw [hR]; exact ⟨by decide, by decide⟩) (by rw [hR]; exact ⟨by decide, by decide⟩) (Nat.le_of_ble_eq_true rfl) rfl (fun w12 p12 => ?_)
    obtain ⟨j12, r12_0⟩ := p12
    have hI12 := hI11.trans j12 (by decide)
    have g12_0 : w12 27 0 = w11 27 0 := j12.2 27 0 rfl
    have g12_1 : w12 27 4 = w11 27 4 := j12.2 27 4 rfl
    have g12_2 : w12 27 5 = w11 27 5 := j12.2 27 5 rfl
    have g12_3 : w12 27 6 = w11 27 6 := j12.2 27 6 rfl
    have g12_4 : w12 27 7 = w11 27 7 := j12.2 27 7 rfl
    have g12_5 : w12 27 17 = w11 27 17 := j12.2 27 17 rfl
    have g12_6 : w12 27 19 = w11 27 19 := j12.2 27 19 rfl
    have g12_7 : w12 27 20 = w11 27 20 := j12.2 27 20 rfl
    have A12_29 : ∀ i, w12 29 i = w0 29 i := fun i => (j12.2 29 i rfl).trans (A11_29 i)
    have A12_30 : ∀ i, w12 30 i = w0 30 i := fun i => (j12.2 30 i rfl).trans (A11_30 i)
    have A12_34 : ∀ i, w12 34 i = w0 34 i := fun i => (j12.2 34 i rfl).trans (A11_34 i)
    refine bg_aload_n C d_mo_format_57 rfl rfl ?_
    refine bg_ci C (m_mo_isFormatted hG hI12.1 (by omega)) (bg_invV C cf_mo rfl tw_764 ti_mo_isFormatted ts_mo_isFormatted tc_mo_isFormatted tw_42 ⟨by decide, by decide⟩ (nA := 0) (by decide +kernel) rfl d_mo_format_58 rfl) rfl (by rw [hR]; exact ⟨by decide, by decide⟩) (by rw [hR]; exact ⟨by decide, by decide⟩) (Nat.le_of_ble_eq_true rfl) rfl (fun v13 w13 p13 => ?_)
    obtain ⟨j13, r13_0, r13_1, r13_2, r13_3, r13_4, r13_5⟩ := p13
    have hI13 := hI12.trans j13 (by decide)
    have g13_0 : w13 27 0 = w12 27 0 := j13.2 27 0 rfl
    have g13_1 : w13 27 4 = w12 27 4 := j13.2 27 4 rfl
    have g13_4 : w13 27 7 = w12 27 7 := j13.2 27 7 rfl
    have g13_6 : w13 27 19 = w12 27 19 := j13.2 27 19 rfl
    have g13_7 : w13 27 20 = w12 27 20 := j13.2 27 20 rfl
    have A13_28 : ∀ i, w13 28 i = w12 28 i := fun i => j13.2 28 i rfl
    have A13_29 : ∀ i, w13 29 i = w0 29 i := fun i => (j13.2 29 i rfl).trans (A12_29 i)
    have A13_30 : ∀ i, w13 30 i = w0 30 i := fun i => (j13.2 30 i rfl).trans (A12_30 i)
    have A13_34 : ∀ i, w13 34 i = w0 34 i := fun i => (j13.2 34 i rfl).trans (A12_34 i)
    refine bg_if_ne (tgt := 66) C d_mo_format_61 (by decide) ⟨by omega, by omega⟩ (fun h14 => ?_) (fun h14 => ?_)
    · refine bg_aload_n C d_mo_format_66 rfl rfl ?_
      refine bg_iconst C d_mo_format_67 ?_
      refine bm_puti C cf_mo hI13 4 4 rfl rfl (by decide) rfl rfl rfl (by omega) (by omega) rfl (Or.inr ⟨rfl, by omega⟩) tw_681 d_mo_format_68 (fun w15 hI15 e15 => ?_)
      have A15_28 : ∀ i, w15 28 i = w12 28 i := fun i => by rw [e15]; exact (bgU_ne i (by decide)).trans (A13_28 i)
      have A15_29 : ∀ i, w15 29 i = w0 29 i := fun i => by rw [e15]; exact (bgU_ne i (by decide)).trans (A13_29 i)
      have A15_30 : ∀ i, w15 30 i = w0 30 i := fun i => by rw [e15]; exact (bgU_ne i (by decide)).trans (A13_30 i)
      have A15_34 : ∀ i, w15 34 i = w0 34 i := fun i => by rw [e15]; exact (bgU_ne i (by decide)).trans (A13_34 i)
      have g15_0 : w15 27 0 = w13 27 0 := by rw [e15]; exact bgU_nei (by decide)
      have g15_1 : w15 27 4 = 1 := by rw [e15]; exact bgU_eq
      have g15_2 : w15 27 5 = w13 27 5 := by rw [e15]; exact bgU_nei (by decide)
      have g15_3 : w15 27 6 = w13 27 6 := by rw [e15]; exact bgU_nei (by decide)
      have g15_4 : w15 27 7 = w13 27 7 := by rw [e15]; exact bgU_nei (by decide)
      have g15_5 : w15 27 17 = w13 27 17 := by rw [e15]; exact bgU_nei (by decide)
      have g15_6 : w15 27 19 = w13 27 19 := by rw [e15]; exact bgU_nei (by decide)
      have g15_7 : w15 27 20 = w13 27 20 := by rw [e15]; exact bgU_nei (by decide)
      refine bg_aload_n C d_mo_format_71 rfl rfl ?_
      refine bg_iconst C d_mo_format_72 ?_
      refine bm_puti C cf_mo hI15 5 5 rfl rfl (by decide) rfl rfl rfl (by omega) (by omega) rfl (Or.inr ⟨rfl, by omega⟩) tw_682 d_mo_format_73 (fun w16 hI16 e16 => ?_)
      have A16_28 : ∀ i, w16 28 i = w12 28 i := fun i => by rw [e16]; exact (bgU_ne i (by decide)).trans (A15_28 i)
      have A16_29 : ∀ i, w16 29 i = w0 29 i := fun i => by rw [e16]; exact (bgU_ne i (by decide)).trans (A15_29 i)
      have A16_30 : ∀ i, w16 30 i = w0 30 i := fun i => by rw [e16]; exact (bgU_ne i (by decide)).trans (A15_30 i)
      have A16_34 : ∀ i, w16 34 i = w0 34 i := fun i => by rw [e16]; exact (bgU_ne i (by decide)).trans (A15_34 i)
      have g16_0 : w16 27 0 = w15 27 0 := by rw [e16]; exact bgU_nei (by decide)
      have g16_1 : w16 27 4 = w15 27 4 := by rw [e16]; exact bgU_nei (by decide)
      have g16_2 : w16 27 5 = 0 := by rw [e16]; exact bgU_eq
      have g16_3 : w16 27 6 = w15 27 6 := by rw [e16]; exact bgU_nei (by decide)
      have g16_4 : w16 27 7 = w15 27 7 := by rw [e16]; exact bgU_nei (by decide)
      have g16_5 : w16 27 17 = w15 27 17 := by rw [e16]; exact bgU_nei (by decide)
      have g16_6 : w16 27 19 = w15 27 19 := by rw [e16]; exact bgU_nei (by decide)
      have g16_7 : w16 27 20 = w15 27 20 := by rw [e16]; exact bgU_nei (by decide)
      refine bg_iconst C d_mo_format_76 ?_
      exact bg_iret C d_mo_format_77 (fun h => by cases h) (Or.inr ⟨rfl, by omega⟩) (Nat.zero_le _) (Nat.zero_le _) ⟨_, rfl, hI16, bmB_clear (fun e h0 h1 => (A16_28 e).trans (r12_0 e h0 h1)) (by omega) (by omega)⟩
    · refine bg_iconst C d_mo_format_64 ?_
      exact bg_iret C d_mo_format_65 (fun h => by cases h) (Or.inr ⟨rfl, by omega⟩) (Nat.zero_le _) (Nat.zero_le _) ⟨_, rfl, hI13, bmB_clear (fun e h0 h1 => (A13_28 e).trans (r12_0 e h0 h1)) (by omega) (by omega)⟩
  · refine bg_iconst C d_mo_format_31 ?_
    exact bg_iret C d_mo_format_32 (fun h => by cases h) (Or.inr ⟨rfl, by omega⟩) (Nat.zero_le _) (Nat.zero_le _) ⟨_, rfl, hI6, bmB_1 (bmE_of A6_28 A6_30 hB.2.1) (by omega) (by omega) (by omega)⟩
def S_mo_begin : List (Nat × Option Int) := [(27, some 0), (27, some 6), (27, some 7), (31, none)]
def rm_mo_begin : Room := { frames := 1, cells := 0, slots := 0, locals := 21 }
set_option maxRecDepth 20000 in
set_option maxHeartbeats 4000000 in
theorem m_mo_begin {G : bgGl} (hG : bgOk G) {w0 : bgW} (hw : moN w0) (z0 : bmB w0) : bgM G false 0 0 y_mo_begin (.code y_mo_begin co_mo_begin 1 none) rm_mo_begin [br 27] w0 (bgPv (fun w' => moRel S_mo_begin w0 w' ∧ bmB w')) := by
  refine bg_met hG (by decide +kernel) (bg_cat rfl) (Nat.le_of_ble_eq_true rfl) ?_
  intro K hK hR hex C
  subst hK
  have hI := moRel.rfl (S := S_mo_begin) hw
  show bgX K true 0 0 _ w0 0 [some (br 27)] []
  have hB := z0
  have hB1 := hB.1
  have hs17 := hw 27 17 0 51 rfl
  have hs7 := hw 27 7 0 20 rfl
  have hs19 := hw 27 19 0 1 rfl
  have hs6 := hw 27 6 0 1 rfl
  have hs5 := hw 27 5 0 1 rfl
  refine bg_aload_n C d_mo_begin_0 rfl rfl ?_
  refine bg_aload_n C d_mo_begin_1 rfl rfl ?_
  refine bg_ci C (m_mo_isDown hG hI.1) (bg_invV C cf_mo rfl tw_776 ti_mo_isDown ts_mo_isDown tc_mo_isDown tw_42 ⟨by decide, by decide⟩ (nA := 0) (by decide +kernel) rfl d_mo_begin_2 rfl) rfl (by rw [hR]; exact ⟨by decide, by decide⟩) (by rw [hR]; exact ⟨by decide, by decide⟩) (Nat.le_of_ble_eq_true rfl) rfl (fun v1 w1 p1 => ?_)
  obtain ⟨rfl, r1_0, r1_1, r1_2, r1_3⟩ := p1
  refine bg_if_ne (tgt := 15) C d_mo_begin_5 (by decide) ⟨by omega, by omega⟩ (fun h2 => ?_) (fun h2 => ?_)
  · refine bg_iconst C d_mo_begin_15 ?_
    refine bg_goto (l := 20) C d_mo_begin_16 (by decide) ?_
    refine bm_puti C cf_mo hI 0 0 rfl rfl (by decide) rfl rfl rfl (by omega) (by omega) rfl (Or.inl rfl) tw_677 d_mo_begin_20 (fun w3 hI3 e3 => ?_)
    have A3_28 : ∀ i, w3 28 i = w0 28 i := fun i => by rw [e3]; exact bgU_ne i (by decide)
    have A3_29 : ∀ i, w3 29 i = w0 29 i := fun i => by rw [e3]; exact bgU_ne i (by decide)
    have A3_30 : ∀ i, w3 30 i = w0 30 i := fun i => by rw [e3]; exact bgU_ne i (by decide)
    have A3_34 : ∀ i, w3 34 i = w0 34 i := fun i => by rw [e3]; exact bgU_ne i (by decide)
    have g3_0 : w3 27 0 = 1 := by rw [e3]; exact bgU_eq
    have g3_1 : w3 27 4 = w0 27 4 := by rw [e3]; exact bgU_nei (by decide)
    have g3_2 : w3 27 5 = w0 27 5 := by rw [e3]; exact bgU_nei (by decide)
    have g3_3 : w3 27 6 = w0 27 6 := by rw [e3]; exact bgU_nei (by decide)
    have g3_4 : w3 27 7 = w0 27 7 := by rw [e3]; exact bgU_nei (by decide)
    have g3_5 : w3 27 17 = w0 27 17 := by rw [e3]; exact bgU_nei (by decide)
    have g3_6 : w3 27 19 = w0 27 19 := by rw [e3]; exact bgU_nei (by decide)
    have g3_7 : w3 27 20 = w0 27 20 := by rw [e3]; exact bgU_nei (by decide)
    refine bg_aload_n C d_mo_begin_23 rfl rfl ?_
    refine bm_geti C cf_mo hI3 0 0 rfl rfl (by decide) rfl rfl tw_677 d_mo_begin_24 (fun v4 e4 a4 b4 => ?_)
    refine bg_if_ne (tgt := 39) C d_mo_begin_27 (by decide) ⟨by omega, by omega⟩ (fun h5 => ?_) (fun h5 => by exfalso; omega)
    exact bg_ret C d_mo_begin_39 (fun h => by cases h) rfl (Nat.zero_le _) (Nat.zero_le _) ⟨rfl, hI3, by first | exact bmB_of A3_28 A3_29 A3_30 A3_34 (by omega) (by omega) (by omega) (by omega) (by omega) (by omega) (by omega) hB | exact bmB_J A3_28 A3_29 A3_30 A3_34 (by omega) (by omega) (by omega) (hB.2.2.1 (by omega) (by omega) (Or.inl (by omega))) hB⟩
  · refine bg_aload_n C d_mo_begin_8 rfl rfl ?_
    refine bm_geti C cf_mo hI 6 6 rfl rfl (by decide) rfl rfl tw_683 d_mo_begin_9 (fun v6 e6 a6 b6 => ?_)
    refine bg_if_eq (tgt := 19) C d_mo_begin_12 (by decide) ⟨by omega, by omega⟩ (fun h7 => ?_) (fun h7 => ?_)
    · refine bg_iconst C d_mo_begin_19 ?_
      refine bm_puti C cf_mo hI 0 0 rfl rfl (by decide) rfl rfl rfl (by omega) (by omega) rfl (Or.inl rfl) tw_677 d_mo_begin_20 (fun w8 hI8 e8 => ?_)
      have A8_28 : ∀ i, w8 28 i = w0 28 i := fun i => by rw [e8]; exact bgU_ne i (by decide)
      have A8_29 : ∀ i, w8 29 i = w0 29 i := fun i => by rw [e8]; exact bgU_ne i (by decide)
      have A8_30 : ∀ i, w8 30 i = w0 30 i := fun i => by rw [e8]; exact bgU_ne i (by decide)
      have A8_34 : ∀ i, w8 34 i = w0 34 i := fun i => by rw [e8]; exact bgU_ne i (by decide)
      have g8_0 : w8 27 0 = 0 := by rw [e8]; exact bgU_eq
      have g8_1 : w8 27 4 = w0 27 4 := by rw [e8]; exact bgU_nei (by decide)
      have g8_2 : w8 27 5 = w0 27 5 := by rw [e8]; exact bgU_nei (by decide)
      have g8_3 : w8 27 6 = w0 27 6 := by rw [e8]; exact bgU_nei (by decide)
      have g8_4 : w8 27 7 = w0 27 7 := by rw [e8]; exact bgU_nei (by decide)
      have g8_5 : w8 27 17 = w0 27 17 := by rw [e8]; exact bgU_nei (by decide)
      have g8_6 : w8 27 19 = w0 27 19 := by rw [e8]; exact bgU_nei (by decide)
      have g8_7 : w8 27 20 = w0 27 20 := by rw [e8]; exact bgU_nei (by decide)
      refine bg_aload_n C d_mo_begin_23 rfl rfl ?_
      refine bm_geti C cf_mo hI8 0 0 rfl rfl (by decide) rfl rfl tw_677 d_mo_begin_24 (fun v9 e9 a9 b9 => ?_)
      refine bg_if_ne (tgt := 39) C d_mo_begin_27 (by decide) ⟨by omega, by omega⟩ (fun h10 => by exfalso; omega) (fun h10 => ?_)
      refine bg_aload_n C d_mo_begin_30 rfl rfl ?_
      refine bg_iconst C d_mo_begin_31 ?_
      refine bm_puti C cf_mo hI8 6 6 rfl rfl (by decide) rfl rfl rfl (by omega) (by omega) rfl (Or.inr ⟨rfl, by omega⟩) tw_683 d_mo_begin_32 (fun w11 hI11 e11 => ?_)
      have A11_28 : ∀ i, w11 28 i = w0 28 i := fun i => by rw [e11]; exact (bgU_ne i (by decide)).trans (A8_28 i)
      have A11_29 : ∀ i, w11 29 i = w0 29 i := fun i => by rw [e11]; exact (bgU_ne i (by decide)).trans (A8_29 i)
      have A11_30 : ∀ i, w11 30 i = w0 30 i := fun i => by rw [e11]; exact (bgU_ne i (by decide)).trans (A8_30 i)
      have A11_34 : ∀ i, w11 34 i = w0 34 i := fun i => by rw [e11]; exact (bgU_ne i (by decide)).trans (A8_34 i)
      have g11_0 : w11 27 0 = w8 27 0 := by rw [e11]; exact bgU_nei (by decide)
      have g11_1 : w11 27 4 = w8 27 4 := by rw [e11]; exact bgU_nei (by decide)
      have g11_2 : w11 27 5 = w8 27 5 := by rw [e11]; exact bgU_nei (by decide)
      have g11_3 : w11 27 6 = 1 := by rw [e11]; exact bgU_eq
      have g11_4 : w11 27 7 = w8 27 7 := by rw [e11]; exact bgU_nei (by decide)
      have g11_5 : w11 27 17 = w8 27 17 := by rw [e11]; exact bgU_nei (by decide)
      have g11_6 : w11 27 19 = w8 27 19 := by rw [e11]; exact bgU_nei (by decide)
      have g11_7 : w11 27 20 = w8 27 20 := by rw [e11]; exact bgU_nei (by decide)
      refine bg_aload_n C d_mo_begin_35 rfl rfl ?_
      refine bg_cv C (m_mo_untouch hG hI11.1) (bg_invV C cf_mo rfl tw_756 ti_mo_untouch ts_mo_untouch tc_mo_untouch tw_42 ⟨by decide, by decide⟩ (nA := 0) (by decide +kernel) rfl d_mo_begin_36 rfl) rfl (by rw [hR]; exact ⟨by decide, by decide⟩) (by rw [hR]; exact ⟨by decide, by decide⟩) (Nat.le_of_ble_eq_true rfl) rfl (fun w12 p12 => ?_)
      obtain ⟨j12, r12_0⟩ := p12
      have hI12 := hI11.trans j12 (by decide)
      have g12_0 : w12 27 0 = w11 27 0 := j12.2 27 0 rfl
      have g12_1 : w12 27 4 = w11 27 4 := j12.2 27 4 rfl
      have g12_2 : w12 27 5 = w11 27 5 := j12.2 27 5 rfl
      have g12_3 : w12 27 6 = w11 27 6 := j12.2 27 6 rfl
      have g12_5 : w12 27 17 = w11 27 17 := j12.2 27 17 rfl
      have g12_6 : w12 27 19 = w11 27 19 := j12.2 27 19 rfl
      have g12_7 : w12 27 20 = w11 27 20 := j12.2 27 20 rfl
      have A12_28 : ∀ i, w12 28 i = w0 28 i := fun i => (j12.2 28 i rfl).trans (A11_28 i)
      have A12_29 : ∀ i, w12 29 i = w0 29 i := fun i => (j12.2 29 i rfl).trans (A11_29 i)
      have A12_30 : ∀ i, w12 30 i = w0 30 i := fun i => (j12.2 30 i rfl).trans (A11_30 i)
      have A12_34 : ∀ i, w12 34 i = w0 34 i := fun i => (j12.2 34 i rfl).trans (A11_34 i)
      exact bg_ret C d_mo_begin_39 (fun h => by cases h) rfl (Nat.zero_le _) (Nat.zero_le _) ⟨rfl, hI12, by first | exact bmB_of A12_28 A12_29 A12_30 A12_34 (by omega) (by omega) (by omega) (by omega) (by omega) (by omega) (by omega) hB | exact bmB_J A12_28 A12_29 A12_30 A12_34 (by omega) (by omega) (by omega) (hB.2.2.1 (by omega) (by omega) (Or.inl (by omega))) hB⟩
    · refine bg_iconst C d_mo_begin_15 ?_
      refine bg_goto (l := 20) C d_mo_begin_16 (by decide) ?_
      refine bm_puti C cf_mo hI 0 0 rfl rfl (by decide) rfl rfl rfl (by omega) (by omega) rfl (Or.inl rfl) tw_677 d_mo_begin_20 (fun w13 hI13 e13 => ?_)
      have A13_28 : ∀ i, w13 28 i = w0 28 i := fun i => by rw [e13]; exact bgU_ne i (by decide)
      have A13_29 : ∀ i, w13 29 i = w0 29 i := fun i => by rw [e13]; exact bgU_ne i (by decide)
      have A13_30 : ∀ i, w13 30 i = w0 30 i := fun i => by rw [e13]; exact bgU_ne i (by decide)
      have A13_34 : ∀ i, w13 34 i = w0 34 i := fun i => by rw [e13]; exact bgU_ne i (by decide)
      have g13_0 : w13 27 0 = 1 := by rw [e13]; exact bgU_eq
      have g13_1 : w13 27 4 = w0 27 4 := by rw [e13]; exact bgU_nei (by decide)
      have g13_2 : w13 27 5 = w0 27 5 := by rw [e13]; exact bgU_nei (by decide)
      have g13_3 : w13 27 6 = w0 27 6 := by rw [e13]; exact bgU_nei (by decide)
      have g13_4 : w13 27 7 = w0 27 7 := by rw [e13]; exact bgU_nei (by decide)
      have g13_5 : w13 27 17 = w0 27 17 := by rw [e13]; exact bgU_nei (by decide)
      have g13_6 : w13 27 19 = w0 27 19 := by rw [e13]; exact bgU_nei (by decide)
      have g13_7 : w13 27 20 = w0 27 20 := by rw [e13]; exact bgU_nei (by decide)
      refine bg_aload_n C d_mo_begin_23 rfl rfl ?_
      refine bm_geti C cf_mo hI13 0 0 rfl rfl (by decide) rfl rfl tw_677 d_mo_begin_24 (fun v14 e14 a14 b14 => ?_)
      refine bg_if_ne (tgt := 39) C d_mo_begin_27 (by decide) ⟨by omega, by omega⟩ (fun h15 => ?_) (fun h15 => by exfalso; omega)
      exact bg_ret C d_mo_begin_39 (fun h => by cases h) rfl (Nat.zero_le _) (Nat.zero_le _) ⟨rfl, hI13, by first | exact bmB_of A13_28 A13_29 A13_30 A13_34 (by omega) (by omega) (by omega) (by omega) (by omega) (by omega) (by omega) hB | exact bmB_J A13_28 A13_29 A13_30 A13_34 (by omega) (by omega) (by omega) (hB.2.2.1 (by omega) (by omega) (Or.inl (by omega))) hB⟩
def S_mo_add : List (Nat × Option Int) := [(27, some 0), (27, some 7), (27, some 19), (28, none), (29, none), (30, none), (31, none)]
def rm_mo_add : Room := { frames := 1, cells := 0, slots := 0, locals := 22 }
set_option maxRecDepth 20000 in
set_option maxHeartbeats 4000000 in
theorem m_mo_add {G : bgGl} (hG : bgOk G) {w0 : bgW} (hw : moN w0) {f t x : Int} (z0 : -2147483648 ≤ f) (z1 : f ≤ 2147483647) (z2 : -2147483648 ≤ t) (z3 : t ≤ 2147483647) (z4 : -2147483648 ≤ x) (z5 : x ≤ 2147483647) (z6 : bmB w0) : bgM G false 0 0 y_mo_add (.code y_mo_add co_mo_add 5 (some .int)) rm_mo_add [br 27, bi f, bi t, bi x] w0 (bgPi (fun v w' => moRel S_mo_add w0 w' ∧ bmB w')) := by
  refine bg_met hG (by decide +kernel) (bg_cat rfl) (Nat.le_of_ble_eq_true rfl) ?_
  intro K hK hR hex C
  subst hK
  have hI := moRel.rfl (S := S_mo_add) hw
  show bgX K true 0 0 _ w0 0 [some (br 27), some (bi f), some (bi t), some (bi x), none] []
  have hB := z6
  have hB1 := hB.1
  have hs17 := hw 27 17 0 51 rfl
  have hs7 := hw 27 7 0 20 rfl
  have hs19 := hw 27 19 0 1 rfl
  have hs6 := hw 27 6 0 1 rfl
  have hs5 := hw 27 5 0 1 rfl
  refine bg_aload_n C d_mo_add_0 rfl rfl ?_
  refine bg_aload_n C d_mo_add_1 rfl rfl ?_
  refine bg_ci C (m_mo_isDown hG hI.1) (bg_invV C cf_mo rfl tw_776 ti_mo_isDown ts_mo_isDown tc_mo_isDown tw_42 ⟨by decide, by decide⟩ (nA := 0) (by decide +kernel) rfl d_mo_add_2 rfl) rfl (by rw [hR]; exact ⟨by decide, by decide⟩) (by rw [hR]; exact ⟨by decide, by decide⟩) (Nat.le_of_ble_eq_true rfl) rfl (fun v1 w1 p1 => ?_)
  obtain ⟨rfl, r1_0, r1_1, r1_2, r1_3⟩ := p1
  refine bg_if_ne (tgt := 15) C d_mo_add_5 (by decide) ⟨by omega, by omega⟩ (fun h2 => ?_) (fun h2 => ?_)
  · refine bg_iconst C d_mo_add_15 ?_
    refine bg_goto (l := 73) C d_mo_add_16 (by decide) ?_
    refine bm_puti C cf_mo hI 0 0 rfl rfl (by decide) rfl rfl rfl (by omega) (by omega) rfl (Or.inl rfl) tw_677 d_mo_add_73 (fun w3 hI3 e3 => ?_)
    have A3_28 : ∀ i, w3 28 i = w0 28 i := fun i => by rw [e3]; exact bgU_ne i (by decide)
    have A3_29 : ∀ i, w3 29 i = w0 29 i := fun i => by rw [e3]; exact bgU_ne i (by decide)
    have A3_30 : ∀ i, w3 30 i = w0 30 i := fun i => by rw [e3]; exact bgU_ne i (by decide)
    have A3_34 : ∀ i, w3 34 i = w0 34 i := fun i => by rw [e3]; exact bgU_ne i (by decide)
    have g3_0 : w3 27 0 = 1 := by rw [e3]; exact bgU_eq
    have g3_1 : w3 27 4 = w0 27 4 := by rw [e3]; exact bgU_nei (by decide)
    have g3_2 : w3 27 5 = w0 27 5 := by rw [e3]; exact bgU_nei (by decide)
    have g3_3 : w3 27 6 = w0 27 6 := by rw [e3]; exact bgU_nei (by decide)
    have g3_4 : w3 27 7 = w0 27 7 := by rw [e3]; exact bgU_nei (by decide)
    have g3_5 : w3 27 17 = w0 27 17 := by rw [e3]; exact bgU_nei (by decide)
    have g3_6 : w3 27 19 = w0 27 19 := by rw [e3]; exact bgU_nei (by decide)
    have g3_7 : w3 27 20 = w0 27 20 := by rw [e3]; exact bgU_nei (by decide)
    refine bg_aload_n C d_mo_add_76 rfl rfl ?_
    refine bm_geti C cf_mo hI3 0 0 rfl rfl (by decide) rfl rfl tw_677 d_mo_add_77 (fun v4 e4 a4 b4 => ?_)
    refine bg_if_le (tgt := 85) C d_mo_add_80 (by decide) ⟨by omega, by omega⟩ (fun h5 => by exfalso; omega) (fun h5 => ?_)
    refine bg_iconst C d_mo_add_83 ?_
    exact bg_iret C d_mo_add_84 (fun h => by cases h) (Or.inl rfl) (Nat.zero_le _) (Nat.zero_le _) ⟨_, rfl, hI3, bmB_of A3_28 A3_29 A3_30 A3_34 (by omega) (by omega) (by omega) (by omega) (by omega) (by omega) (by omega) hB⟩
  · refine bg_aload_n C d_mo_add_8 rfl rfl ?_
    refine bm_geti C cf_mo hI 6 6 rfl rfl (by decide) rfl rfl tw_683 d_mo_add_9 (fun v6 e6 a6 b6 => ?_)
    refine bg_if_ne (tgt := 19) C d_mo_add_12 (by decide) ⟨by omega, by omega⟩ (fun h7 => ?_) (fun h7 => ?_)
    · refine bg_iload_n C d_mo_add_19 rfl rfl ?_
      refine bg_ci C (m_mo_isVertex hG hI.1 (by omega) (by omega)) (bg_invS C tw_784 tt_mo_isVertex tc_mo_isVertex tw_42 ⟨by decide, by decide⟩ (nA := 1) (by decide +kernel) rfl d_mo_add_20 rfl) rfl (by rw [hR]; exact ⟨by decide, by decide⟩) (by rw [hR]; exact ⟨by decide, by decide⟩) (Nat.le_of_ble_eq_true rfl) rfl (fun v8 w8 p8 => ?_)
      obtain ⟨rfl, r8_0, r8_1, r8_2⟩ := p8
      refine bg_if_eq (tgt := 45) C d_mo_add_23 (by decide) ⟨by omega, by omega⟩ (fun h9 => ?_) (fun h9 => ?_)
      · refine bg_iconst C d_mo_add_45 ?_
        refine bg_goto (l := 73) C d_mo_add_46 (by decide) ?_
        refine bm_puti C cf_mo hI 0 0 rfl rfl (by decide) rfl rfl rfl (by omega) (by omega) rfl (Or.inl rfl) tw_677 d_mo_add_73 (fun w10 hI10 e10 => ?_)
        have A10_28 : ∀ i, w10 28 i = w0 28 i := fun i => by rw [e10]; exact bgU_ne i (by decide)
        have A10_29 : ∀ i, w10 29 i = w0 29 i := fun i => by rw [e10]; exact bgU_ne i (by decide)
        have A10_30 : ∀ i, w10 30 i = w0 30 i := fun i => by rw [e10]; exact bgU_ne i (by decide)
        have A10_34 : ∀ i, w10 34 i = w0 34 i := fun i => by rw [e10]; exact bgU_ne i (by decide)
        have g10_0 : w10 27 0 = 2 := by rw [e10]; exact bgU_eq
        have g10_1 : w10 27 4 = w0 27 4 := by rw [e10]; exact bgU_nei (by decide)
        have g10_2 : w10 27 5 = w0 27 5 := by rw [e10]; exact bgU_nei (by decide)
        have g10_3 : w10 27 6 = w0 27 6 := by rw [e10]; exact bgU_nei (by decide)
        have g10_4 : w10 27 7 = w0 27 7 := by rw [e10]; exact bgU_nei (by decide)
        have g10_5 : w10 27 17 = w0 27 17 := by rw [e10]; exact bgU_nei (by decide)
        have g10_6 : w10 27 19 = w0 27 19 := by rw [e10]; exact bgU_nei (by decide)
        have g10_7 : w10 27 20 = w0 27 20 := by rw [e10]; exact bgU_nei (by decide)
        refine bg_aload_n C d_mo_add_76 rfl rfl ?_
        refine bm_geti C cf_mo hI10 0 0 rfl rfl (by decide) rfl rfl tw_677 d_mo_add_77 (fun v11 e11 a11 b11 => ?_)
        refine bg_if_le (tgt := 85) C d_mo_add_80 (by decide) ⟨by omega, by omega⟩ (fun h12 => by exfalso; omega) (fun h12 => ?_)
        refine bg_iconst C d_mo_add_83 ?_
        exact bg_iret C d_mo_add_84 (fun h => by cases h) (Or.inl rfl) (Nat.zero_le _) (Nat.zero_le _) ⟨_, rfl, hI10, bmB_of A10_28 A10_29 A10_30 A10_34 (by omega) (by omega) (by omega) (by omega) (by omega) (by omega) (by omega) hB⟩
      · refine bg_iload_n C d_mo_add_26 rfl rfl ?_
        refine bg_ci C (m_mo_isVertex hG hI.1 (by omega) (by omega)) (bg_invS C tw_784 tt_mo_isVertex tc_mo_isVertex tw_42 ⟨by decide, by decide⟩ (nA := 1) (by decide +kernel) rfl d_mo_add_27 rfl) rfl (by rw [hR]; exact ⟨by decide, by decide⟩) (by rw [hR]; exact ⟨by decide, by decide⟩) (Nat.le_of_ble_eq_true rfl) rfl (fun v13 w13 p13 => ?_)
        obtain ⟨rfl, r13_0, r13_1, r13_2⟩ := p13
        refine bg_if_eq (tgt := 45) C d_mo_add_30 (by decide) ⟨by omega, by omega⟩ (fun h14 => ?_) (fun h14 => ?_)
        · refine bg_iconst C d_mo_add_45 ?_
          refine bg_goto (l := 73) C d_mo_add_46 (by decide) ?_
          refine bm_puti C cf_mo hI 0 0 rfl rfl (by decide) rfl rfl rfl (by omega) (by omega) rfl (Or.inl rfl) tw_677 d_mo_add_73 (fun w15 hI15 e15 => ?_)
          have A15_28 : ∀ i, w15 28 i = w0 28 i := fun i => by rw [e15]; exact bgU_ne i (by decide)
          have A15_29 : ∀ i, w15 29 i = w0 29 i := fun i => by rw [e15]; exact bgU_ne i (by decide)
          have A15_30 : ∀ i, w15 30 i = w0 30 i := fun i => by rw [e15]; exact bgU_ne i (by decide)
          have A15_34 : ∀ i, w15 34 i = w0 34 i := fun i => by rw [e15]; exact bgU_ne i (by decide)
          have g15_0 : w15 27 0 = 2 := by rw [e15]; exact bgU_eq
          have g15_1 : w15 27 4 = w0 27 4 := by rw [e15]; exact bgU_nei (by decide)
          have g15_2 : w15 27 5 = w0 27 5 := by rw [e15]; exact bgU_nei (by decide)
          have g15_3 : w15 27 6 = w0 27 6 := by rw [e15]; exact bgU_nei (by decide)
          have g15_4 : w15 27 7 = w0 27 7 := by rw [e15]; exact bgU_nei (by decide)
          have g15_5 : w15 27 17 = w0 27 17 := by rw [e15]; exact bgU_nei (by decide)
          have g15_6 : w15 27 19 = w0 27 19 := by rw [e15]; exact bgU_nei (by decide)
          have g15_7 : w15 27 20 = w0 27 20 := by rw [e15]; exact bgU_nei (by decide)
          refine bg_aload_n C d_mo_add_76 rfl rfl ?_
          refine bm_geti C cf_mo hI15 0 0 rfl rfl (by decide) rfl rfl tw_677 d_mo_add_77 (fun v16 e16 a16 b16 => ?_)
          refine bg_if_le (tgt := 85) C d_mo_add_80 (by decide) ⟨by omega, by omega⟩ (fun h17 => by exfalso; omega) (fun h17 => ?_)
          refine bg_iconst C d_mo_add_83 ?_
          exact bg_iret C d_mo_add_84 (fun h => by cases h) (Or.inl rfl) (Nat.zero_le _) (Nat.zero_le _) ⟨_, rfl, hI15, bmB_of A15_28 A15_29 A15_30 A15_34 (by omega) (by omega) (by omega) (by omega) (by omega) (by omega) (by omega) hB⟩
        · refine bg_iload_n C d_mo_add_33 rfl rfl ?_
          refine bg_iconst C d_mo_add_34 ?_
          refine bg_icmp_lt (tgt := 45) C d_mo_add_35 (by decide) ⟨by omega, by omega⟩ ⟨by omega, by omega⟩ (fun h18 => ?_) (fun h18 => ?_)
          · refine bg_iconst C d_mo_add_45 ?_
            refine bg_goto (l := 73) C d_mo_add_46 (by decide) ?_
            refine bm_puti C cf_mo hI 0 0 rfl rfl (by decide) rfl rfl rfl (by omega) (by omega) rfl (Or.inl rfl) tw_677 d_mo_add_73 (fun w19 hI19 e19 => ?_)
            have A19_28 : ∀ i, w19 28 i = w0 28 i := fun i => by rw [e19]; exact bgU_ne i (by decide)
            have A19_29 : ∀ i, w19 29 i = w0 29 i := fun i => by rw [e19]; exact bgU_ne i (by decide)
            have A19_30 : ∀ i, w19 30 i = w0 30 i := fun i => by rw [e19]; exact bgU_ne i (by decide)
            have A19_34 : ∀ i, w19 34 i = w0 34 i := fun i => by rw [e19]; exact bgU_ne i (by decide)
            have g19_0 : w19 27 0 = 2 := by rw [e19]; exact bgU_eq
            have g19_1 : w19 27 4 = w0 27 4 := by rw [e19]; exact bgU_nei (by decide)
            have g19_2 : w19 27 5 = w0 27 5 := by rw [e19]; exact bgU_nei (by decide)
            have g19_3 : w19 27 6 = w0 27 6 := by rw [e19]; exact bgU_nei (by decide)
            have g19_4 : w19 27 7 = w0 27 7 := by rw [e19]; exact bgU_nei (by decide)
            have g19_5 : w19 27 17 = w0 27 17 := by rw [e19]; exact bgU_nei (by decide)
            have g19_6 : w19 27 19 = w0 27 19 := by rw [e19]; exact bgU_nei (by decide)
            have g19_7 : w19 27 20 = w0 27 20 := by rw [e19]; exact bgU_nei (by decide)
            refine bg_aload_n C d_mo_add_76 rfl rfl ?_
            refine bm_geti C cf_mo hI19 0 0 rfl rfl (by decide) rfl rfl tw_677 d_mo_add_77 (fun v20 e20 a20 b20 => ?_)
            refine bg_if_le (tgt := 85) C d_mo_add_80 (by decide) ⟨by omega, by omega⟩ (fun h21 => by exfalso; omega) (fun h21 => ?_)
            refine bg_iconst C d_mo_add_83 ?_
            exact bg_iret C d_mo_add_84 (fun h => by cases h) (Or.inl rfl) (Nat.zero_le _) (Nat.zero_le _) ⟨_, rfl, hI19, bmB_of A19_28 A19_29 A19_30 A19_34 (by omega) (by omega) (by omega) (by omega) (by omega) (by omega) (by omega) hB⟩
          · refine bg_iload_n C d_mo_add_38 rfl rfl ?_
            refine bg_sipush C d_mo_add_39 (by decide +kernel) ?_
            refine bg_icmp_le (tgt := 49) C d_mo_add_42 (by decide) ⟨by omega, by omega⟩ ⟨by omega, by omega⟩ (fun h22 => ?_) (fun h22 => ?_)
            · refine bg_aload_n C d_mo_add_49 rfl rfl ?_
              refine bg_ci C (m_mo_visible hG hI.1) (bg_invV C cf_mo rfl tw_787 ti_mo_visible ts_mo_visible tc_mo_visible tw_42 ⟨by decide, by decide⟩ (nA := 0) (by decide +kernel) rfl d_mo_add_50 rfl) rfl (by rw [hR]; exact ⟨by decide, by decide⟩) (by rw [hR]; exact ⟨by decide, by decide⟩) (Nat.le_of_ble_eq_true rfl) rfl (fun v23 w23 p23 => ?_)
              obtain ⟨rfl, r23_0, r23_1, r23_2⟩ := p23
              refine bg_sipush C d_mo_add_53 (by decide +kernel) ?_
              refine bg_icmp_eq (tgt := 68) C d_mo_add_56 (by decide) ⟨by omega, by omega⟩ ⟨by omega, by omega⟩ (fun h24 => ?_) (fun h24 => ?_)
              · refine bg_iconst C d_mo_add_68 ?_
                refine bg_goto (l := 73) C d_mo_add_69 (by decide) ?_
                refine bm_puti C cf_mo hI 0 0 rfl rfl (by decide) rfl rfl rfl (by omega) (by omega) rfl (Or.inl rfl) tw_677 d_mo_add_73 (fun w25 hI25 e25 => ?_)
                have A25_28 : ∀ i, w25 28 i = w0 28 i := fun i => by rw [e25]; exact bgU_ne i (by decide)
                have A25_29 : ∀ i, w25 29 i = w0 29 i := fun i => by rw [e25]; exact bgU_ne i (by decide)
                have A25_30 : ∀ i, w25 30 i = w0 30 i := fun i => by rw [e25]; exact bgU_ne i (by decide)
                have A25_34 : ∀ i, w25 34 i = w0 34 i := fun i => by rw [e25]; exact bgU_ne i (by decide)
                have g25_0 : w25 27 0 = 3 := by rw [e25]; exact bgU_eq
                have g25_1 : w25 27 4 = w0 27 4 := by rw [e25]; exact bgU_nei (by decide)
                have g25_2 : w25 27 5 = w0 27 5 := by rw [e25]; exact bgU_nei (by decide)
                have g25_3 : w25 27 6 = w0 27 6 := by rw [e25]; exact bgU_nei (by decide)
                have g25_4 : w25 27 7 = w0 27 7 := by rw [e25]; exact bgU_nei (by decide)
                have g25_5 : w25 27 17 = w0 27 17 := by rw [e25]; exact bgU_nei (by decide)
                have g25_6 : w25 27 19 = w0 27 19 := by rw [e25]; exact bgU_nei (by decide)
                have g25_7 : w25 27 20 = w0 27 20 := by rw [e25]; exact bgU_nei (by decide)
                refine bg_aload_n C d_mo_add_76 rfl rfl ?_
                refine bm_geti C cf_mo hI25 0 0 rfl rfl (by decide) rfl rfl tw_677 d_mo_add_77 (fun v26 e26 a26 b26 => ?_)
                refine bg_if_le (tgt := 85) C d_mo_add_80 (by decide) ⟨by omega, by omega⟩ (fun h27 => by exfalso; omega) (fun h27 => ?_)
                refine bg_iconst C d_mo_add_83 ?_
                exact bg_iret C d_mo_add_84 (fun h => by cases h) (Or.inl rfl) (Nat.zero_le _) (Nat.zero_le _) ⟨_, rfl, hI25, bmB_of A25_28 A25_29 A25_30 A25_34 (by omega) (by omega) (by omega) (by omega) (by omega) (by omega) (by omega) hB⟩
              · refine bg_aload_n C d_mo_add_59 rfl rfl ?_
                refine bm_geti C cf_mo hI 7 7 rfl rfl (by decide) rfl rfl tw_684 d_mo_add_60 (fun v28 e28 a28 b28 => ?_)
                refine bg_bipush C d_mo_add_63 (by decide +kernel) ?_
                refine bg_icmp_ne (tgt := 72) C d_mo_add_65 (by decide) ⟨by omega, by omega⟩ ⟨by omega, by omega⟩ (fun h29 => ?_) (fun h29 => ?_)
                · refine bg_iconst C d_mo_add_72 ?_
                  refine bm_puti C cf_mo hI 0 0 rfl rfl (by decide) rfl rfl rfl (by omega) (by omega) rfl (Or.inl rfl) tw_677 d_mo_add_73 (fun w30 hI30 e30 => ?_)
                  have A30_28 : ∀ i, w30 28 i = w0 28 i := fun i => by rw [e30]; exact bgU_ne i (by decide)
                  have A30_29 : ∀ i, w30 29 i = w0 29 i := fun i => by rw [e30]; exact bgU_ne i (by decide)
                  have A30_30 : ∀ i, w30 30 i = w0 30 i := fun i => by rw [e30]; exact bgU_ne i (by decide)
                  have A30_34 : ∀ i, w30 34 i = w0 34 i := fun i => by rw [e30]; exact bgU_ne i (by decide)
                  have g30_0 : w30 27 0 = 0 := by rw [e30]; exact bgU_eq
                  have g30_1 : w30 27 4 = w0 27 4 := by rw [e30]; exact bgU_nei (by decide)
                  have g30_2 : w30 27 5 = w0 27 5 := by rw [e30]; exact bgU_nei (by decide)
                  have g30_3 : w30 27 6 = w0 27 6 := by rw [e30]; exact bgU_nei (by decide)
                  have g30_4 : w30 27 7 = w0 27 7 := by rw [e30]; exact bgU_nei (by decide)
                  have g30_5 : w30 27 17 = w0 27 17 := by rw [e30]; exact bgU_nei (by decide)
                  have g30_6 : w30 27 19 = w0 27 19 := by rw [e30]; exact bgU_nei (by decide)
                  have g30_7 : w30 27 20 = w0 27 20 := by rw [e30]; exact bgU_nei (by decide)
                  refine bg_aload_n C d_mo_add_76 rfl rfl ?_
                  refine bm_geti C cf_mo hI30 0 0 rfl rfl (by decide) rfl rfl tw_677 d_mo_add_77 (fun v31 e31 a31 b31 => ?_)
                  refine bg_if_le (tgt := 85) C d_mo_add_80 (by decide) ⟨by omega, by omega⟩ (fun h32 => ?_) (fun h32 => by exfalso; omega)
                  obtain ⟨y0, y1, y2, y3⟩ : ∃ e, 0 ≤ e ∧ e < 200 ∧ w0 28 (200 + e) = -1 := (r23_2).resolve_left (by omega)
                  have y4 : w30 28 (200 + y0) = -1 := (A30_28 _).trans y3
                  refine bg_iconst C d_mo_add_85 ?_
                  refine bg_istore C d_mo_add_86 (Nat.le_of_ble_eq_true rfl) ?_
                  refine bg_loop (α := Int) (fun a => (200 - a).toNat) (fun a => 0 ≤ a ∧ a ≤ y0) (fun a => (w30, [some (br 27), some (bi f), some (bi t), some (bi x), some (bi a)], [])) ?_ 0 ⟨by (try dsimp only) <;> omega, by omega⟩
                  rintro i33 ⟨q33_0, q33_1⟩ ih88
                  try dsimp only at ih88
                  try dsimp only at q33_0
                  try dsimp only at q33_1
                  try dsimp only
                  refine bg_aload_n C d_mo_add_88 rfl rfl ?_
                  refine bg_getr (i := 1) C cf_mo rfl (by decide) rfl tw_678 d_mo_add_89 ?_
                  refine bg_sipush C d_mo_add_92 (by decide +kernel) ?_
                  refine bg_iload C d_mo_add_95 rfl ?_
                  refine bg_iadd C d_mo_add_97 ?_
                  refine bm_iald C hI30 rfl rfl (by omega) (by omega) d_mo_add_98 (fun v34 e34 a34 b34 => ?_)
                  refine bg_iconst C d_mo_add_99 ?_
                  refine bg_icmp_eq (tgt := 109) C d_mo_add_100 (by decide) ⟨by omega, by omega⟩ ⟨by omega, by omega⟩ (fun h35 => ?_) (fun h35 => ?_)
                  · refine bg_aload_n C d_mo_add_109 rfl rfl ?_
                    refine bg_getr (i := 1) C cf_mo rfl (by decide) rfl tw_678 d_mo_add_110 ?_
                    refine bg_sipush C d_mo_add_113 (by decide +kernel) ?_
                    refine bg_iload C d_mo_add_116 rfl ?_
                    refine bg_iadd C d_mo_add_118 ?_
                    refine bg_iload_n C d_mo_add_119 rfl rfl ?_
                    refine bm_iast C hI30 rfl rfl rfl (by omega) (by omega) (by omega) (by omega) d_mo_add_120 (fun w36 hI36 e36 => ?_)
                    have A36_29 : ∀ i, w36 29 i = w0 29 i := fun i => by rw [e36]; exact (bgU_ne i (by decide)).trans (A30_29 i)
                    have A36_30 : ∀ i, w36 30 i = w0 30 i := fun i => by rw [e36]; exact (bgU_ne i (by decide)).trans (A30_30 i)
                    have A36_34 : ∀ i, w36 34 i = w0 34 i := fun i => by rw [e36]; exact (bgU_ne i (by decide)).trans (A30_34 i)
                    have g36_0 : w36 27 0 = w30 27 0 := by rw [e36]; exact bgU_ne _ (by decide)
                    have g36_1 : w36 27 4 = w30 27 4 := by rw [e36]; exact bgU_ne _ (by decide)
                    have g36_2 : w36 27 5 = w30 27 5 := by rw [e36]; exact bgU_ne _ (by decide)
                    have g36_3 : w36 27 6 = w30 27 6 := by rw [e36]; exact bgU_ne _ (by decide)
                    have g36_4 : w36 27 7 = w30 27 7 := by rw [e36]; exact bgU_ne _ (by decide)
                    have g36_5 : w36 27 17 = w30 27 17 := by rw [e36]; exact bgU_ne _ (by decide)
                    have g36_6 : w36 27 19 = w30 27 19 := by rw [e36]; exact bgU_ne _ (by decide)
                    have g36_7 : w36 27 20 = w30 27 20 := by rw [e36]; exact bgU_ne _ (by decide)
                    have a1 : ∀ i, w30 28 i = w0 28 i := A30_28
                    have b1 := e36
                    refine bg_aload_n C d_mo_add_121 rfl rfl ?_
                    refine bg_getr (i := 2) C cf_mo rfl (by decide) rfl tw_679 d_mo_add_122 ?_
                    refine bg_sipush C d_mo_add_125 (by decide +kernel) ?_
                    refine bg_iload C d_mo_add_128 rfl ?_
                    refine bg_iadd C d_mo_add_130 ?_
                    refine bg_iload_n C d_mo_add_131 rfl rfl ?_
                    refine bm_iast C hI36 rfl rfl rfl (by omega) (by omega) (by omega) (by omega) d_mo_add_132 (fun w37 hI37 e37 => ?_)
                    have A37_28 : ∀ i, w37 28 i = w36 28 i := fun i => by rw [e37]; exact bgU_ne i (by decide)
                    have A37_30 : ∀ i, w37 30 i = w0 30 i := fun i => by rw [e37]; exact (bgU_ne i (by decide)).trans (A36_30 i)
                    have A37_34 : ∀ i, w37 34 i = w0 34 i := fun i => by rw [e37]; exact (bgU_ne i (by decide)).trans (A36_34 i)
                    have g37_0 : w37 27 0 = w36 27 0 := by rw [e37]; exact bgU_ne _ (by decide)
                    have g37_1 : w37 27 4 = w36 27 4 := by rw [e37]; exact bgU_ne _ (by decide)
                    have g37_2 : w37 27 5 = w36 27 5 := by rw [e37]; exact bgU_ne _ (by decide)
                    have g37_3 : w37 27 6 = w36 27 6 := by rw [e37]; exact bgU_ne _ (by decide)
                    have g37_4 : w37 27 7 = w36 27 7 := by rw [e37]; exact bgU_ne _ (by decide)
                    have g37_5 : w37 27 17 = w36 27 17 := by rw [e37]; exact bgU_ne _ (by decide)
                    have g37_6 : w37 27 19 = w36 27 19 := by rw [e37]; exact bgU_ne _ (by decide)
                    have g37_7 : w37 27 20 = w36 27 20 := by rw [e37]; exact bgU_ne _ (by decide)
                    refine bg_aload_n C d_mo_add_133 rfl rfl ?_
                    refine bg_getr (i := 3) C cf_mo rfl (by decide) rfl tw_680 d_mo_add_134 ?_
                    refine bg_sipush C d_mo_add_137 (by decide +kernel) ?_
                    refine bg_iload C d_mo_add_140 rfl ?_
                    refine bg_iadd C d_mo_add_142 ?_
                    refine bg_iload_n C d_mo_add_143 rfl rfl ?_
                    refine bm_iast C hI37 rfl rfl rfl (by omega) (by omega) (by omega) (by omega) d_mo_add_144 (fun w38 hI38 e38 => ?_)
                    have A38_28 : ∀ i, w38 28 i = w36 28 i := fun i => by rw [e38]; exact (bgU_ne i (by decide)).trans (A37_28 i)
                    have A38_29 : ∀ i, w38 29 i = w37 29 i := fun i => by rw [e38]; exact bgU_ne i (by decide)
                    have A38_34 : ∀ i, w38 34 i = w0 34 i := fun i => by rw [e38]; exact (bgU_ne i (by decide)).trans (A37_34 i)
                    have g38_0 : w38 27 0 = w37 27 0 := by rw [e38]; exact bgU_ne _ (by decide)
                    have g38_1 : w38 27 4 = w37 27 4 := by rw [e38]; exact bgU_ne _ (by decide)
                    have g38_2 : w38 27 5 = w37 27 5 := by rw [e38]; exact bgU_ne _ (by decide)
                    have g38_3 : w38 27 6 = w37 27 6 := by rw [e38]; exact bgU_ne _ (by decide)
                    have g38_4 : w38 27 7 = w37 27 7 := by rw [e38]; exact bgU_ne _ (by decide)
                    have g38_5 : w38 27 17 = w37 27 17 := by rw [e38]; exact bgU_ne _ (by decide)
                    have g38_6 : w38 27 19 = w37 27 19 := by rw [e38]; exact bgU_ne _ (by decide)
                    have g38_7 : w38 27 20 = w37 27 20 := by rw [e38]; exact bgU_ne _ (by decide)
                    have a2 : ∀ i, w37 30 i = w0 30 i := A37_30
                    have b2 := e38
                    refine bg_aload_n C d_mo_add_145 rfl rfl ?_
                    refine bg_getr (i := 8) C cf_mo rfl (by decide) rfl tw_685 d_mo_add_146 ?_
                    refine bg_iload C d_mo_add_149 rfl ?_
                    refine bg_iconst C d_mo_add_151 ?_
                    refine bg_idiv C d_mo_add_152 (by omega) (by omega) (by omega) (by omega) ?_
                    refine bg_iconst C d_mo_add_153 ?_
                    refine bm_zast C hI38 rfl rfl rfl (by omega) (by omega) (by omega) (by omega) (by omega) d_mo_add_154 (fun w39 hI39 e39 => ?_)
                    have A39_28 : ∀ i, w39 28 i = w36 28 i := fun i => by rw [e39]; exact (bgU_ne i (by decide)).trans (A38_28 i)
                    have A39_29 : ∀ i, w39 29 i = w37 29 i := fun i => by rw [e39]; exact (bgU_ne i (by decide)).trans (A38_29 i)
                    have A39_30 : ∀ i, w39 30 i = w38 30 i := fun i => by rw [e39]; exact bgU_ne i (by decide)
                    have A39_34 : ∀ i, w39 34 i = w0 34 i := fun i => by rw [e39]; exact (bgU_ne i (by decide)).trans (A38_34 i)
                    have g39_0 : w39 27 0 = w38 27 0 := by rw [e39]; exact bgU_ne _ (by decide)
                    have g39_1 : w39 27 4 = w38 27 4 := by rw [e39]; exact bgU_ne _ (by decide)
                    have g39_2 : w39 27 5 = w38 27 5 := by rw [e39]; exact bgU_ne _ (by decide)
                    have g39_3 : w39 27 6 = w38 27 6 := by rw [e39]; exact bgU_ne _ (by decide)
                    have g39_4 : w39 27 7 = w38 27 7 := by rw [e39]; exact bgU_ne _ (by decide)
                    have g39_5 : w39 27 17 = w38 27 17 := by rw [e39]; exact bgU_ne _ (by decide)
                    have g39_6 : w39 27 19 = w38 27 19 := by rw [e39]; exact bgU_ne _ (by decide)
                    have g39_7 : w39 27 20 = w38 27 20 := by rw [e39]; exact bgU_ne _ (by decide)
                    refine bg_aload_n C d_mo_add_155 rfl rfl ?_
                    refine bg_dup C d_mo_add_156 rfl ?_
                    refine bm_geti C cf_mo hI39 7 7 rfl rfl (by decide) rfl rfl tw_684 d_mo_add_157 (fun v40 e40 a40 b40 => ?_)
                    refine bg_iconst C d_mo_add_160 ?_
                    refine bg_iadd C d_mo_add_161 ?_
                    refine bm_puti C cf_mo hI39 7 7 rfl rfl (by decide) rfl rfl rfl (by omega) (by omega) rfl (Or.inl rfl) tw_684 d_mo_add_162 (fun w41 hI41 e41 => ?_)
                    have A41_28 : ∀ i, w41 28 i = w36 28 i := fun i => by rw [e41]; exact (bgU_ne i (by decide)).trans (A39_28 i)
                    have A41_29 : ∀ i, w41 29 i = w37 29 i := fun i => by rw [e41]; exact (bgU_ne i (by decide)).trans (A39_29 i)
                    have A41_30 : ∀ i, w41 30 i = w38 30 i := fun i => by rw [e41]; exact (bgU_ne i (by decide)).trans (A39_30 i)
                    have A41_34 : ∀ i, w41 34 i = w0 34 i := fun i => by rw [e41]; exact (bgU_ne i (by decide)).trans (A39_34 i)
                    have g41_0 : w41 27 0 = w39 27 0 := by rw [e41]; exact bgU_nei (by decide)
                    have g41_1 : w41 27 4 = w39 27 4 := by rw [e41]; exact bgU_nei (by decide)
                    have g41_2 : w41 27 5 = w39 27 5 := by rw [e41]; exact bgU_nei (by decide)
                    have g41_3 : w41 27 6 = w39 27 6 := by rw [e41]; exact bgU_nei (by decide)
                    have g41_4 : w41 27 7 = (v40 + 1) := by rw [e41]; exact bgU_eq
                    have g41_5 : w41 27 17 = w39 27 17 := by rw [e41]; exact bgU_nei (by decide)
                    have g41_6 : w41 27 19 = w39 27 19 := by rw [e41]; exact bgU_nei (by decide)
                    have g41_7 : w41 27 20 = w39 27 20 := by rw [e41]; exact bgU_nei (by decide)
                    refine bg_aload_n C d_mo_add_165 rfl rfl ?_
                    refine bg_iconst C d_mo_add_166 ?_
                    refine bm_puti C cf_mo hI41 19 19 rfl rfl (by decide) rfl rfl rfl (by omega) (by omega) rfl (Or.inr ⟨rfl, by omega⟩) tw_696 d_mo_add_167 (fun w42 hI42 e42 => ?_)
                    have A42_28 : ∀ i, w42 28 i = w36 28 i := fun i => by rw [e42]; exact (bgU_ne i (by decide)).trans (A41_28 i)
                    have A42_29 : ∀ i, w42 29 i = w37 29 i := fun i => by rw [e42]; exact (bgU_ne i (by decide)).trans (A41_29 i)
                    have A42_30 : ∀ i, w42 30 i = w38 30 i := fun i => by rw [e42]; exact (bgU_ne i (by decide)).trans (A41_30 i)
                    have A42_34 : ∀ i, w42 34 i = w0 34 i := fun i => by rw [e42]; exact (bgU_ne i (by decide)).trans (A41_34 i)
                    have g42_0 : w42 27 0 = w41 27 0 := by rw [e42]; exact bgU_nei (by decide)
                    have g42_1 : w42 27 4 = w41 27 4 := by rw [e42]; exact bgU_nei (by decide)
                    have g42_2 : w42 27 5 = w41 27 5 := by rw [e42]; exact bgU_nei (by decide)
                    have g42_3 : w42 27 6 = w41 27 6 := by rw [e42]; exact bgU_nei (by decide)
                    have g42_4 : w42 27 7 = w41 27 7 := by rw [e42]; exact bgU_nei (by decide)
                    have g42_5 : w42 27 17 = w41 27 17 := by rw [e42]; exact bgU_nei (by decide)
                    have g42_6 : w42 27 19 = 1 := by rw [e42]; exact bgU_eq
                    have g42_7 : w42 27 20 = w41 27 20 := by rw [e42]; exact bgU_nei (by decide)
                    refine bg_iload C d_mo_add_170 rfl ?_
                    exact bg_iret C d_mo_add_172 (fun h => by cases h) (Or.inl rfl) (Nat.zero_le _) (Nat.zero_le _) ⟨_, rfl, hI42, bmB_2 (bmE_add b1 a1 b2 a2 A42_28 A42_30 (by omega) hB.2.1) (by omega) (by omega) (by omega) (by omega)⟩
                  · refine bg_iinc C d_mo_add_103 rfl ?_
                    refine bg_goto (l := 88) C d_mo_add_106 (by decide) ?_
                    exact ih88 (i33 + 1) ⟨by omega, by by_cases hc : i33 = y0 <;> first | omega | (exfalso; subst hc; omega)⟩ (by omega)
                · refine bg_iconst C d_mo_add_68 ?_
                  refine bg_goto (l := 73) C d_mo_add_69 (by decide) ?_
                  refine bm_puti C cf_mo hI 0 0 rfl rfl (by decide) rfl rfl rfl (by omega) (by omega) rfl (Or.inl rfl) tw_677 d_mo_add_73 (fun w43 hI43 e43 => ?_)
                  have A43_28 : ∀ i, w43 28 i = w0 28 i := fun i => by rw [e43]; exact bgU_ne i (by decide)
                  have A43_29 : ∀ i, w43 29 i = w0 29 i := fun i => by rw [e43]; exact bgU_ne i (by decide)
                  have A43_30 : ∀ i, w43 30 i = w0 30 i := fun i => by rw [e43]; exact bgU_ne i (by decide)
                  have A43_34 : ∀ i, w43 34 i = w0 34 i := fun i => by rw [e43]; exact bgU_ne i (by decide)
                  have g43_0 : w43 27 0 = 3 := by rw [e43]; exact bgU_eq
                  have g43_1 : w43 27 4 = w0 27 4 := by rw [e43]; exact bgU_nei (by decide)
                  have g43_2 : w43 27 5 = w0 27 5 := by rw [e43]; exact bgU_nei (by decide)
                  have g43_3 : w43 27 6 = w0 27 6 := by rw [e43]; exact bgU_nei (by decide)
                  have g43_4 : w43 27 7 = w0 27 7 := by rw [e43]; exact bgU_nei (by decide)
                  have g43_5 : w43 27 17 = w0 27 17 := by rw [e43]; exact bgU_nei (by decide)
                  have g43_6 : w43 27 19 = w0 27 19 := by rw [e43]; exact bgU_nei (by decide)
                  have g43_7 : w43 27 20 = w0 27 20 := by rw [e43]; exact bgU_nei (by decide)
                  refine bg_aload_n C d_mo_add_76 rfl rfl ?_
                  refine bm_geti C cf_mo hI43 0 0 rfl rfl (by decide) rfl rfl tw_677 d_mo_add_77 (fun v44 e44 a44 b44 => ?_)
                  refine bg_if_le (tgt := 85) C d_mo_add_80 (by decide) ⟨by omega, by omega⟩ (fun h45 => by exfalso; omega) (fun h45 => ?_)
                  refine bg_iconst C d_mo_add_83 ?_
                  exact bg_iret C d_mo_add_84 (fun h => by cases h) (Or.inl rfl) (Nat.zero_le _) (Nat.zero_le _) ⟨_, rfl, hI43, bmB_of A43_28 A43_29 A43_30 A43_34 (by omega) (by omega) (by omega) (by omega) (by omega) (by omega) (by omega) hB⟩
            · refine bg_iconst C d_mo_add_45 ?_
              refine bg_goto (l := 73) C d_mo_add_46 (by decide) ?_
              refine bm_puti C cf_mo hI 0 0 rfl rfl (by decide) rfl rfl rfl (by omega) (by omega) rfl (Or.inl rfl) tw_677 d_mo_add_73 (fun w46 hI46 e46 => ?_)
              have A46_28 : ∀ i, w46 28 i = w0 28 i := fun i => by rw [e46]; exact bgU_ne i (by decide)
              have A46_29 : ∀ i, w46 29 i = w0 29 i := fun i => by rw [e46]; exact bgU_ne i (by decide)
              have A46_30 : ∀ i, w46 30 i = w0 30 i := fun i => by rw [e46]; exact bgU_ne i (by decide)
              have A46_34 : ∀ i, w46 34 i = w0 34 i := fun i => by rw [e46]; exact bgU_ne i (by decide)
              have g46_0 : w46 27 0 = 2 := by rw [e46]; exact bgU_eq
              have g46_1 : w46 27 4 = w0 27 4 := by rw [e46]; exact bgU_nei (by decide)
              have g46_2 : w46 27 5 = w0 27 5 := by rw [e46]; exact bgU_nei (by decide)
              have g46_3 : w46 27 6 = w0 27 6 := by rw [e46]; exact bgU_nei (by decide)
              have g46_4 : w46 27 7 = w0 27 7 := by rw [e46]; exact bgU_nei (by decide)
              have g46_5 : w46 27 17 = w0 27 17 := by rw [e46]; exact bgU_nei (by decide)
              have g46_6 : w46 27 19 = w0 27 19 := by rw [e46]; exact bgU_nei (by decide)
              have g46_7 : w46 27 20 = w0 27 20 := by rw [e46]; exact bgU_nei (by decide)
              refine bg_aload_n C d_mo_add_76 rfl rfl ?_
              refine bm_geti C cf_mo hI46 0 0 rfl rfl (by decide) rfl rfl tw_677 d_mo_add_77 (fun v47 e47 a47 b47 => ?_)
              refine bg_if_le (tgt := 85) C d_mo_add_80 (by decide) ⟨by omega, by omega⟩ (fun h48 => by exfalso; omega) (fun h48 => ?_)
              refine bg_iconst C d_mo_add_83 ?_
              exact bg_iret C d_mo_add_84 (fun h => by cases h) (Or.inl rfl) (Nat.zero_le _) (Nat.zero_le _) ⟨_, rfl, hI46, bmB_of A46_28 A46_29 A46_30 A46_34 (by omega) (by omega) (by omega) (by omega) (by omega) (by omega) (by omega) hB⟩
    · refine bg_iconst C d_mo_add_15 ?_
      refine bg_goto (l := 73) C d_mo_add_16 (by decide) ?_
      refine bm_puti C cf_mo hI 0 0 rfl rfl (by decide) rfl rfl rfl (by omega) (by omega) rfl (Or.inl rfl) tw_677 d_mo_add_73 (fun w49 hI49 e49 => ?_)
      have A49_28 : ∀ i, w49 28 i = w0 28 i := fun i => by rw [e49]; exact bgU_ne i (by decide)
      have A49_29 : ∀ i, w49 29 i = w0 29 i := fun i => by rw [e49]; exact bgU_ne i (by decide)
      have A49_30 : ∀ i, w49 30 i = w0 30 i := fun i => by rw [e49]; exact bgU_ne i (by decide)
      have A49_34 : ∀ i, w49 34 i = w0 34 i := fun i => by rw [e49]; exact bgU_ne i (by decide)
      have g49_0 : w49 27 0 = 1 := by rw [e49]; exact bgU_eq
      have g49_1 : w49 27 4 = w0 27 4 := by rw [e49]; exact bgU_nei (by decide)
      have g49_2 : w49 27 5 = w0 27 5 := by rw [e49]; exact bgU_nei (by decide)
      have g49_3 : w49 27 6 = w0 27 6 := by rw [e49]; exact bgU_nei (by decide)
      have g49_4 : w49 27 7 = w0 27 7 := by rw [e49]; exact bgU_nei (by decide)
      have g49_5 : w49 27 17 = w0 27 17 := by rw [e49]; exact bgU_nei (by decide)
      have g49_6 : w49 27 19 = w0 27 19 := by rw [e49]; exact bgU_nei (by decide)
      have g49_7 : w49 27 20 = w0 27 20 := by rw [e49]; exact bgU_nei (by decide)
      refine bg_aload_n C d_mo_add_76 rfl rfl ?_
      refine bm_geti C cf_mo hI49 0 0 rfl rfl (by decide) rfl rfl tw_677 d_mo_add_77 (fun v50 e50 a50 b50 => ?_)
      refine bg_if_le (tgt := 85) C d_mo_add_80 (by decide) ⟨by omega, by omega⟩ (fun h51 => by exfalso; omega) (fun h51 => ?_)
      refine bg_iconst C d_mo_add_83 ?_
      exact bg_iret C d_mo_add_84 (fun h => by cases h) (Or.inl rfl) (Nat.zero_le _) (Nat.zero_le _) ⟨_, rfl, hI49, bmB_of A49_28 A49_29 A49_30 A49_34 (by omega) (by omega) (by omega) (by omega) (by omega) (by omega) (by omega) hB⟩
def S_mo_remove : List (Nat × Option Int) := [(27, some 0), (27, some 7), (27, some 19), (28, none), (31, none)]
def rm_mo_remove : Room := { frames := 1, cells := 0, slots := 0, locals := 21 }
set_option maxRecDepth 20000 in
set_option maxHeartbeats 4000000 in
theorem m_mo_remove {G : bgGl} (hG : bgOk G) {w0 : bgW} (hw : moN w0) {e : Int} (z0 : -2147483648 ≤ e) (z1 : e ≤ 2147483647) (z2 : bmB w0) : bgM G false 0 0 y_mo_remove (.code y_mo_remove co_mo_remove 2 none) rm_mo_remove [br 27, bi e] w0 (bgPv (fun w' => moRel S_mo_remove w0 w' ∧ bmB w')) := by
  refine bg_met hG (by decide +kernel) (bg_cat rfl) (Nat.le_of_ble_eq_true rfl) ?_
  intro K hK hR hex C
  subst hK
  have hI := moRel.rfl (S := S_mo_remove) hw
  show bgX K true 0 0 _ w0 0 [some (br 27), some (bi e)] []
  have hB := z2
  have hB1 := hB.1
  have hs17 := hw 27 17 0 51 rfl
  have hs7 := hw 27 7 0 20 rfl
  have hs19 := hw 27 19 0 1 rfl
  have hs6 := hw 27 6 0 1 rfl
  have hs5 := hw 27 5 0 1 rfl
  refine bg_aload_n C d_mo_remove_0 rfl rfl ?_
  refine bg_aload_n C d_mo_remove_1 rfl rfl ?_
  refine bg_ci C (m_mo_isDown hG hI.1) (bg_invV C cf_mo rfl tw_776 ti_mo_isDown ts_mo_isDown tc_mo_isDown tw_42 ⟨by decide, by decide⟩ (nA := 0) (by decide +kernel) rfl d_mo_remove_2 rfl) rfl (by rw [hR]; exact ⟨by decide, by decide⟩) (by rw [hR]; exact ⟨by decide, by decide⟩) (Nat.le_of_ble_eq_true rfl) rfl (fun v1 w1 p1 => ?_)
  obtain ⟨rfl, r1_0, r1_1, r1_2, r1_3⟩ := p1
  refine bg_if_ne (tgt := 15) C d_mo_remove_5 (by decide) ⟨by omega, by omega⟩ (fun h2 => ?_) (fun h2 => ?_)
  · refine bg_iconst C d_mo_remove_15 ?_
    refine bg_goto (l := 45) C d_mo_remove_16 (by decide) ?_
    refine bm_puti C cf_mo hI 0 0 rfl rfl (by decide) rfl rfl rfl (by omega) (by omega) rfl (Or.inl rfl) tw_677 d_mo_remove_45 (fun w3 hI3 e3 => ?_)
    have A3_28 : ∀ i, w3 28 i = w0 28 i := fun i => by rw [e3]; exact bgU_ne i (by decide)
    have A3_29 : ∀ i, w3 29 i = w0 29 i := fun i => by rw [e3]; exact bgU_ne i (by decide)
    have A3_30 : ∀ i, w3 30 i = w0 30 i := fun i => by rw [e3]; exact bgU_ne i (by decide)
    have A3_34 : ∀ i, w3 34 i = w0 34 i := fun i => by rw [e3]; exact bgU_ne i (by decide)
    have g3_0 : w3 27 0 = 1 := by rw [e3]; exact bgU_eq
    have g3_1 : w3 27 4 = w0 27 4 := by rw [e3]; exact bgU_nei (by decide)
    have g3_2 : w3 27 5 = w0 27 5 := by rw [e3]; exact bgU_nei (by decide)
    have g3_3 : w3 27 6 = w0 27 6 := by rw [e3]; exact bgU_nei (by decide)
    have g3_4 : w3 27 7 = w0 27 7 := by rw [e3]; exact bgU_nei (by decide)
    have g3_5 : w3 27 17 = w0 27 17 := by rw [e3]; exact bgU_nei (by decide)
    have g3_6 : w3 27 19 = w0 27 19 := by rw [e3]; exact bgU_nei (by decide)
    have g3_7 : w3 27 20 = w0 27 20 := by rw [e3]; exact bgU_nei (by decide)
    refine bg_aload_n C d_mo_remove_48 rfl rfl ?_
    refine bm_geti C cf_mo hI3 0 0 rfl rfl (by decide) rfl rfl tw_677 d_mo_remove_49 (fun v4 e4 a4 b4 => ?_)
    refine bg_if_ne (tgt := 90) C d_mo_remove_52 (by decide) ⟨by omega, by omega⟩ (fun h5 => ?_) (fun h5 => by exfalso; omega)
    exact bg_ret C d_mo_remove_90 (fun h => by cases h) rfl (Nat.zero_le _) (Nat.zero_le _) ⟨rfl, hI3, by first | exact bmB_of A3_28 A3_29 A3_30 A3_34 (by omega) (by omega) (by omega) (by omega) (by omega) (by omega) (by omega) hB | exact bmB_2 (bmE_rm b1 a1 A3_28 A3_30 hB.2.1) (by omega) (by omega) (by omega) (by omega)⟩
  · refine bg_aload_n C d_mo_remove_8 rfl rfl ?_
    refine bm_geti C cf_mo hI 6 6 rfl rfl (by decide) rfl rfl tw_683 d_mo_remove_9 (fun v6 e6 a6 b6 => ?_)
    refine bg_if_ne (tgt := 19) C d_mo_remove_12 (by decide) ⟨by omega, by omega⟩ (fun h7 => ?_) (fun h7 => ?_)
    · refine bg_aload_n C d_mo_remove_19 rfl rfl ?_
      refine bg_iload_n C d_mo_remove_20 rfl rfl ?_
      refine bg_ci C (m_mo_isVisible hG hI.1 (by omega) (by omega)) (bg_invV C cf_mo rfl tw_795 ti_mo_isVisible ts_mo_isVisible tc_mo_isVisible tw_42 ⟨by decide, by decide⟩ (nA := 1) (by decide +kernel) rfl d_mo_remove_21 rfl) rfl (by rw [hR]; exact ⟨by decide, by decide⟩) (by rw [hR]; exact ⟨by decide, by decide⟩) (Nat.le_of_ble_eq_true rfl) rfl (fun v8 w8 p8 => ?_)
      obtain ⟨rfl, r8_0, r8_1, r8_2⟩ := p8
      refine bg_if_ne (tgt := 31) C d_mo_remove_24 (by decide) ⟨by omega, by omega⟩ (fun h9 => ?_) (fun h9 => ?_)
      · refine bg_aload_n C d_mo_remove_31 rfl rfl ?_
        refine bm_geti C cf_mo hI 7 7 rfl rfl (by decide) rfl rfl tw_684 d_mo_remove_32 (fun v10 e10 a10 b10 => ?_)
        refine bg_bipush C d_mo_remove_35 (by decide +kernel) ?_
        refine bg_icmp_ne (tgt := 44) C d_mo_remove_37 (by decide) ⟨by omega, by omega⟩ ⟨by omega, by omega⟩ (fun h11 => ?_) (fun h11 => ?_)
        · refine bg_iconst C d_mo_remove_44 ?_
          refine bm_puti C cf_mo hI 0 0 rfl rfl (by decide) rfl rfl rfl (by omega) (by omega) rfl (Or.inl rfl) tw_677 d_mo_remove_45 (fun w12 hI12 e12 => ?_)
          have A12_28 : ∀ i, w12 28 i = w0 28 i := fun i => by rw [e12]; exact bgU_ne i (by decide)
          have A12_29 : ∀ i, w12 29 i = w0 29 i := fun i => by rw [e12]; exact bgU_ne i (by decide)
          have A12_30 : ∀ i, w12 30 i = w0 30 i := fun i => by rw [e12]; exact bgU_ne i (by decide)
          have A12_34 : ∀ i, w12 34 i = w0 34 i := fun i => by rw [e12]; exact bgU_ne i (by decide)
          have g12_0 : w12 27 0 = 0 := by rw [e12]; exact bgU_eq
          have g12_1 : w12 27 4 = w0 27 4 := by rw [e12]; exact bgU_nei (by decide)
          have g12_2 : w12 27 5 = w0 27 5 := by rw [e12]; exact bgU_nei (by decide)
          have g12_3 : w12 27 6 = w0 27 6 := by rw [e12]; exact bgU_nei (by decide)
          have g12_4 : w12 27 7 = w0 27 7 := by rw [e12]; exact bgU_nei (by decide)
          have g12_5 : w12 27 17 = w0 27 17 := by rw [e12]; exact bgU_nei (by decide)
          have g12_6 : w12 27 19 = w0 27 19 := by rw [e12]; exact bgU_nei (by decide)
          have g12_7 : w12 27 20 = w0 27 20 := by rw [e12]; exact bgU_nei (by decide)
          refine bg_aload_n C d_mo_remove_48 rfl rfl ?_
          refine bm_geti C cf_mo hI12 0 0 rfl rfl (by decide) rfl rfl tw_677 d_mo_remove_49 (fun v13 e13 a13 b13 => ?_)
          refine bg_if_ne (tgt := 90) C d_mo_remove_52 (by decide) ⟨by omega, by omega⟩ (fun h14 => by exfalso; omega) (fun h14 => ?_)
          refine bg_aload_n C d_mo_remove_55 rfl rfl ?_
          refine bg_getr (i := 1) C cf_mo rfl (by decide) rfl tw_678 d_mo_remove_56 ?_
          refine bg_sipush C d_mo_remove_59 (by decide +kernel) ?_
          refine bg_iload_n C d_mo_remove_62 rfl rfl ?_
          refine bg_iadd C d_mo_remove_63 ?_
          refine bg_iconst C d_mo_remove_64 ?_
          refine bm_iast C hI12 rfl rfl rfl (by omega) (by omega) (by omega) (by omega) d_mo_remove_65 (fun w15 hI15 e15 => ?_)
          have A15_29 : ∀ i, w15 29 i = w0 29 i := fun i => by rw [e15]; exact (bgU_ne i (by decide)).trans (A12_29 i)
          have A15_30 : ∀ i, w15 30 i = w0 30 i := fun i => by rw [e15]; exact (bgU_ne i (by decide)).trans (A12_30 i)
          have A15_34 : ∀ i, w15 34 i = w0 34 i := fun i => by rw [e15]; exact (bgU_ne i (by decide)).trans (A12_34 i)
          have g15_0 : w15 27 0 = w12 27 0 := by rw [e15]; exact bgU_ne _ (by decide)
          have g15_1 : w15 27 4 = w12 27 4 := by rw [e15]; exact bgU_ne _ (by decide)
          have g15_2 : w15 27 5 = w12 27 5 := by rw [e15]; exact bgU_ne _ (by decide)
          have g15_3 : w15 27 6 = w12 27 6 := by rw [e15]; exact bgU_ne _ (by decide)
          have g15_4 : w15 27 7 = w12 27 7 := by rw [e15]; exact bgU_ne _ (by decide)
          have g15_5 : w15 27 17 = w12 27 17 := by rw [e15]; exact bgU_ne _ (by decide)
          have g15_6 : w15 27 19 = w12 27 19 := by rw [e15]; exact bgU_ne _ (by decide)
          have g15_7 : w15 27 20 = w12 27 20 := by rw [e15]; exact bgU_ne _ (by decide)
          have a1 : ∀ i, w12 28 i = w0 28 i := A12_28
          have b1 := e15
          refine bg_aload_n C d_mo_remove_66 rfl rfl ?_
          refine bg_getr (i := 8) C cf_mo rfl (by decide) rfl tw_685 d_mo_remove_67 ?_
          refine bg_iload_n C d_mo_remove_70 rfl rfl ?_
          refine bg_iconst C d_mo_remove_71 ?_
          refine bg_idiv C d_mo_remove_72 (by omega) (by omega) (by omega) (by omega) ?_
          refine bg_iconst C d_mo_remove_73 ?_
          refine bm_zast C hI15 rfl rfl rfl (by omega) (by omega) (by omega) (by omega) (by omega) d_mo_remove_74 (fun w16 hI16 e16 => ?_)
          have A16_28 : ∀ i, w16 28 i = w15 28 i := fun i => by rw [e16]; exact bgU_ne i (by decide)
          have A16_29 : ∀ i, w16 29 i = w0 29 i := fun i => by rw [e16]; exact (bgU_ne i (by decide)).trans (A15_29 i)
          have A16_30 : ∀ i, w16 30 i = w0 30 i := fun i => by rw [e16]; exact (bgU_ne i (by decide)).trans (A15_30 i)
          have A16_34 : ∀ i, w16 34 i = w0 34 i := fun i => by rw [e16]; exact (bgU_ne i (by decide)).trans (A15_34 i)
          have g16_0 : w16 27 0 = w15 27 0 := by rw [e16]; exact bgU_ne _ (by decide)
          have g16_1 : w16 27 4 = w15 27 4 := by rw [e16]; exact bgU_ne _ (by decide)
          have g16_2 : w16 27 5 = w15 27 5 := by rw [e16]; exact bgU_ne _ (by decide)
          have g16_3 : w16 27 6 = w15 27 6 := by rw [e16]; exact bgU_ne _ (by decide)
          have g16_4 : w16 27 7 = w15 27 7 := by rw [e16]; exact bgU_ne _ (by decide)
          have g16_5 : w16 27 17 = w15 27 17 := by rw [e16]; exact bgU_ne _ (by decide)
          have g16_6 : w16 27 19 = w15 27 19 := by rw [e16]; exact bgU_ne _ (by decide)
          have g16_7 : w16 27 20 = w15 27 20 := by rw [e16]; exact bgU_ne _ (by decide)
          refine bg_aload_n C d_mo_remove_75 rfl rfl ?_
          refine bg_dup C d_mo_remove_76 rfl ?_
          refine bm_geti C cf_mo hI16 7 7 rfl rfl (by decide) rfl rfl tw_684 d_mo_remove_77 (fun v17 e17 a17 b17 => ?_)
          refine bg_iconst C d_mo_remove_80 ?_
          refine bg_iadd C d_mo_remove_81 ?_
          refine bm_puti C cf_mo hI16 7 7 rfl rfl (by decide) rfl rfl rfl (by omega) (by omega) rfl (Or.inl rfl) tw_684 d_mo_remove_82 (fun w18 hI18 e18 => ?_)
          have A18_28 : ∀ i, w18 28 i = w15 28 i := fun i => by rw [e18]; exact (bgU_ne i (by decide)).trans (A16_28 i)
          have A18_29 : ∀ i, w18 29 i = w0 29 i := fun i => by rw [e18]; exact (bgU_ne i (by decide)).trans (A16_29 i)
          have A18_30 : ∀ i, w18 30 i = w0 30 i := fun i => by rw [e18]; exact (bgU_ne i (by decide)).trans (A16_30 i)
          have A18_34 : ∀ i, w18 34 i = w0 34 i := fun i => by rw [e18]; exact (bgU_ne i (by decide)).trans (A16_34 i)
          have g18_0 : w18 27 0 = w16 27 0 := by rw [e18]; exact bgU_nei (by decide)
          have g18_1 : w18 27 4 = w16 27 4 := by rw [e18]; exact bgU_nei (by decide)
          have g18_2 : w18 27 5 = w16 27 5 := by rw [e18]; exact bgU_nei (by decide)
          have g18_3 : w18 27 6 = w16 27 6 := by rw [e18]; exact bgU_nei (by decide)
          have g18_4 : w18 27 7 = (v17 + 1) := by rw [e18]; exact bgU_eq
          have g18_5 : w18 27 17 = w16 27 17 := by rw [e18]; exact bgU_nei (by decide)
          have g18_6 : w18 27 19 = w16 27 19 := by rw [e18]; exact bgU_nei (by decide)
          have g18_7 : w18 27 20 = w16 27 20 := by rw [e18]; exact bgU_nei (by decide)
          refine bg_aload_n C d_mo_remove_85 rfl rfl ?_
          refine bg_iconst C d_mo_remove_86 ?_
          refine bm_puti C cf_mo hI18 19 19 rfl rfl (by decide) rfl rfl rfl (by omega) (by omega) rfl (Or.inr ⟨rfl, by omega⟩) tw_696 d_mo_remove_87 (fun w19 hI19 e19 => ?_)
          have A19_28 : ∀ i, w19 28 i = w15 28 i := fun i => by rw [e19]; exact (bgU_ne i (by decide)).trans (A18_28 i)
          have A19_29 : ∀ i, w19 29 i = w0 29 i := fun i => by rw [e19]; exact (bgU_ne i (by decide)).trans (A18_29 i)
          have A19_30 : ∀ i, w19 30 i = w0 30 i := fun i => by rw [e19]; exact (bgU_ne i (by decide)).trans (A18_30 i)
          have A19_34 : ∀ i, w19 34 i = w0 34 i := fun i => by rw [e19]; exact (bgU_ne i (by decide)).trans (A18_34 i)
          have g19_0 : w19 27 0 = w18 27 0 := by rw [e19]; exact bgU_nei (by decide)
          have g19_1 : w19 27 4 = w18 27 4 := by rw [e19]; exact bgU_nei (by decide)
          have g19_2 : w19 27 5 = w18 27 5 := by rw [e19]; exact bgU_nei (by decide)
          have g19_3 : w19 27 6 = w18 27 6 := by rw [e19]; exact bgU_nei (by decide)
          have g19_4 : w19 27 7 = w18 27 7 := by rw [e19]; exact bgU_nei (by decide)
          have g19_5 : w19 27 17 = w18 27 17 := by rw [e19]; exact bgU_nei (by decide)
          have g19_6 : w19 27 19 = 1 := by rw [e19]; exact bgU_eq
          have g19_7 : w19 27 20 = w18 27 20 := by rw [e19]; exact bgU_nei (by decide)
          exact bg_ret C d_mo_remove_90 (fun h => by cases h) rfl (Nat.zero_le _) (Nat.zero_le _) ⟨rfl, hI19, by first | exact bmB_of A19_28 A19_29 A19_30 A19_34 (by omega) (by omega) (by omega) (by omega) (by omega) (by omega) (by omega) hB | exact bmB_2 (bmE_rm b1 a1 A19_28 A19_30 hB.2.1) (by omega) (by omega) (by omega) (by omega)⟩
        · refine bg_iconst C d_mo_remove_40 ?_
          refine bg_goto (l := 45) C d_mo_remove_41 (by decide) ?_
          refine bm_puti C cf_mo hI 0 0 rfl rfl (by decide) rfl rfl rfl (by omega) (by omega) rfl (Or.inl rfl) tw_677 d_mo_remove_45 (fun w20 hI20 e20 => ?_)
          have A20_28 : ∀ i, w20 28 i = w0 28 i := fun i => by rw [e20]; exact bgU_ne i (by decide)
          have A20_29 : ∀ i, w20 29 i = w0 29 i := fun i => by rw [e20]; exact bgU_ne i (by decide)
          have A20_30 : ∀ i, w20 30 i = w0 30 i := fun i => by rw [e20]; exact bgU_ne i (by decide)
          have A20_34 : ∀ i, w20 34 i = w0 34 i := fun i => by rw [e20]; exact bgU_ne i (by decide)
          have g20_0 : w20 27 0 = 3 := by rw [e20]; exact bgU_eq
          have g20_1 : w20 27 4 = w0 27 4 := by rw [e20]; exact bgU_nei (by decide)
          have g20_2 : w20 27 5 = w0 27 5 := by rw [e20]; exact bgU_nei (by decide)
          have g20_3 : w20 27 6 = w0 27 6 := by rw [e20]; exact bgU_nei (by decide)
          have g20_4 : w20 27 7 = w0 27 7 := by rw [e20]; exact bgU_nei (by decide)
          have g20_5 : w20 27 17 = w0 27 17 := by rw [e20]; exact bgU_nei (by decide)
          have g20_6 : w20 27 19 = w0 27 19 := by rw [e20]; exact bgU_nei (by decide)
          have g20_7 : w20 27 20 = w0 27 20 := by rw [e20]; exact bgU_nei (by decide)
          refine bg_aload_n C d_mo_remove_48 rfl rfl ?_
          refine bm_geti C cf_mo hI20 0 0 rfl rfl (by decide) rfl rfl tw_677 d_mo_remove_49 (fun v21 e21 a21 b21 => ?_)
          refine bg_if_ne (tgt := 90) C d_mo_remove_52 (by decide) ⟨by omega, by omega⟩ (fun h22 => ?_) (fun h22 => by exfalso; omega)
          exact bg_ret C d_mo_remove_90 (fun h => by cases h) rfl (Nat.zero_le _) (Nat.zero_le _) ⟨rfl, hI20, by first | exact bmB_of A20_28 A20_29 A20_30 A20_34 (by omega) (by omega) (by omega) (by omega) (by omega) (by omega) (by omega) hB | exact bmB_2 (bmE_rm b1 a1 A20_28 A20_30 hB.2.1) (by omega) (by omega) (by omega) (by omega)⟩
      · refine bg_iconst C d_mo_remove_27 ?_
        refine bg_goto (l := 45) C d_mo_remove_28 (by decide) ?_
        refine bm_puti C cf_mo hI 0 0 rfl rfl (by decide) rfl rfl rfl (by omega) (by omega) rfl (Or.inl rfl) tw_677 d_mo_remove_45 (fun w23 hI23 e23 => ?_)
        have A23_28 : ∀ i, w23 28 i = w0 28 i := fun i => by rw [e23]; exact bgU_ne i (by decide)
        have A23_29 : ∀ i, w23 29 i = w0 29 i := fun i => by rw [e23]; exact bgU_ne i (by decide)
        have A23_30 : ∀ i, w23 30 i = w0 30 i := fun i => by rw [e23]; exact bgU_ne i (by decide)
        have A23_34 : ∀ i, w23 34 i = w0 34 i := fun i => by rw [e23]; exact bgU_ne i (by decide)
        have g23_0 : w23 27 0 = 2 := by rw [e23]; exact bgU_eq
        have g23_1 : w23 27 4 = w0 27 4 := by rw [e23]; exact bgU_nei (by decide)
        have g23_2 : w23 27 5 = w0 27 5 := by rw [e23]; exact bgU_nei (by decide)
        have g23_3 : w23 27 6 = w0 27 6 := by rw [e23]; exact bgU_nei (by decide)
        have g23_4 : w23 27 7 = w0 27 7 := by rw [e23]; exact bgU_nei (by decide)
        have g23_5 : w23 27 17 = w0 27 17 := by rw [e23]; exact bgU_nei (by decide)
        have g23_6 : w23 27 19 = w0 27 19 := by rw [e23]; exact bgU_nei (by decide)
        have g23_7 : w23 27 20 = w0 27 20 := by rw [e23]; exact bgU_nei (by decide)
        refine bg_aload_n C d_mo_remove_48 rfl rfl ?_
        refine bm_geti C cf_mo hI23 0 0 rfl rfl (by decide) rfl rfl tw_677 d_mo_remove_49 (fun v24 e24 a24 b24 => ?_)
        refine bg_if_ne (tgt := 90) C d_mo_remove_52 (by decide) ⟨by omega, by omega⟩ (fun h25 => ?_) (fun h25 => by exfalso; omega)
        exact bg_ret C d_mo_remove_90 (fun h => by cases h) rfl (Nat.zero_le _) (Nat.zero_le _) ⟨rfl, hI23, by first | exact bmB_of A23_28 A23_29 A23_30 A23_34 (by omega) (by omega) (by omega) (by omega) (by omega) (by omega) (by omega) hB | exact bmB_2 (bmE_rm b1 a1 A23_28 A23_30 hB.2.1) (by omega) (by omega) (by omega) (by omega)⟩
    · refine bg_iconst C d_mo_remove_15 ?_
      refine bg_goto (l := 45) C d_mo_remove_16 (by decide) ?_
      refine bm_puti C cf_mo hI 0 0 rfl rfl (by decide) rfl rfl rfl (by omega) (by omega) rfl (Or.inl rfl) tw_677 d_mo_remove_45 (fun w26 hI26 e26 => ?_)
      have A26_28 : ∀ i, w26 28 i = w0 28 i := fun i => by rw [e26]; exact bgU_ne i (by decide)
      have A26_29 : ∀ i, w26 29 i = w0 29 i := fun i => by rw [e26]; exact bgU_ne i (by decide)
      have A26_30 : ∀ i, w26 30 i = w0 30 i := fun i => by rw [e26]; exact bgU_ne i (by decide)
      have A26_34 : ∀ i, w26 34 i = w0 34 i := fun i => by rw [e26]; exact bgU_ne i (by decide)
      have g26_0 : w26 27 0 = 1 := by rw [e26]; exact bgU_eq
      have g26_1 : w26 27 4 = w0 27 4 := by rw [e26]; exact bgU_nei (by decide)
      have g26_2 : w26 27 5 = w0 27 5 := by rw [e26]; exact bgU_nei (by decide)
      have g26_3 : w26 27 6 = w0 27 6 := by rw [e26]; exact bgU_nei (by decide)
      have g26_4 : w26 27 7 = w0 27 7 := by rw [e26]; exact bgU_nei (by decide)
      have g26_5 : w26 27 17 = w0 27 17 := by rw [e26]; exact bgU_nei (by decide)
      have g26_6 : w26 27 19 = w0 27 19 := by rw [e26]; exact bgU_nei (by decide)
      have g26_7 : w26 27 20 = w0 27 20 := by rw [e26]; exact bgU_nei (by decide)
      refine bg_aload_n C d_mo_remove_48 rfl rfl ?_
      refine bm_geti C cf_mo hI26 0 0 rfl rfl (by decide) rfl rfl tw_677 d_mo_remove_49 (fun v27 e27 a27 b27 => ?_)
      refine bg_if_ne (tgt := 90) C d_mo_remove_52 (by decide) ⟨by omega, by omega⟩ (fun h28 => ?_) (fun h28 => by exfalso; omega)
      exact bg_ret C d_mo_remove_90 (fun h => by cases h) rfl (Nat.zero_le _) (Nat.zero_le _) ⟨rfl, hI26, by first | exact bmB_of A26_28 A26_29 A26_30 A26_34 (by omega) (by omega) (by omega) (by omega) (by omega) (by omega) (by omega) hB | exact bmB_2 (bmE_rm b1 a1 A26_28 A26_30 hB.2.1) (by omega) (by omega) (by omega) (by omega)⟩
def S_mo_commit : List (Nat × Option Int) := [(27, some 0), (27, some 12), (27, some 11), (27, some 13), (27, some 5), (27, some 6), (27, some 14), (27, some 17), (27, some 10), (33, none), (28, none), (29, none), (30, none), (32, none)]
def rm_mo_commit : Room := { frames := 2, cells := 0, slots := 0, locals := 45 }
set_option maxRecDepth 20000 in
set_option maxHeartbeats 4000000 in
theorem m_mo_commit {G : bgGl} (hG : bgOk G) {w0 : bgW} (hw : moN w0) (z0 : bmB w0) : bgM G false 0 0 y_mo_commit (.code y_mo_commit co_mo_commit 2 (some .boolean)) rm_mo_commit [br 27] w0 (bgPi (fun v w' => moRel S_mo_commit w0 w' ∧ bmB w')) := by
  refine bg_met hG (by decide +kernel) (bg_cat rfl) (Nat.le_of_ble_eq_true rfl) ?_
  intro K hK hR hex C
  subst hK
  have hI := moRel.rfl (S := S_mo_commit) hw
  show bgX K true 0 0 _ w0 0 [some (br 27), none] []
  have hB := z0
  have hB1 := hB.1
  have hs17 := hw 27 17 0 51 rfl
  have hs7 := hw 27 7 0 20 rfl
  have hs19 := hw 27 19 0 1 rfl
  have hs6 := hw 27 6 0 1 rfl
  have hs5 := hw 27 5 0 1 rfl
  refine bg_aload_n C d_mo_commit_0 rfl rfl ?_
  refine bg_aload_n C d_mo_commit_1 rfl rfl ?_
  refine bg_ci C (m_mo_isDown hG hI.1) (bg_invV C cf_mo rfl tw_776 ti_mo_isDown ts_mo_isDown tc_mo_isDown tw_42 ⟨by decide, by decide⟩ (nA := 0) (by decide +kernel) rfl d_mo_commit_2 rfl) rfl (by rw [hR]; exact ⟨by decide, by decide⟩) (by rw [hR]; exact ⟨by decide, by decide⟩) (Nat.le_of_ble_eq_true rfl) rfl (fun v1 w1 p1 => ?_)
  obtain ⟨rfl, r1_0, r1_1, r1_2, r1_3⟩ := p1
  refine bg_if_ne (tgt := 15) C d_mo_commit_5 (by decide) ⟨by omega, by omega⟩ (fun h2 => ?_) (fun h2 => ?_)
  · refine bg_iconst C d_mo_commit_15 ?_
    refine bg_goto (l := 20) C d_mo_commit_16 (by decide) ?_
    refine bm_puti C cf_mo hI 0 0 rfl rfl (by decide) rfl rfl rfl (by omega) (by omega) rfl (Or.inl rfl) tw_677 d_mo_commit_20 (fun w3 hI3 e3 => ?_)
    have A3_28 : ∀ i, w3 28 i = w0 28 i := fun i => by rw [e3]; exact bgU_ne i (by decide)
    have A3_29 : ∀ i, w3 29 i = w0 29 i := fun i => by rw [e3]; exact bgU_ne i (by decide)
    have A3_30 : ∀ i, w3 30 i = w0 30 i := fun i => by rw [e3]; exact bgU_ne i (by decide)
    have A3_34 : ∀ i, w3 34 i = w0 34 i := fun i => by rw [e3]; exact bgU_ne i (by decide)
    have g3_0 : w3 27 0 = 1 := by rw [e3]; exact bgU_eq
    have g3_1 : w3 27 4 = w0 27 4 := by rw [e3]; exact bgU_nei (by decide)
    have g3_2 : w3 27 5 = w0 27 5 := by rw [e3]; exact bgU_nei (by decide)
    have g3_3 : w3 27 6 = w0 27 6 := by rw [e3]; exact bgU_nei (by decide)
    have g3_4 : w3 27 7 = w0 27 7 := by rw [e3]; exact bgU_nei (by decide)
    have g3_5 : w3 27 17 = w0 27 17 := by rw [e3]; exact bgU_nei (by decide)
    have g3_6 : w3 27 19 = w0 27 19 := by rw [e3]; exact bgU_nei (by decide)
    have g3_7 : w3 27 20 = w0 27 20 := by rw [e3]; exact bgU_nei (by decide)
    refine bg_aload_n C d_mo_commit_23 rfl rfl ?_
    refine bm_geti C cf_mo hI3 0 0 rfl rfl (by decide) rfl rfl tw_677 d_mo_commit_24 (fun v4 e4 a4 b4 => ?_)
    refine bg_if_le (tgt := 32) C d_mo_commit_27 (by decide) ⟨by omega, by omega⟩ (fun h5 => by exfalso; omega) (fun h5 => ?_)
    refine bg_iconst C d_mo_commit_30 ?_
    exact bg_iret C d_mo_commit_31 (fun h => by cases h) (Or.inr ⟨rfl, by omega⟩) (Nat.zero_le _) (Nat.zero_le _) ⟨_, rfl, hI3, bmB_of A3_28 A3_29 A3_30 A3_34 (by omega) (by omega) (by omega) (by omega) (by omega) (by omega) (by omega) hB⟩
  · refine bg_aload_n C d_mo_commit_8 rfl rfl ?_
    refine bm_geti C cf_mo hI 6 6 rfl rfl (by decide) rfl rfl tw_683 d_mo_commit_9 (fun v6 e6 a6 b6 => ?_)
    refine bg_if_ne (tgt := 19) C d_mo_commit_12 (by decide) ⟨by omega, by omega⟩ (fun h7 => ?_) (fun h7 => ?_)
    · refine bg_iconst C d_mo_commit_19 ?_
      refine bm_puti C cf_mo hI 0 0 rfl rfl (by decide) rfl rfl rfl (by omega) (by omega) rfl (Or.inl rfl) tw_677 d_mo_commit_20 (fun w8 hI8 e8 => ?_)
      have A8_28 : ∀ i, w8 28 i = w0 28 i := fun i => by rw [e8]; exact bgU_ne i (by decide)
      have A8_29 : ∀ i, w8 29 i = w0 29 i := fun i => by rw [e8]; exact bgU_ne i (by decide)
      have A8_30 : ∀ i, w8 30 i = w0 30 i := fun i => by rw [e8]; exact bgU_ne i (by decide)
      have A8_34 : ∀ i, w8 34 i = w0 34 i := fun i => by rw [e8]; exact bgU_ne i (by decide)
      have g8_0 : w8 27 0 = 0 := by rw [e8]; exact bgU_eq
      have g8_1 : w8 27 4 = w0 27 4 := by rw [e8]; exact bgU_nei (by decide)
      have g8_2 : w8 27 5 = w0 27 5 := by rw [e8]; exact bgU_nei (by decide)
      have g8_3 : w8 27 6 = w0 27 6 := by rw [e8]; exact bgU_nei (by decide)
      have g8_4 : w8 27 7 = w0 27 7 := by rw [e8]; exact bgU_nei (by decide)
      have g8_5 : w8 27 17 = w0 27 17 := by rw [e8]; exact bgU_nei (by decide)
      have g8_6 : w8 27 19 = w0 27 19 := by rw [e8]; exact bgU_nei (by decide)
      have g8_7 : w8 27 20 = w0 27 20 := by rw [e8]; exact bgU_nei (by decide)
      refine bg_aload_n C d_mo_commit_23 rfl rfl ?_
      refine bm_geti C cf_mo hI8 0 0 rfl rfl (by decide) rfl rfl tw_677 d_mo_commit_24 (fun v9 e9 a9 b9 => ?_)
      refine bg_if_le (tgt := 32) C d_mo_commit_27 (by decide) ⟨by omega, by omega⟩ (fun h10 => ?_) (fun h10 => by exfalso; omega)
      refine bg_aload_n C d_mo_commit_32 rfl rfl ?_
      refine bg_iconst C d_mo_commit_33 ?_
      refine bm_puti C cf_mo hI8 6 6 rfl rfl (by decide) rfl rfl rfl (by omega) (by omega) rfl (Or.inr ⟨rfl, by omega⟩) tw_683 d_mo_commit_34 (fun w11 hI11 e11 => ?_)
      have A11_28 : ∀ i, w11 28 i = w0 28 i := fun i => by rw [e11]; exact (bgU_ne i (by decide)).trans (A8_28 i)
      have A11_29 : ∀ i, w11 29 i = w0 29 i := fun i => by rw [e11]; exact (bgU_ne i (by decide)).trans (A8_29 i)
      have A11_30 : ∀ i, w11 30 i = w0 30 i := fun i => by rw [e11]; exact (bgU_ne i (by decide)).trans (A8_30 i)
      have A11_34 : ∀ i, w11 34 i = w0 34 i := fun i => by rw [e11]; exact (bgU_ne i (by decide)).trans (A8_34 i)
      have g11_0 : w11 27 0 = w8 27 0 := by rw [e11]; exact bgU_nei (by decide)
      have g11_1 : w11 27 4 = w8 27 4 := by rw [e11]; exact bgU_nei (by decide)
      have g11_2 : w11 27 5 = w8 27 5 := by rw [e11]; exact bgU_nei (by decide)
      have g11_3 : w11 27 6 = 0 := by rw [e11]; exact bgU_eq
      have g11_4 : w11 27 7 = w8 27 7 := by rw [e11]; exact bgU_nei (by decide)
      have g11_5 : w11 27 17 = w8 27 17 := by rw [e11]; exact bgU_nei (by decide)
      have g11_6 : w11 27 19 = w8 27 19 := by rw [e11]; exact bgU_nei (by decide)
      have g11_7 : w11 27 20 = w8 27 20 := by rw [e11]; exact bgU_nei (by decide)
      refine bg_aload_n C d_mo_commit_37 rfl rfl ?_
      refine bm_geti C cf_mo hI11 7 7 rfl rfl (by decide) rfl rfl tw_684 d_mo_commit_38 (fun v12 e12 a12 b12 => ?_)
      refine bg_if_ne (tgt := 46) C d_mo_commit_41 (by decide) ⟨by omega, by omega⟩ (fun h13 => ?_) (fun h13 => ?_)
      · refine bg_iconst C d_mo_commit_46 ?_
        refine bg_istore_n C d_mo_commit_47 rfl (Nat.le_of_ble_eq_true rfl) ?_
        refine bg_loop (α := bgW × Int) (fun a => (21 - a.2).toNat) (fun a => moRel S_mo_commit w0 a.1 ∧ 0 ≤ a.2 ∧ a.2 ≤ 21 ∧ a.1 27 0 = w11 27 0 ∧ a.1 27 4 = w11 27 4 ∧ a.1 27 5 = w11 27 5 ∧ a.1 27 6 = w11 27 6 ∧ a.1 27 7 = w11 27 7 ∧ a.1 27 17 = w11 27 17 ∧ a.1 27 19 = w11 27 19 ∧ a.1 27 20 = w11 27 20 ∧ (∀ y9, a.1 28 y9 = w0 28 y9) ∧ (∀ y9, a.1 29 y9 = w0 29 y9) ∧ (∀ y9, a.1 30 y9 = w0 30 y9) ∧ (∀ y9, a.1 34 y9 = w0 34 y9)) (fun a => (a.1, [some (br 27), some (bi a.2)], [])) ?_ (w11, 0) ⟨hI11, by (try dsimp only) <;> omega, by (try dsimp only) <;> omega, by (try dsimp only) <;> omega, by (try dsimp only) <;> omega, by (try dsimp only) <;> omega, by (try dsimp only) <;> omega, by (try dsimp only) <;> omega, by (try dsimp only) <;> omega, by (try dsimp only) <;> omega, by (try dsimp only) <;> omega, A11_28, A11_29, A11_30, A11_34⟩
        rintro ⟨w14, i14⟩ ⟨hI14, q14_0, q14_1, q14_2, q14_3, q14_4, q14_5, q14_6, q14_7, q14_8, q14_9, q14_10, q14_11, q14_12, q14_13⟩ ih48
        try dsimp only at ih48
        try dsimp only at q14_0
        try dsimp only at q14_1
        try dsimp only at q14_2
        try dsimp only at q14_3
        try dsimp only at q14_4
        try dsimp only at q14_5
        try dsimp only at q14_6
        try dsimp only at q14_7
        try dsimp only at q14_8
        try dsimp only at q14_9
        try dsimp only at q14_10
        try dsimp only at q14_11
        try dsimp only at q14_12
        try dsimp only at q14_13
        try dsimp only
        refine bg_iload_n C d_mo_commit_48 rfl rfl ?_
        refine bg_aload_n C d_mo_commit_49 rfl rfl ?_
        refine bm_geti C cf_mo hI14 7 7 rfl rfl (by decide) rfl rfl tw_684 d_mo_commit_50 (fun v15 e15 a15 b15 => ?_)
        refine bg_icmp_gt (tgt := 71) C d_mo_commit_53 (by decide) ⟨by omega, by omega⟩ ⟨by omega, by omega⟩ (fun h16 => ?_) (fun h16 => ?_)
        · refine bg_aload_n C d_mo_commit_71 rfl rfl ?_
          refine bg_iconst C d_mo_commit_72 ?_
          refine bg_sipush C d_mo_commit_73 (by decide +kernel) ?_
          refine bg_cv C (m_mo_copy_home hG hI14.1) (bg_invV C cf_mo rfl tw_803 ti_mo_copy ts_mo_copy tc_mo_copy tw_42 ⟨by decide, by decide⟩ (nA := 2) (by decide +kernel) rfl d_mo_commit_76 rfl) rfl (by rw [hR]; exact ⟨by decide, by decide⟩) (by rw [hR]; exact ⟨by decide, by decide⟩) (Nat.le_of_ble_eq_true rfl) rfl (fun w17 p17 => ?_)
          obtain ⟨j17, r17_0⟩ := p17
          have hI17 := hI14.trans j17 (by decide)
          have g17_0 : w17 27 0 = w14 27 0 := j17.2 27 0 rfl
          have g17_1 : w17 27 4 = w14 27 4 := j17.2 27 4 rfl
          have g17_2 : w17 27 5 = w14 27 5 := j17.2 27 5 rfl
          have g17_3 : w17 27 6 = w14 27 6 := j17.2 27 6 rfl
          have g17_4 : w17 27 7 = w14 27 7 := j17.2 27 7 rfl
          have g17_5 : w17 27 17 = w14 27 17 := j17.2 27 17 rfl
          have g17_6 : w17 27 19 = w14 27 19 := j17.2 27 19 rfl
          have g17_7 : w17 27 20 = w14 27 20 := j17.2 27 20 rfl
          have A17_34 : ∀ i, w17 34 i = w0 34 i := fun i => (j17.2 34 i rfl).trans (q14_13 i)
          have cE : bmE w17 := bmE_cp (w0 := w14) (to := 0) (fr := 200) (by omega) r17_0 (bmE_of q14_10 q14_12 hB.2.1)
          have cH : bmH w17 := bmH_cp (w0 := w14) (to := 0) (fr := 200) (by omega) r17_0
          have c28 : ∀ e, 0 ≤ e → e < 200 → w17 28 (200 + e) = w0 28 (200 + e) := fun e h0 h1 => ((r17_0 28 e (by simp) h0 h1).2).trans ((q14_10 _))
          have c29 : ∀ e, 0 ≤ e → e < 200 → w17 29 (200 + e) = w0 29 (200 + e) := fun e h0 h1 => ((r17_0 29 e (by simp) h0 h1).2).trans ((q14_11 _))
          have c30 : ∀ e, 0 ≤ e → e < 200 → w17 30 (200 + e) = w0 30 (200 + e) := fun e h0 h1 => ((r17_0 30 e (by simp) h0 h1).2).trans ((q14_12 _))
          refine bg_aload_n C d_mo_commit_79 rfl rfl ?_
          refine bg_dup C d_mo_commit_80 rfl ?_
          refine bq_get0 C cf_mo 12 12 rfl rfl (by decide) rfl tw_689 d_mo_commit_81 (fun v18 e18 => ?_)
          refine bg_iconst C d_mo_commit_84 ?_
          refine bg_iadd C d_mo_commit_85 ?_
          refine bm_put0 C cf_mo hI17 12 12 rfl rfl (by decide) rfl rfl rfl rfl rfl tw_689 d_mo_commit_86 (fun w19 hI19 e19 => ?_)
          have A19_28 : ∀ i, w19 28 i = w17 28 i := fun i => by rw [e19]; exact bgU_ne i (by decide)
          have A19_29 : ∀ i, w19 29 i = w17 29 i := fun i => by rw [e19]; exact bgU_ne i (by decide)
          have A19_30 : ∀ i, w19 30 i = w17 30 i := fun i => by rw [e19]; exact bgU_ne i (by decide)
          have A19_34 : ∀ i, w19 34 i = w0 34 i := fun i => by rw [e19]; exact (bgU_ne i (by decide)).trans (A17_34 i)
          have g19_0 : w19 27 0 = w17 27 0 := by rw [e19]; exact bgU_nei (by decide)
          have g19_1 : w19 27 4 = w17 27 4 := by rw [e19]; exact bgU_nei (by decide)
          have g19_2 : w19 27 5 = w17 27 5 := by rw [e19]; exact bgU_nei (by decide)
          have g19_3 : w19 27 6 = w17 27 6 := by rw [e19]; exact bgU_nei (by decide)
          have g19_4 : w19 27 7 = w17 27 7 := by rw [e19]; exact bgU_nei (by decide)
          have g19_5 : w19 27 17 = w17 27 17 := by rw [e19]; exact bgU_nei (by decide)
          have g19_6 : w19 27 19 = w17 27 19 := by rw [e19]; exact bgU_nei (by decide)
          have g19_7 : w19 27 20 = w17 27 20 := by rw [e19]; exact bgU_nei (by decide)
          refine bg_aload_n C d_mo_commit_89 rfl rfl ?_
          refine bg_iconst C d_mo_commit_90 ?_
          refine bm_puti C cf_mo hI19 10 10 rfl rfl (by decide) rfl rfl rfl (by omega) (by omega) rfl (Or.inr ⟨rfl, by omega⟩) tw_687 d_mo_commit_91 (fun w20 hI20 e20 => ?_)
          have A20_28 : ∀ i, w20 28 i = w17 28 i := fun i => by rw [e20]; exact (bgU_ne i (by decide)).trans (A19_28 i)
          have A20_29 : ∀ i, w20 29 i = w17 29 i := fun i => by rw [e20]; exact (bgU_ne i (by decide)).trans (A19_29 i)
          have A20_30 : ∀ i, w20 30 i = w17 30 i := fun i => by rw [e20]; exact (bgU_ne i (by decide)).trans (A19_30 i)
          have A20_34 : ∀ i, w20 34 i = w0 34 i := fun i => by rw [e20]; exact (bgU_ne i (by decide)).trans (A19_34 i)
          have g20_0 : w20 27 0 = w19 27 0 := by rw [e20]; exact bgU_nei (by decide)
          have g20_1 : w20 27 4 = w19 27 4 := by rw [e20]; exact bgU_nei (by decide)
          have g20_2 : w20 27 5 = w19 27 5 := by rw [e20]; exact bgU_nei (by decide)
          have g20_3 : w20 27 6 = w19 27 6 := by rw [e20]; exact bgU_nei (by decide)
          have g20_4 : w20 27 7 = w19 27 7 := by rw [e20]; exact bgU_nei (by decide)
          have g20_5 : w20 27 17 = w19 27 17 := by rw [e20]; exact bgU_nei (by decide)
          have g20_6 : w20 27 19 = w19 27 19 := by rw [e20]; exact bgU_nei (by decide)
          have g20_7 : w20 27 20 = w19 27 20 := by rw [e20]; exact bgU_nei (by decide)
          refine bg_iconst C d_mo_commit_94 ?_
          refine bg_istore_n C d_mo_commit_95 rfl (Nat.le_of_ble_eq_true rfl) ?_
          refine bg_loop (α := bgW × Int) (fun a => (50 - a.2).toNat) (fun a => moRel S_mo_commit w0 a.1 ∧ 0 ≤ a.2 ∧ a.2 ≤ 50 ∧ a.1 27 0 = w20 27 0 ∧ a.1 27 4 = w20 27 4 ∧ a.1 27 5 = w20 27 5 ∧ a.1 27 6 = w20 27 6 ∧ a.1 27 7 = w20 27 7 ∧ a.1 27 17 = w20 27 17 ∧ a.1 27 19 = w20 27 19 ∧ a.1 27 20 = w20 27 20 ∧ (∀ y9, a.1 28 y9 = w17 28 y9) ∧ (∀ y9, a.1 29 y9 = w17 29 y9) ∧ (∀ y9, a.1 30 y9 = w17 30 y9) ∧ (∀ y9, a.1 34 y9 = w0 34 y9)) (fun a => (a.1, [some (br 27), some (bi a.2)], [])) ?_ (w20, 0) ⟨hI20, by (try dsimp only) <;> omega, by (try dsimp only) <;> omega, by (try dsimp only) <;> omega, by (try dsimp only) <;> omega, by (try dsimp only) <;> omega, by (try dsimp only) <;> omega, by (try dsimp only) <;> omega, by (try dsimp only) <;> omega, by (try dsimp only) <;> omega, by (try dsimp only) <;> omega, A20_28, A20_29, A20_30, A20_34⟩
          rintro ⟨w21, i21⟩ ⟨hI21, q21_0, q21_1, q21_2, q21_3, q21_4, q21_5, q21_6, q21_7, q21_8, q21_9, q21_10, q21_11, q21_12, q21_13⟩ ih96
          try dsimp only at ih96
          try dsimp only at q21_0
          try dsimp only at q21_1
          try dsimp only at q21_2
          try dsimp only at q21_3
          try dsimp only at q21_4
          try dsimp only at q21_5
          try dsimp only at q21_6
          try dsimp only at q21_7
          try dsimp only at q21_8
          try dsimp only at q21_9
          try dsimp only at q21_10
          try dsimp only at q21_11
          try dsimp only at q21_12
          try dsimp only at q21_13
          try dsimp only
          refine bg_iload_n C d_mo_commit_96 rfl rfl ?_
          refine bg_bipush C d_mo_commit_97 (by decide +kernel) ?_
          refine bg_icmp_ge (tgt := 120) C d_mo_commit_99 (by decide) ⟨by omega, by omega⟩ ⟨by omega, by omega⟩ (fun h22 => ?_) (fun h22 => ?_)
          · refine bg_aload_n C d_mo_commit_120 rfl rfl ?_
            refine bg_ci C (m_mo_isHome hG hI21.1 (by omega)) (bg_invV C cf_mo rfl tw_807 ti_mo_isHome ts_mo_isHome tc_mo_isHome tw_42 ⟨by decide, by decide⟩ (nA := 0) (by decide +kernel) rfl d_mo_commit_121 rfl) rfl (by rw [hR]; exact ⟨by decide, by decide⟩) (by rw [hR]; exact ⟨by decide, by decide⟩) (Nat.le_of_ble_eq_true rfl) rfl (fun v23 w23 p23 => ?_)
            obtain ⟨j23, r23_0, r23_1, r23_2, r23_3, r23_4, r23_5⟩ := p23
            have hI23 := hI21.trans j23 (by decide)
            have g23_0 : w23 27 0 = w21 27 0 := j23.2 27 0 rfl
            have g23_1 : w23 27 4 = w21 27 4 := j23.2 27 4 rfl
            have g23_4 : w23 27 7 = w21 27 7 := j23.2 27 7 rfl
            have g23_6 : w23 27 19 = w21 27 19 := j23.2 27 19 rfl
            have g23_7 : w23 27 20 = w21 27 20 := j23.2 27 20 rfl
            have A23_28 : ∀ i, w23 28 i = w17 28 i := fun i => (j23.2 28 i rfl).trans (q21_10 i)
            have A23_29 : ∀ i, w23 29 i = w17 29 i := fun i => (j23.2 29 i rfl).trans (q21_11 i)
            have A23_30 : ∀ i, w23 30 i = w17 30 i := fun i => (j23.2 30 i rfl).trans (q21_12 i)
            have A23_34 : ∀ i, w23 34 i = w0 34 i := fun i => (j23.2 34 i rfl).trans (q21_13 i)
            refine bg_if_ne (tgt := 129) C d_mo_commit_124 (by decide) ⟨by omega, by omega⟩ (fun h24 => ?_) (fun h24 => ?_)
            · refine bg_aload_n C d_mo_commit_129 rfl rfl ?_
              refine bg_dup C d_mo_commit_130 rfl ?_
              refine bq_get0 C cf_mo 11 11 rfl rfl (by decide) rfl tw_688 d_mo_commit_131 (fun v25 e25 => ?_)
              refine bg_aload_n C d_mo_commit_134 rfl rfl ?_
              refine bq_get0 C cf_mo 12 12 rfl rfl (by decide) rfl tw_689 d_mo_commit_135 (fun v26 e26 => ?_)
              refine bg_iadd C d_mo_commit_138 ?_
              refine bm_put0 C cf_mo hI23 11 11 rfl rfl (by decide) rfl rfl rfl rfl rfl tw_688 d_mo_commit_139 (fun w27 hI27 e27 => ?_)
              have A27_28 : ∀ i, w27 28 i = w17 28 i := fun i => by rw [e27]; exact (bgU_ne i (by decide)).trans (A23_28 i)
              have A27_29 : ∀ i, w27 29 i = w17 29 i := fun i => by rw [e27]; exact (bgU_ne i (by decide)).trans (A23_29 i)
              have A27_30 : ∀ i, w27 30 i = w17 30 i := fun i => by rw [e27]; exact (bgU_ne i (by decide)).trans (A23_30 i)
              have A27_34 : ∀ i, w27 34 i = w0 34 i := fun i => by rw [e27]; exact (bgU_ne i (by decide)).trans (A23_34 i)
              have g27_0 : w27 27 0 = w23 27 0 := by rw [e27]; exact bgU_nei (by decide)
              have g27_1 : w27 27 4 = w23 27 4 := by rw [e27]; exact bgU_nei (by decide)
              have g27_2 : w27 27 5 = w23 27 5 := by rw [e27]; exact bgU_nei (by decide)
              have g27_3 : w27 27 6 = w23 27 6 := by rw [e27]; exact bgU_nei (by decide)
              have g27_4 : w27 27 7 = w23 27 7 := by rw [e27]; exact bgU_nei (by decide)
              have g27_5 : w27 27 17 = w23 27 17 := by rw [e27]; exact bgU_nei (by decide)
              have g27_6 : w27 27 19 = w23 27 19 := by rw [e27]; exact bgU_nei (by decide)
              have g27_7 : w27 27 20 = w23 27 20 := by rw [e27]; exact bgU_nei (by decide)
              refine bg_aload_n C d_mo_commit_142 rfl rfl ?_
              refine bg_iconst C d_mo_commit_143 ?_
              refine bm_put0 C cf_mo hI27 12 12 rfl rfl (by decide) rfl rfl rfl rfl rfl tw_689 d_mo_commit_144 (fun w28 hI28 e28 => ?_)
              have A28_28 : ∀ i, w28 28 i = w17 28 i := fun i => by rw [e28]; exact (bgU_ne i (by decide)).trans (A27_28 i)
              have A28_29 : ∀ i, w28 29 i = w17 29 i := fun i => by rw [e28]; exact (bgU_ne i (by decide)).trans (A27_29 i)
              have A28_30 : ∀ i, w28 30 i = w17 30 i := fun i => by rw [e28]; exact (bgU_ne i (by decide)).trans (A27_30 i)
              have A28_34 : ∀ i, w28 34 i = w0 34 i := fun i => by rw [e28]; exact (bgU_ne i (by decide)).trans (A27_34 i)
              have g28_0 : w28 27 0 = w27 27 0 := by rw [e28]; exact bgU_nei (by decide)
              have g28_1 : w28 27 4 = w27 27 4 := by rw [e28]; exact bgU_nei (by decide)
              have g28_2 : w28 27 5 = w27 27 5 := by rw [e28]; exact bgU_nei (by decide)
              have g28_3 : w28 27 6 = w27 27 6 := by rw [e28]; exact bgU_nei (by decide)
              have g28_4 : w28 27 7 = w27 27 7 := by rw [e28]; exact bgU_nei (by decide)
              have g28_5 : w28 27 17 = w27 27 17 := by rw [e28]; exact bgU_nei (by decide)
              have g28_6 : w28 27 19 = w27 27 19 := by rw [e28]; exact bgU_nei (by decide)
              have g28_7 : w28 27 20 = w27 27 20 := by rw [e28]; exact bgU_nei (by decide)
              refine bg_iconst C d_mo_commit_147 ?_
              exact bg_iret C d_mo_commit_148 (fun h => by cases h) (Or.inr ⟨rfl, by omega⟩) (Nat.zero_le _) (Nat.zero_le _) ⟨_, rfl, hI28, ⟨by omega, bmE_of A28_28 A28_30 cE, fun _ _ _ => bmH_of A28_28 A28_29 A28_30 cH, fun _ => bmTi_ofV (fun e h0 h1 => (A28_28 _).trans (c28 e h0 h1)) (fun e h0 h1 => (A28_29 _).trans (c29 e h0 h1)) (fun e h0 h1 => (A28_30 _).trans (c30 e h0 h1)) A28_34 (by omega) (hB.2.2.2 (by omega))⟩⟩
            · refine bg_iconst C d_mo_commit_127 ?_
              exact bg_iret C d_mo_commit_128 (fun h => by cases h) (Or.inr ⟨rfl, by omega⟩) (Nat.zero_le _) (Nat.zero_le _) ⟨_, rfl, hI23, ⟨by omega, bmE_of A23_28 A23_30 cE, fun _ _ _ => bmH_of A23_28 A23_29 A23_30 cH, fun _ => bmTi_ofV (fun e h0 h1 => (A23_28 _).trans (c28 e h0 h1)) (fun e h0 h1 => (A23_29 _).trans (c29 e h0 h1)) (fun e h0 h1 => (A23_30 _).trans (c30 e h0 h1)) A23_34 (by omega) (hB.2.2.2 (by omega))⟩⟩
          · refine bg_aload_n C d_mo_commit_102 rfl rfl ?_
            refine bg_getr (i := 9) C cf_mo rfl (by decide) rfl tw_686 d_mo_commit_103 ?_
            refine bg_iload_n C d_mo_commit_106 rfl rfl ?_
            refine bg_aload_n C d_mo_commit_107 rfl rfl ?_
            refine bg_getr (i := 8) C cf_mo rfl (by decide) rfl tw_685 d_mo_commit_108 ?_
            refine bg_iload_n C d_mo_commit_111 rfl rfl ?_
            refine bm_zald C hI21 rfl rfl (by omega) (by omega) d_mo_commit_112 (fun v29 e29 a29 b29 => ?_)
            refine bm_zast C hI21 rfl rfl rfl (by omega) (by omega) (by omega) (by omega) (by omega) d_mo_commit_113 (fun w30 hI30 e30 => ?_)
            have A30_28 : ∀ i, w30 28 i = w17 28 i := fun i => by rw [e30]; exact (bgU_ne i (by decide)).trans (q21_10 i)
            have A30_29 : ∀ i, w30 29 i = w17 29 i := fun i => by rw [e30]; exact (bgU_ne i (by decide)).trans (q21_11 i)
            have A30_30 : ∀ i, w30 30 i = w17 30 i := fun i => by rw [e30]; exact (bgU_ne i (by decide)).trans (q21_12 i)
            have A30_34 : ∀ i, w30 34 i = w0 34 i := fun i => by rw [e30]; exact (bgU_ne i (by decide)).trans (q21_13 i)
            have g30_0 : w30 27 0 = w21 27 0 := by rw [e30]; exact bgU_ne _ (by decide)
            have g30_1 : w30 27 4 = w21 27 4 := by rw [e30]; exact bgU_ne _ (by decide)
            have g30_2 : w30 27 5 = w21 27 5 := by rw [e30]; exact bgU_ne _ (by decide)
            have g30_3 : w30 27 6 = w21 27 6 := by rw [e30]; exact bgU_ne _ (by decide)
            have g30_4 : w30 27 7 = w21 27 7 := by rw [e30]; exact bgU_ne _ (by decide)
            have g30_5 : w30 27 17 = w21 27 17 := by rw [e30]; exact bgU_ne _ (by decide)
            have g30_6 : w30 27 19 = w21 27 19 := by rw [e30]; exact bgU_ne _ (by decide)
            have g30_7 : w30 27 20 = w21 27 20 := by rw [e30]; exact bgU_ne _ (by decide)
            refine bg_iinc C d_mo_commit_114 rfl ?_
            refine bg_goto (l := 96) C d_mo_commit_117 (by decide) ?_
            exact ih96 (w30, (i21 + 1)) ⟨hI30, by (try dsimp only) <;> omega, by (try dsimp only) <;> omega, by (try dsimp only) <;> omega, by (try dsimp only) <;> omega, by (try dsimp only) <;> omega, by (try dsimp only) <;> omega, by (try dsimp only) <;> omega, by (try dsimp only) <;> omega, by (try dsimp only) <;> omega, by (try dsimp only) <;> omega, A30_28, A30_29, A30_30, A30_34⟩ (by (try dsimp only) <;> omega)
        · refine bg_aload_n C d_mo_commit_56 rfl rfl ?_
          refine bg_ci C (m_mo_isWritten hG hI14.1) (bg_invV C cf_mo rfl tw_760 ti_mo_isWritten ts_mo_isWritten tc_mo_isWritten tw_42 ⟨by decide, by decide⟩ (nA := 0) (by decide +kernel) rfl d_mo_commit_57 rfl) rfl (by rw [hR]; exact ⟨by decide, by decide⟩) (by rw [hR]; exact ⟨by decide, by decide⟩) (Nat.le_of_ble_eq_true rfl) rfl (fun v31 w31 p31 => ?_)
          obtain ⟨j31, r31_0, r31_1, r31_2, r31_3, r31_4⟩ := p31
          have hI31 := hI14.trans j31 (by decide)
          have g31_0 : w31 27 0 = w14 27 0 := j31.2 27 0 rfl
          have g31_1 : w31 27 4 = w14 27 4 := j31.2 27 4 rfl
          have g31_4 : w31 27 7 = w14 27 7 := j31.2 27 7 rfl
          have g31_5 : w31 27 17 = w14 27 17 := j31.2 27 17 rfl
          have g31_6 : w31 27 19 = w14 27 19 := j31.2 27 19 rfl
          have g31_7 : w31 27 20 = w14 27 20 := j31.2 27 20 rfl
          have A31_28 : ∀ i, w31 28 i = w0 28 i := fun i => (j31.2 28 i rfl).trans (q14_10 i)
          have A31_29 : ∀ i, w31 29 i = w0 29 i := fun i => (j31.2 29 i rfl).trans (q14_11 i)
          have A31_30 : ∀ i, w31 30 i = w0 30 i := fun i => (j31.2 30 i rfl).trans (q14_12 i)
          have A31_34 : ∀ i, w31 34 i = w0 34 i := fun i => (j31.2 34 i rfl).trans (q14_13 i)
          refine bg_if_ne (tgt := 65) C d_mo_commit_60 (by decide) ⟨by omega, by omega⟩ (fun h32 => ?_) (fun h32 => ?_)
          · refine bg_iinc C d_mo_commit_65 rfl ?_
            refine bg_goto (l := 48) C d_mo_commit_68 (by decide) ?_
            exact ih48 (w31, (i14 + 1)) ⟨hI31, by (try dsimp only) <;> omega, by (try dsimp only) <;> omega, by (try dsimp only) <;> omega, by (try dsimp only) <;> omega, by (try dsimp only) <;> omega, by (try dsimp only) <;> omega, by (try dsimp only) <;> omega, by (try dsimp only) <;> omega, by (try dsimp only) <;> omega, by (try dsimp only) <;> omega, A31_28, A31_29, A31_30, A31_34⟩ (by (try dsimp only) <;> omega)
          · refine bg_iconst C d_mo_commit_63 ?_
            exact bg_iret C d_mo_commit_64 (fun h => by cases h) (Or.inr ⟨rfl, by omega⟩) (Nat.zero_le _) (Nat.zero_le _) ⟨_, rfl, hI31, bmB_dn A31_28 A31_29 A31_30 A31_34 (by omega) (by omega) (by omega) (by omega) hB⟩
      · refine bg_iconst C d_mo_commit_44 ?_
        exact bg_iret C d_mo_commit_45 (fun h => by cases h) (Or.inr ⟨rfl, by omega⟩) (Nat.zero_le _) (Nat.zero_le _) ⟨_, rfl, hI11, bmB_J A11_28 A11_29 A11_30 A11_34 (by omega) (by omega) (by omega) (hB.2.2.1 (by omega) (by omega) (Or.inr (by omega))) hB⟩
    · refine bg_iconst C d_mo_commit_15 ?_
      refine bg_goto (l := 20) C d_mo_commit_16 (by decide) ?_
      refine bm_puti C cf_mo hI 0 0 rfl rfl (by decide) rfl rfl rfl (by omega) (by omega) rfl (Or.inl rfl) tw_677 d_mo_commit_20 (fun w33 hI33 e33 => ?_)
      have A33_28 : ∀ i, w33 28 i = w0 28 i := fun i => by rw [e33]; exact bgU_ne i (by decide)
      have A33_29 : ∀ i, w33 29 i = w0 29 i := fun i => by rw [e33]; exact bgU_ne i (by decide)
      have A33_30 : ∀ i, w33 30 i = w0 30 i := fun i => by rw [e33]; exact bgU_ne i (by decide)
      have A33_34 : ∀ i, w33 34 i = w0 34 i := fun i => by rw [e33]; exact bgU_ne i (by decide)
      have g33_0 : w33 27 0 = 1 := by rw [e33]; exact bgU_eq
      have g33_1 : w33 27 4 = w0 27 4 := by rw [e33]; exact bgU_nei (by decide)
      have g33_2 : w33 27 5 = w0 27 5 := by rw [e33]; exact bgU_nei (by decide)
      have g33_3 : w33 27 6 = w0 27 6 := by rw [e33]; exact bgU_nei (by decide)
      have g33_4 : w33 27 7 = w0 27 7 := by rw [e33]; exact bgU_nei (by decide)
      have g33_5 : w33 27 17 = w0 27 17 := by rw [e33]; exact bgU_nei (by decide)
      have g33_6 : w33 27 19 = w0 27 19 := by rw [e33]; exact bgU_nei (by decide)
      have g33_7 : w33 27 20 = w0 27 20 := by rw [e33]; exact bgU_nei (by decide)
      refine bg_aload_n C d_mo_commit_23 rfl rfl ?_
      refine bm_geti C cf_mo hI33 0 0 rfl rfl (by decide) rfl rfl tw_677 d_mo_commit_24 (fun v34 e34 a34 b34 => ?_)
      refine bg_if_le (tgt := 32) C d_mo_commit_27 (by decide) ⟨by omega, by omega⟩ (fun h35 => by exfalso; omega) (fun h35 => ?_)
      refine bg_iconst C d_mo_commit_30 ?_
      exact bg_iret C d_mo_commit_31 (fun h => by cases h) (Or.inr ⟨rfl, by omega⟩) (Nat.zero_le _) (Nat.zero_le _) ⟨_, rfl, hI33, bmB_of A33_28 A33_29 A33_30 A33_34 (by omega) (by omega) (by omega) (by omega) (by omega) (by omega) (by omega) hB⟩
def S_mo_abort : List (Nat × Option Int) := [(27, some 0), (27, some 6), (27, some 19), (28, none), (29, none), (30, none)]
def rm_mo_abort : Room := { frames := 1, cells := 0, slots := 0, locals := 23 }
set_option maxRecDepth 20000 in
set_option maxHeartbeats 4000000 in
theorem m_mo_abort {G : bgGl} (hG : bgOk G) {w0 : bgW} (hw : moN w0) (z0 : bmB w0) : bgM G false 0 0 y_mo_abort (.code y_mo_abort co_mo_abort 1 (some .int)) rm_mo_abort [br 27] w0 (bgPi (fun v w' => moRel S_mo_abort w0 w' ∧ bmB w')) := by
  refine bg_met hG (by decide +kernel) (bg_cat rfl) (Nat.le_of_ble_eq_true rfl) ?_
  intro K hK hR hex C
  subst hK
  have hI := moRel.rfl (S := S_mo_abort) hw
  show bgX K true 0 0 _ w0 0 [some (br 27)] []
  have hB := z0
  have hB1 := hB.1
  have hs17 := hw 27 17 0 51 rfl
  have hs7 := hw 27 7 0 20 rfl
  have hs19 := hw 27 19 0 1 rfl
  have hs6 := hw 27 6 0 1 rfl
  have hs5 := hw 27 5 0 1 rfl
  refine bg_aload_n C d_mo_abort_0 rfl rfl ?_
  refine bg_aload_n C d_mo_abort_1 rfl rfl ?_
  refine bg_ci C (m_mo_isDown hG hI.1) (bg_invV C cf_mo rfl tw_776 ti_mo_isDown ts_mo_isDown tc_mo_isDown tw_42 ⟨by decide, by decide⟩ (nA := 0) (by decide +kernel) rfl d_mo_abort_2 rfl) rfl (by rw [hR]; exact ⟨by decide, by decide⟩) (by rw [hR]; exact ⟨by decide, by decide⟩) (Nat.le_of_ble_eq_true rfl) rfl (fun v1 w1 p1 => ?_)
  obtain ⟨rfl, r1_0, r1_1, r1_2, r1_3⟩ := p1
  refine bg_if_ne (tgt := 15) C d_mo_abort_5 (by decide) ⟨by omega, by omega⟩ (fun h2 => ?_) (fun h2 => ?_)
  · refine bg_iconst C d_mo_abort_15 ?_
    refine bg_goto (l := 20) C d_mo_abort_16 (by decide) ?_
    refine bm_puti C cf_mo hI 0 0 rfl rfl (by decide) rfl rfl rfl (by omega) (by omega) rfl (Or.inl rfl) tw_677 d_mo_abort_20 (fun w3 hI3 e3 => ?_)
    have A3_28 : ∀ i, w3 28 i = w0 28 i := fun i => by rw [e3]; exact bgU_ne i (by decide)
    have A3_29 : ∀ i, w3 29 i = w0 29 i := fun i => by rw [e3]; exact bgU_ne i (by decide)
    have A3_30 : ∀ i, w3 30 i = w0 30 i := fun i => by rw [e3]; exact bgU_ne i (by decide)
    have A3_34 : ∀ i, w3 34 i = w0 34 i := fun i => by rw [e3]; exact bgU_ne i (by decide)
    have g3_0 : w3 27 0 = 1 := by rw [e3]; exact bgU_eq
    have g3_1 : w3 27 4 = w0 27 4 := by rw [e3]; exact bgU_nei (by decide)
    have g3_2 : w3 27 5 = w0 27 5 := by rw [e3]; exact bgU_nei (by decide)
    have g3_3 : w3 27 6 = w0 27 6 := by rw [e3]; exact bgU_nei (by decide)
    have g3_4 : w3 27 7 = w0 27 7 := by rw [e3]; exact bgU_nei (by decide)
    have g3_5 : w3 27 17 = w0 27 17 := by rw [e3]; exact bgU_nei (by decide)
    have g3_6 : w3 27 19 = w0 27 19 := by rw [e3]; exact bgU_nei (by decide)
    have g3_7 : w3 27 20 = w0 27 20 := by rw [e3]; exact bgU_nei (by decide)
    refine bg_aload_n C d_mo_abort_23 rfl rfl ?_
    refine bm_geti C cf_mo hI3 0 0 rfl rfl (by decide) rfl rfl tw_677 d_mo_abort_24 (fun v4 e4 a4 b4 => ?_)
    refine bg_if_le (tgt := 32) C d_mo_abort_27 (by decide) ⟨by omega, by omega⟩ (fun h5 => by exfalso; omega) (fun h5 => ?_)
    refine bg_iconst C d_mo_abort_30 ?_
    exact bg_iret C d_mo_abort_31 (fun h => by cases h) (Or.inl rfl) (Nat.zero_le _) (Nat.zero_le _) ⟨_, rfl, hI3, bmB_of A3_28 A3_29 A3_30 A3_34 (by omega) (by omega) (by omega) (by omega) (by omega) (by omega) (by omega) hB⟩
  · refine bg_aload_n C d_mo_abort_8 rfl rfl ?_
    refine bm_geti C cf_mo hI 6 6 rfl rfl (by decide) rfl rfl tw_683 d_mo_abort_9 (fun v6 e6 a6 b6 => ?_)
    refine bg_if_ne (tgt := 19) C d_mo_abort_12 (by decide) ⟨by omega, by omega⟩ (fun h7 => ?_) (fun h7 => ?_)
    · refine bg_iconst C d_mo_abort_19 ?_
      refine bm_puti C cf_mo hI 0 0 rfl rfl (by decide) rfl rfl rfl (by omega) (by omega) rfl (Or.inl rfl) tw_677 d_mo_abort_20 (fun w8 hI8 e8 => ?_)
      have A8_28 : ∀ i, w8 28 i = w0 28 i := fun i => by rw [e8]; exact bgU_ne i (by decide)
      have A8_29 : ∀ i, w8 29 i = w0 29 i := fun i => by rw [e8]; exact bgU_ne i (by decide)
      have A8_30 : ∀ i, w8 30 i = w0 30 i := fun i => by rw [e8]; exact bgU_ne i (by decide)
      have A8_34 : ∀ i, w8 34 i = w0 34 i := fun i => by rw [e8]; exact bgU_ne i (by decide)
      have g8_0 : w8 27 0 = 0 := by rw [e8]; exact bgU_eq
      have g8_1 : w8 27 4 = w0 27 4 := by rw [e8]; exact bgU_nei (by decide)
      have g8_2 : w8 27 5 = w0 27 5 := by rw [e8]; exact bgU_nei (by decide)
      have g8_3 : w8 27 6 = w0 27 6 := by rw [e8]; exact bgU_nei (by decide)
      have g8_4 : w8 27 7 = w0 27 7 := by rw [e8]; exact bgU_nei (by decide)
      have g8_5 : w8 27 17 = w0 27 17 := by rw [e8]; exact bgU_nei (by decide)
      have g8_6 : w8 27 19 = w0 27 19 := by rw [e8]; exact bgU_nei (by decide)
      have g8_7 : w8 27 20 = w0 27 20 := by rw [e8]; exact bgU_nei (by decide)
      refine bg_aload_n C d_mo_abort_23 rfl rfl ?_
      refine bm_geti C cf_mo hI8 0 0 rfl rfl (by decide) rfl rfl tw_677 d_mo_abort_24 (fun v9 e9 a9 b9 => ?_)
      refine bg_if_le (tgt := 32) C d_mo_abort_27 (by decide) ⟨by omega, by omega⟩ (fun h10 => ?_) (fun h10 => by exfalso; omega)
      refine bg_aload_n C d_mo_abort_32 rfl rfl ?_
      refine bg_iconst C d_mo_abort_33 ?_
      refine bm_puti C cf_mo hI8 6 6 rfl rfl (by decide) rfl rfl rfl (by omega) (by omega) rfl (Or.inr ⟨rfl, by omega⟩) tw_683 d_mo_abort_34 (fun w11 hI11 e11 => ?_)
      have A11_28 : ∀ i, w11 28 i = w0 28 i := fun i => by rw [e11]; exact (bgU_ne i (by decide)).trans (A8_28 i)
      have A11_29 : ∀ i, w11 29 i = w0 29 i := fun i => by rw [e11]; exact (bgU_ne i (by decide)).trans (A8_29 i)
      have A11_30 : ∀ i, w11 30 i = w0 30 i := fun i => by rw [e11]; exact (bgU_ne i (by decide)).trans (A8_30 i)
      have A11_34 : ∀ i, w11 34 i = w0 34 i := fun i => by rw [e11]; exact (bgU_ne i (by decide)).trans (A8_34 i)
      have g11_0 : w11 27 0 = w8 27 0 := by rw [e11]; exact bgU_nei (by decide)
      have g11_1 : w11 27 4 = w8 27 4 := by rw [e11]; exact bgU_nei (by decide)
      have g11_2 : w11 27 5 = w8 27 5 := by rw [e11]; exact bgU_nei (by decide)
      have g11_3 : w11 27 6 = 0 := by rw [e11]; exact bgU_eq
      have g11_4 : w11 27 7 = w8 27 7 := by rw [e11]; exact bgU_nei (by decide)
      have g11_5 : w11 27 17 = w8 27 17 := by rw [e11]; exact bgU_nei (by decide)
      have g11_6 : w11 27 19 = w8 27 19 := by rw [e11]; exact bgU_nei (by decide)
      have g11_7 : w11 27 20 = w8 27 20 := by rw [e11]; exact bgU_nei (by decide)
      refine bg_aload_n C d_mo_abort_37 rfl rfl ?_
      refine bg_aload_n C d_mo_abort_38 rfl rfl ?_
      refine bm_geti C cf_mo hI11 19 19 rfl rfl (by decide) rfl rfl tw_696 d_mo_abort_39 (fun v12 e12 a12 b12 => ?_)
      refine bg_if_ne (tgt := 52) C d_mo_abort_42 (by decide) ⟨by omega, by omega⟩ (fun h13 => ?_) (fun h13 => ?_)
      · refine bg_iconst C d_mo_abort_52 ?_
        refine bg_goto (l := 57) C d_mo_abort_53 (by decide) ?_
        refine bm_puti C cf_mo hI11 19 19 rfl rfl (by decide) rfl rfl rfl (by omega) (by omega) rfl (Or.inr ⟨rfl, by omega⟩) tw_696 d_mo_abort_57 (fun w14 hI14 e14 => ?_)
        have A14_28 : ∀ i, w14 28 i = w0 28 i := fun i => by rw [e14]; exact (bgU_ne i (by decide)).trans (A11_28 i)
        have A14_29 : ∀ i, w14 29 i = w0 29 i := fun i => by rw [e14]; exact (bgU_ne i (by decide)).trans (A11_29 i)
        have A14_30 : ∀ i, w14 30 i = w0 30 i := fun i => by rw [e14]; exact (bgU_ne i (by decide)).trans (A11_30 i)
        have A14_34 : ∀ i, w14 34 i = w0 34 i := fun i => by rw [e14]; exact (bgU_ne i (by decide)).trans (A11_34 i)
        have g14_0 : w14 27 0 = w11 27 0 := by rw [e14]; exact bgU_nei (by decide)
        have g14_1 : w14 27 4 = w11 27 4 := by rw [e14]; exact bgU_nei (by decide)
        have g14_2 : w14 27 5 = w11 27 5 := by rw [e14]; exact bgU_nei (by decide)
        have g14_3 : w14 27 6 = w11 27 6 := by rw [e14]; exact bgU_nei (by decide)
        have g14_4 : w14 27 7 = w11 27 7 := by rw [e14]; exact bgU_nei (by decide)
        have g14_5 : w14 27 17 = w11 27 17 := by rw [e14]; exact bgU_nei (by decide)
        have g14_6 : w14 27 19 = 1 := by rw [e14]; exact bgU_eq
        have g14_7 : w14 27 20 = w11 27 20 := by rw [e14]; exact bgU_nei (by decide)
        refine bg_aload_n C d_mo_abort_60 rfl rfl ?_
        refine bg_sipush C d_mo_abort_61 (by decide +kernel) ?_
        refine bg_iconst C d_mo_abort_64 ?_
        refine bg_cv C (m_mo_copy_vis hG hI14.1) (bg_invV C cf_mo rfl tw_803 ti_mo_copy ts_mo_copy tc_mo_copy tw_42 ⟨by decide, by decide⟩ (nA := 2) (by decide +kernel) rfl d_mo_abort_65 rfl) rfl (by rw [hR]; exact ⟨by decide, by decide⟩) (by rw [hR]; exact ⟨by decide, by decide⟩) (Nat.le_of_ble_eq_true rfl) rfl (fun w15 p15 => ?_)
        obtain ⟨j15, r15_0⟩ := p15
        have hI15 := hI14.trans j15 (by decide)
        have g15_0 : w15 27 0 = w14 27 0 := j15.2 27 0 rfl
        have g15_1 : w15 27 4 = w14 27 4 := j15.2 27 4 rfl
        have g15_2 : w15 27 5 = w14 27 5 := j15.2 27 5 rfl
        have g15_3 : w15 27 6 = w14 27 6 := j15.2 27 6 rfl
        have g15_4 : w15 27 7 = w14 27 7 := j15.2 27 7 rfl
        have g15_5 : w15 27 17 = w14 27 17 := j15.2 27 17 rfl
        have g15_6 : w15 27 19 = w14 27 19 := j15.2 27 19 rfl
        have g15_7 : w15 27 20 = w14 27 20 := j15.2 27 20 rfl
        have A15_34 : ∀ i, w15 34 i = w0 34 i := fun i => (j15.2 34 i rfl).trans (A14_34 i)
        have cE : bmE w15 := bmE_cp (w0 := w14) (to := 200) (fr := 0) (by omega) r15_0 (bmE_of A14_28 A14_30 hB.2.1)
        have cH : bmH w15 := bmH_cp (w0 := w14) (to := 200) (fr := 0) (by omega) r15_0
        have c28 : ∀ e, 0 ≤ e → e < 200 → w15 28 (200 + e) = w0 28 (e) := fun e h0 h1 => ((r15_0 28 e (by simp) h0 h1).1).trans ((A14_28 _).trans (by rw [Int.zero_add]))
        have c29 : ∀ e, 0 ≤ e → e < 200 → w15 29 (200 + e) = w0 29 (e) := fun e h0 h1 => ((r15_0 29 e (by simp) h0 h1).1).trans ((A14_29 _).trans (by rw [Int.zero_add]))
        have c30 : ∀ e, 0 ≤ e → e < 200 → w15 30 (200 + e) = w0 30 (e) := fun e h0 h1 => ((r15_0 30 e (by simp) h0 h1).1).trans ((A14_30 _).trans (by rw [Int.zero_add]))
        refine bg_aload_n C d_mo_abort_68 rfl rfl ?_
        refine bm_geti C cf_mo hI15 7 7 rfl rfl (by decide) rfl rfl tw_684 d_mo_abort_69 (fun v16 e16 a16 b16 => ?_)
        exact bg_iret C d_mo_abort_72 (fun h => by cases h) (Or.inl rfl) (Nat.zero_le _) (Nat.zero_le _) ⟨_, rfl, hI15, ⟨by omega, bmE_of (fun _ => rfl) (fun _ => rfl) cE, fun _ _ _ => bmH_of (fun _ => rfl) (fun _ => rfl) (fun _ => rfl) cH, by first | exact fun h => absurd h (by omega) | exact fun _ => bmTi_vis (fun e h0 h1 => ((fun _ => rfl) _).trans (c28 e h0 h1)) (fun e h0 h1 => ((fun _ => rfl) _).trans (c29 e h0 h1)) (fun e h0 h1 => ((fun _ => rfl) _).trans (c30 e h0 h1)) A15_34 (by omega) (hB.2.2.1 (by omega) (by omega) (Or.inr (by omega))) (hB.2.2.2 (by omega))⟩⟩
      · refine bg_aload_n C d_mo_abort_45 rfl rfl ?_
        refine bm_geti C cf_mo hI11 7 7 rfl rfl (by decide) rfl rfl tw_684 d_mo_abort_46 (fun v17 e17 a17 b17 => ?_)
        refine bg_if_le (tgt := 56) C d_mo_abort_49 (by decide) ⟨by omega, by omega⟩ (fun h18 => ?_) (fun h18 => ?_)
        · refine bg_iconst C d_mo_abort_56 ?_
          refine bm_puti C cf_mo hI11 19 19 rfl rfl (by decide) rfl rfl rfl (by omega) (by omega) rfl (Or.inr ⟨rfl, by omega⟩) tw_696 d_mo_abort_57 (fun w19 hI19 e19 => ?_)
          have A19_28 : ∀ i, w19 28 i = w0 28 i := fun i => by rw [e19]; exact (bgU_ne i (by decide)).trans (A11_28 i)
          have A19_29 : ∀ i, w19 29 i = w0 29 i := fun i => by rw [e19]; exact (bgU_ne i (by decide)).trans (A11_29 i)
          have A19_30 : ∀ i, w19 30 i = w0 30 i := fun i => by rw [e19]; exact (bgU_ne i (by decide)).trans (A11_30 i)
          have A19_34 : ∀ i, w19 34 i = w0 34 i := fun i => by rw [e19]; exact (bgU_ne i (by decide)).trans (A11_34 i)
          have g19_0 : w19 27 0 = w11 27 0 := by rw [e19]; exact bgU_nei (by decide)
          have g19_1 : w19 27 4 = w11 27 4 := by rw [e19]; exact bgU_nei (by decide)
          have g19_2 : w19 27 5 = w11 27 5 := by rw [e19]; exact bgU_nei (by decide)
          have g19_3 : w19 27 6 = w11 27 6 := by rw [e19]; exact bgU_nei (by decide)
          have g19_4 : w19 27 7 = w11 27 7 := by rw [e19]; exact bgU_nei (by decide)
          have g19_5 : w19 27 17 = w11 27 17 := by rw [e19]; exact bgU_nei (by decide)
          have g19_6 : w19 27 19 = 0 := by rw [e19]; exact bgU_eq
          have g19_7 : w19 27 20 = w11 27 20 := by rw [e19]; exact bgU_nei (by decide)
          refine bg_aload_n C d_mo_abort_60 rfl rfl ?_
          refine bg_sipush C d_mo_abort_61 (by decide +kernel) ?_
          refine bg_iconst C d_mo_abort_64 ?_
          refine bg_cv C (m_mo_copy_vis hG hI19.1) (bg_invV C cf_mo rfl tw_803 ti_mo_copy ts_mo_copy tc_mo_copy tw_42 ⟨by decide, by decide⟩ (nA := 2) (by decide +kernel) rfl d_mo_abort_65 rfl) rfl (by rw [hR]; exact ⟨by decide, by decide⟩) (by rw [hR]; exact ⟨by decide, by decide⟩) (Nat.le_of_ble_eq_true rfl) rfl (fun w20 p20 => ?_)
          obtain ⟨j20, r20_0⟩ := p20
          have hI20 := hI19.trans j20 (by decide)
          have g20_0 : w20 27 0 = w19 27 0 := j20.2 27 0 rfl
          have g20_1 : w20 27 4 = w19 27 4 := j20.2 27 4 rfl
          have g20_2 : w20 27 5 = w19 27 5 := j20.2 27 5 rfl
          have g20_3 : w20 27 6 = w19 27 6 := j20.2 27 6 rfl
          have g20_4 : w20 27 7 = w19 27 7 := j20.2 27 7 rfl
          have g20_5 : w20 27 17 = w19 27 17 := j20.2 27 17 rfl
          have g20_6 : w20 27 19 = w19 27 19 := j20.2 27 19 rfl
          have g20_7 : w20 27 20 = w19 27 20 := j20.2 27 20 rfl
          have A20_34 : ∀ i, w20 34 i = w0 34 i := fun i => (j20.2 34 i rfl).trans (A19_34 i)
          have cE : bmE w20 := bmE_cp (w0 := w19) (to := 200) (fr := 0) (by omega) r20_0 (bmE_of A19_28 A19_30 hB.2.1)
          have cH : bmH w20 := bmH_cp (w0 := w19) (to := 200) (fr := 0) (by omega) r20_0
          have c28 : ∀ e, 0 ≤ e → e < 200 → w20 28 (200 + e) = w0 28 (e) := fun e h0 h1 => ((r20_0 28 e (by simp) h0 h1).1).trans ((A19_28 _).trans (by rw [Int.zero_add]))
          have c29 : ∀ e, 0 ≤ e → e < 200 → w20 29 (200 + e) = w0 29 (e) := fun e h0 h1 => ((r20_0 29 e (by simp) h0 h1).1).trans ((A19_29 _).trans (by rw [Int.zero_add]))
          have c30 : ∀ e, 0 ≤ e → e < 200 → w20 30 (200 + e) = w0 30 (e) := fun e h0 h1 => ((r20_0 30 e (by simp) h0 h1).1).trans ((A19_30 _).trans (by rw [Int.zero_add]))
          refine bg_aload_n C d_mo_abort_68 rfl rfl ?_
          refine bm_geti C cf_mo hI20 7 7 rfl rfl (by decide) rfl rfl tw_684 d_mo_abort_69 (fun v21 e21 a21 b21 => ?_)
          exact bg_iret C d_mo_abort_72 (fun h => by cases h) (Or.inl rfl) (Nat.zero_le _) (Nat.zero_le _) ⟨_, rfl, hI20, ⟨by omega, bmE_of (fun _ => rfl) (fun _ => rfl) cE, fun _ _ _ => bmH_of (fun _ => rfl) (fun _ => rfl) (fun _ => rfl) cH, by first | exact fun h => absurd h (by omega) | exact fun _ => bmTi_vis (fun e h0 h1 => ((fun _ => rfl) _).trans (c28 e h0 h1)) (fun e h0 h1 => ((fun _ => rfl) _).trans (c29 e h0 h1)) (fun e h0 h1 => ((fun _ => rfl) _).trans (c30 e h0 h1)) A20_34 (by omega) (hB.2.2.1 (by omega) (by omega) (Or.inr (by omega))) (hB.2.2.2 (by omega))⟩⟩
        · refine bg_iconst C d_mo_abort_52 ?_
          refine bg_goto (l := 57) C d_mo_abort_53 (by decide) ?_
          refine bm_puti C cf_mo hI11 19 19 rfl rfl (by decide) rfl rfl rfl (by omega) (by omega) rfl (Or.inr ⟨rfl, by omega⟩) tw_696 d_mo_abort_57 (fun w22 hI22 e22 => ?_)
          have A22_28 : ∀ i, w22 28 i = w0 28 i := fun i => by rw [e22]; exact (bgU_ne i (by decide)).trans (A11_28 i)
          have A22_29 : ∀ i, w22 29 i = w0 29 i := fun i => by rw [e22]; exact (bgU_ne i (by decide)).trans (A11_29 i)
          have A22_30 : ∀ i, w22 30 i = w0 30 i := fun i => by rw [e22]; exact (bgU_ne i (by decide)).trans (A11_30 i)
          have A22_34 : ∀ i, w22 34 i = w0 34 i := fun i => by rw [e22]; exact (bgU_ne i (by decide)).trans (A11_34 i)
          have g22_0 : w22 27 0 = w11 27 0 := by rw [e22]; exact bgU_nei (by decide)
          have g22_1 : w22 27 4 = w11 27 4 := by rw [e22]; exact bgU_nei (by decide)
          have g22_2 : w22 27 5 = w11 27 5 := by rw [e22]; exact bgU_nei (by decide)
          have g22_3 : w22 27 6 = w11 27 6 := by rw [e22]; exact bgU_nei (by decide)
          have g22_4 : w22 27 7 = w11 27 7 := by rw [e22]; exact bgU_nei (by decide)
          have g22_5 : w22 27 17 = w11 27 17 := by rw [e22]; exact bgU_nei (by decide)
          have g22_6 : w22 27 19 = 1 := by rw [e22]; exact bgU_eq
          have g22_7 : w22 27 20 = w11 27 20 := by rw [e22]; exact bgU_nei (by decide)
          refine bg_aload_n C d_mo_abort_60 rfl rfl ?_
          refine bg_sipush C d_mo_abort_61 (by decide +kernel) ?_
          refine bg_iconst C d_mo_abort_64 ?_
          refine bg_cv C (m_mo_copy_vis hG hI22.1) (bg_invV C cf_mo rfl tw_803 ti_mo_copy ts_mo_copy tc_mo_copy tw_42 ⟨by decide, by decide⟩ (nA := 2) (by decide +kernel) rfl d_mo_abort_65 rfl) rfl (by rw [hR]; exact ⟨by decide, by decide⟩) (by rw [hR]; exact ⟨by decide, by decide⟩) (Nat.le_of_ble_eq_true rfl) rfl (fun w23 p23 => ?_)
          obtain ⟨j23, r23_0⟩ := p23
          have hI23 := hI22.trans j23 (by decide)
          have g23_0 : w23 27 0 = w22 27 0 := j23.2 27 0 rfl
          have g23_1 : w23 27 4 = w22 27 4 := j23.2 27 4 rfl
          have g23_2 : w23 27 5 = w22 27 5 := j23.2 27 5 rfl
          have g23_3 : w23 27 6 = w22 27 6 := j23.2 27 6 rfl
          have g23_4 : w23 27 7 = w22 27 7 := j23.2 27 7 rfl
          have g23_5 : w23 27 17 = w22 27 17 := j23.2 27 17 rfl
          have g23_6 : w23 27 19 = w22 27 19 := j23.2 27 19 rfl
          have g23_7 : w23 27 20 = w22 27 20 := j23.2 27 20 rfl
          have A23_34 : ∀ i, w23 34 i = w0 34 i := fun i => (j23.2 34 i rfl).trans (A22_34 i)
          have cE : bmE w23 := bmE_cp (w0 := w22) (to := 200) (fr := 0) (by omega) r23_0 (bmE_of A22_28 A22_30 hB.2.1)
          have cH : bmH w23 := bmH_cp (w0 := w22) (to := 200) (fr := 0) (by omega) r23_0
          have c28 : ∀ e, 0 ≤ e → e < 200 → w23 28 (200 + e) = w0 28 (e) := fun e h0 h1 => ((r23_0 28 e (by simp) h0 h1).1).trans ((A22_28 _).trans (by rw [Int.zero_add]))
          have c29 : ∀ e, 0 ≤ e → e < 200 → w23 29 (200 + e) = w0 29 (e) := fun e h0 h1 => ((r23_0 29 e (by simp) h0 h1).1).trans ((A22_29 _).trans (by rw [Int.zero_add]))
          have c30 : ∀ e, 0 ≤ e → e < 200 → w23 30 (200 + e) = w0 30 (e) := fun e h0 h1 => ((r23_0 30 e (by simp) h0 h1).1).trans ((A22_30 _).trans (by rw [Int.zero_add]))
          refine bg_aload_n C d_mo_abort_68 rfl rfl ?_
          refine bm_geti C cf_mo hI23 7 7 rfl rfl (by decide) rfl rfl tw_684 d_mo_abort_69 (fun v24 e24 a24 b24 => ?_)
          exact bg_iret C d_mo_abort_72 (fun h => by cases h) (Or.inl rfl) (Nat.zero_le _) (Nat.zero_le _) ⟨_, rfl, hI23, ⟨by omega, bmE_of (fun _ => rfl) (fun _ => rfl) cE, fun _ _ _ => bmH_of (fun _ => rfl) (fun _ => rfl) (fun _ => rfl) cH, by first | exact fun h => absurd h (by omega) | exact fun _ => bmTi_vis (fun e h0 h1 => ((fun _ => rfl) _).trans (c28 e h0 h1)) (fun e h0 h1 => ((fun _ => rfl) _).trans (c29 e h0 h1)) (fun e h0 h1 => ((fun _ => rfl) _).trans (c30 e h0 h1)) A23_34 (by omega) (hB.2.2.1 (by omega) (by omega) (Or.inr (by omega))) (hB.2.2.2 (by omega))⟩⟩
    · refine bg_iconst C d_mo_abort_15 ?_
      refine bg_goto (l := 20) C d_mo_abort_16 (by decide) ?_
      refine bm_puti C cf_mo hI 0 0 rfl rfl (by decide) rfl rfl rfl (by omega) (by omega) rfl (Or.inl rfl) tw_677 d_mo_abort_20 (fun w25 hI25 e25 => ?_)
      have A25_28 : ∀ i, w25 28 i = w0 28 i := fun i => by rw [e25]; exact bgU_ne i (by decide)
      have A25_29 : ∀ i, w25 29 i = w0 29 i := fun i => by rw [e25]; exact bgU_ne i (by decide)
      have A25_30 : ∀ i, w25 30 i = w0 30 i := fun i => by rw [e25]; exact bgU_ne i (by decide)
      have A25_34 : ∀ i, w25 34 i = w0 34 i := fun i => by rw [e25]; exact bgU_ne i (by decide)
      have g25_0 : w25 27 0 = 1 := by rw [e25]; exact bgU_eq
      have g25_1 : w25 27 4 = w0 27 4 := by rw [e25]; exact bgU_nei (by decide)
      have g25_2 : w25 27 5 = w0 27 5 := by rw [e25]; exact bgU_nei (by decide)
      have g25_3 : w25 27 6 = w0 27 6 := by rw [e25]; exact bgU_nei (by decide)
      have g25_4 : w25 27 7 = w0 27 7 := by rw [e25]; exact bgU_nei (by decide)
      have g25_5 : w25 27 17 = w0 27 17 := by rw [e25]; exact bgU_nei (by decide)
      have g25_6 : w25 27 19 = w0 27 19 := by rw [e25]; exact bgU_nei (by decide)
      have g25_7 : w25 27 20 = w0 27 20 := by rw [e25]; exact bgU_nei (by decide)
      refine bg_aload_n C d_mo_abort_23 rfl rfl ?_
      refine bm_geti C cf_mo hI25 0 0 rfl rfl (by decide) rfl rfl tw_677 d_mo_abort_24 (fun v26 e26 a26 b26 => ?_)
      refine bg_if_le (tgt := 32) C d_mo_abort_27 (by decide) ⟨by omega, by omega⟩ (fun h27 => by exfalso; omega) (fun h27 => ?_)
      refine bg_iconst C d_mo_abort_30 ?_
      exact bg_iret C d_mo_abort_31 (fun h => by cases h) (Or.inl rfl) (Nat.zero_le _) (Nat.zero_le _) ⟨_, rfl, hI25, bmB_of A25_28 A25_29 A25_30 A25_34 (by omega) (by omega) (by omega) (by omega) (by omega) (by omega) (by omega) hB⟩
def S_mo_arm : List (Nat × Option Int) := [(27, some 0), (27, some 13)]
def rm_mo_arm : Room := { frames := 0, cells := 0, slots := 0, locals := 0 }
set_option maxRecDepth 20000 in
set_option maxHeartbeats 4000000 in
theorem m_mo_arm {G : bgGl} (hG : bgOk G) {w0 : bgW} (hw : moN w0) {x : Int} (z0 : -2147483648 ≤ x) (z1 : x ≤ 2147483647) (z2 : bmB w0) : bgM G false 0 0 y_mo_arm (.code y_mo_arm co_mo_arm 2 none) rm_mo_arm [br 27, bi x] w0 (bgPv (fun w' => moRel S_mo_arm w0 w' ∧ (-1 ≤ x → w' 27 0 = 0) ∧ (x < -1 → w' 27 0 = 1) ∧ bmB w')) := by
  refine bg_met hG (by decide +kernel) (bg_cat rfl) (Nat.le_of_ble_eq_true rfl) ?_
  intro K hK hR hex C
  subst hK
  have hI := moRel.rfl (S := S_mo_arm) hw
  show bgX K true 0 0 _ w0 0 [some (br 27), some (bi x)] []
  have hB := z2
  have hB1 := hB.1
  have hs17 := hw 27 17 0 51 rfl
  have hs7 := hw 27 7 0 20 rfl
  have hs19 := hw 27 19 0 1 rfl
  have hs6 := hw 27 6 0 1 rfl
  have hs5 := hw 27 5 0 1 rfl
  refine bg_aload_n C d_mo_arm_0 rfl rfl ?_
  refine bg_iload_n C d_mo_arm_1 rfl rfl ?_
  refine bg_iconst C d_mo_arm_2 ?_
  refine bg_icmp_ge (tgt := 10) C d_mo_arm_3 (by decide) ⟨by omega, by omega⟩ ⟨by omega, by omega⟩ (fun h1 => ?_) (fun h1 => ?_)
  · refine bg_iconst C d_mo_arm_10 ?_
    refine bm_puti C cf_mo hI 0 0 rfl rfl (by decide) rfl rfl rfl (by omega) (by omega) rfl (Or.inl rfl) tw_677 d_mo_arm_11 (fun w2 hI2 e2 => ?_)
    have A2_28 : ∀ i, w2 28 i = w0 28 i := fun i => by rw [e2]; exact bgU_ne i (by decide)
    have A2_29 : ∀ i, w2 29 i = w0 29 i := fun i => by rw [e2]; exact bgU_ne i (by decide)
    have A2_30 : ∀ i, w2 30 i = w0 30 i := fun i => by rw [e2]; exact bgU_ne i (by decide)
    have A2_34 : ∀ i, w2 34 i = w0 34 i := fun i => by rw [e2]; exact bgU_ne i (by decide)
    have g2_0 : w2 27 0 = 0 := by rw [e2]; exact bgU_eq
    have g2_1 : w2 27 4 = w0 27 4 := by rw [e2]; exact bgU_nei (by decide)
    have g2_2 : w2 27 5 = w0 27 5 := by rw [e2]; exact bgU_nei (by decide)
    have g2_3 : w2 27 6 = w0 27 6 := by rw [e2]; exact bgU_nei (by decide)
    have g2_4 : w2 27 7 = w0 27 7 := by rw [e2]; exact bgU_nei (by decide)
    have g2_5 : w2 27 17 = w0 27 17 := by rw [e2]; exact bgU_nei (by decide)
    have g2_6 : w2 27 19 = w0 27 19 := by rw [e2]; exact bgU_nei (by decide)
    have g2_7 : w2 27 20 = w0 27 20 := by rw [e2]; exact bgU_nei (by decide)
    refine bg_aload_n C d_mo_arm_14 rfl rfl ?_
    refine bg_aload_n C d_mo_arm_15 rfl rfl ?_
    refine bm_geti C cf_mo hI2 0 0 rfl rfl (by decide) rfl rfl tw_677 d_mo_arm_16 (fun v3 e3 a3 b3 => ?_)
    refine bg_if_ne (tgt := 26) C d_mo_arm_19 (by decide) ⟨by omega, by omega⟩ (fun h4 => by exfalso; omega) (fun h4 => ?_)
    refine bg_iload_n C d_mo_arm_22 rfl rfl ?_
    refine bg_goto (l := 30) C d_mo_arm_23 (by decide) ?_
    refine bm_put0 C cf_mo hI2 13 13 rfl rfl (by decide) rfl rfl rfl rfl rfl tw_690 d_mo_arm_30 (fun w5 hI5 e5 => ?_)
    have A5_28 : ∀ i, w5 28 i = w0 28 i := fun i => by rw [e5]; exact (bgU_ne i (by decide)).trans (A2_28 i)
    have A5_29 : ∀ i, w5 29 i = w0 29 i := fun i => by rw [e5]; exact (bgU_ne i (by decide)).trans (A2_29 i)
    have A5_30 : ∀ i, w5 30 i = w0 30 i := fun i => by rw [e5]; exact (bgU_ne i (by decide)).trans (A2_30 i)
    have A5_34 : ∀ i, w5 34 i = w0 34 i := fun i => by rw [e5]; exact (bgU_ne i (by decide)).trans (A2_34 i)
    have g5_0 : w5 27 0 = w2 27 0 := by rw [e5]; exact bgU_nei (by decide)
    have g5_1 : w5 27 4 = w2 27 4 := by rw [e5]; exact bgU_nei (by decide)
    have g5_2 : w5 27 5 = w2 27 5 := by rw [e5]; exact bgU_nei (by decide)
    have g5_3 : w5 27 6 = w2 27 6 := by rw [e5]; exact bgU_nei (by decide)
    have g5_4 : w5 27 7 = w2 27 7 := by rw [e5]; exact bgU_nei (by decide)
    have g5_5 : w5 27 17 = w2 27 17 := by rw [e5]; exact bgU_nei (by decide)
    have g5_6 : w5 27 19 = w2 27 19 := by rw [e5]; exact bgU_nei (by decide)
    have g5_7 : w5 27 20 = w2 27 20 := by rw [e5]; exact bgU_nei (by decide)
    exact bg_ret C d_mo_arm_33 (fun h => by cases h) rfl (Nat.zero_le _) (Nat.zero_le _) ⟨rfl, hI5, by omega, by omega, bmB_of A5_28 A5_29 A5_30 A5_34 (by omega) (by omega) (by omega) (by omega) (by omega) (by omega) (by omega) hB⟩
  · refine bg_iconst C d_mo_arm_6 ?_
    refine bg_goto (l := 11) C d_mo_arm_7 (by decide) ?_
    refine bm_puti C cf_mo hI 0 0 rfl rfl (by decide) rfl rfl rfl (by omega) (by omega) rfl (Or.inl rfl) tw_677 d_mo_arm_11 (fun w6 hI6 e6 => ?_)
    have A6_28 : ∀ i, w6 28 i = w0 28 i := fun i => by rw [e6]; exact bgU_ne i (by decide)
    have A6_29 : ∀ i, w6 29 i = w0 29 i := fun i => by rw [e6]; exact bgU_ne i (by decide)
    have A6_30 : ∀ i, w6 30 i = w0 30 i := fun i => by rw [e6]; exact bgU_ne i (by decide)
    have A6_34 : ∀ i, w6 34 i = w0 34 i := fun i => by rw [e6]; exact bgU_ne i (by decide)
    have g6_0 : w6 27 0 = 1 := by rw [e6]; exact bgU_eq
    have g6_1 : w6 27 4 = w0 27 4 := by rw [e6]; exact bgU_nei (by decide)
    have g6_2 : w6 27 5 = w0 27 5 := by rw [e6]; exact bgU_nei (by decide)
    have g6_3 : w6 27 6 = w0 27 6 := by rw [e6]; exact bgU_nei (by decide)
    have g6_4 : w6 27 7 = w0 27 7 := by rw [e6]; exact bgU_nei (by decide)
    have g6_5 : w6 27 17 = w0 27 17 := by rw [e6]; exact bgU_nei (by decide)
    have g6_6 : w6 27 19 = w0 27 19 := by rw [e6]; exact bgU_nei (by decide)
    have g6_7 : w6 27 20 = w0 27 20 := by rw [e6]; exact bgU_nei (by decide)
    refine bg_aload_n C d_mo_arm_14 rfl rfl ?_
    refine bg_aload_n C d_mo_arm_15 rfl rfl ?_
    refine bm_geti C cf_mo hI6 0 0 rfl rfl (by decide) rfl rfl tw_677 d_mo_arm_16 (fun v7 e7 a7 b7 => ?_)
    refine bg_if_ne (tgt := 26) C d_mo_arm_19 (by decide) ⟨by omega, by omega⟩ (fun h8 => ?_) (fun h8 => by exfalso; omega)
    refine bg_aload_n C d_mo_arm_26 rfl rfl ?_
    refine bq_get0 C cf_mo 13 13 rfl rfl (by decide) rfl tw_690 d_mo_arm_27 (fun v9 e9 => ?_)
    refine bm_put0 C cf_mo hI6 13 13 rfl rfl (by decide) rfl rfl rfl rfl rfl tw_690 d_mo_arm_30 (fun w10 hI10 e10 => ?_)
    have A10_28 : ∀ i, w10 28 i = w0 28 i := fun i => by rw [e10]; exact (bgU_ne i (by decide)).trans (A6_28 i)
    have A10_29 : ∀ i, w10 29 i = w0 29 i := fun i => by rw [e10]; exact (bgU_ne i (by decide)).trans (A6_29 i)
    have A10_30 : ∀ i, w10 30 i = w0 30 i := fun i => by rw [e10]; exact (bgU_ne i (by decide)).trans (A6_30 i)
    have A10_34 : ∀ i, w10 34 i = w0 34 i := fun i => by rw [e10]; exact (bgU_ne i (by decide)).trans (A6_34 i)
    have g10_0 : w10 27 0 = w6 27 0 := by rw [e10]; exact bgU_nei (by decide)
    have g10_1 : w10 27 4 = w6 27 4 := by rw [e10]; exact bgU_nei (by decide)
    have g10_2 : w10 27 5 = w6 27 5 := by rw [e10]; exact bgU_nei (by decide)
    have g10_3 : w10 27 6 = w6 27 6 := by rw [e10]; exact bgU_nei (by decide)
    have g10_4 : w10 27 7 = w6 27 7 := by rw [e10]; exact bgU_nei (by decide)
    have g10_5 : w10 27 17 = w6 27 17 := by rw [e10]; exact bgU_nei (by decide)
    have g10_6 : w10 27 19 = w6 27 19 := by rw [e10]; exact bgU_nei (by decide)
    have g10_7 : w10 27 20 = w6 27 20 := by rw [e10]; exact bgU_nei (by decide)
    exact bg_ret C d_mo_arm_33 (fun h => by cases h) rfl (Nat.zero_le _) (Nat.zero_le _) ⟨rfl, hI10, by omega, by omega, bmB_of A10_28 A10_29 A10_30 A10_34 (by omega) (by omega) (by omega) (by omega) (by omega) (by omega) (by omega) hB⟩
def S_mo_recover : List (Nat × Option Int) := [(27, some 0), (27, some 19), (27, some 11), (27, some 12), (27, some 13), (27, some 5), (27, some 6), (27, some 14), (27, some 17), (27, some 10), (33, none), (28, none), (29, none), (30, none)]
def rm_mo_recover : Room := { frames := 2, cells := 0, slots := 0, locals := 45 }
set_option maxRecDepth 20000 in
set_option maxHeartbeats 4000000 in
theorem m_mo_recover {G : bgGl} (hG : bgOk G) {w0 : bgW} (hw : moN w0) (z0 : bmB w0) : bgM G false 0 0 y_mo_recover (.code y_mo_recover co_mo_recover 1 (some .int)) rm_mo_recover [br 27] w0 (bgPi (fun v w' => moRel S_mo_recover w0 w' ∧ bmB w')) := by
  refine bg_met hG (by decide +kernel) (bg_cat rfl) (Nat.le_of_ble_eq_true rfl) ?_
  intro K hK hR hex C
  subst hK
  have hI := moRel.rfl (S := S_mo_recover) hw
  show bgX K true 0 0 _ w0 0 [some (br 27)] []
  have hB := z0
  have hB1 := hB.1
  have hs17 := hw 27 17 0 51 rfl
  have hs7 := hw 27 7 0 20 rfl
  have hs19 := hw 27 19 0 1 rfl
  have hs6 := hw 27 6 0 1 rfl
  have hs5 := hw 27 5 0 1 rfl
  refine bg_aload_n C d_mo_recover_0 rfl rfl ?_
  refine bg_iconst C d_mo_recover_1 ?_
  refine bm_puti C cf_mo hI 0 0 rfl rfl (by decide) rfl rfl rfl (by omega) (by omega) rfl (Or.inl rfl) tw_677 d_mo_recover_2 (fun w1 hI1 e1 => ?_)
  have A1_28 : ∀ i, w1 28 i = w0 28 i := fun i => by rw [e1]; exact bgU_ne i (by decide)
  have A1_29 : ∀ i, w1 29 i = w0 29 i := fun i => by rw [e1]; exact bgU_ne i (by decide)
  have A1_30 : ∀ i, w1 30 i = w0 30 i := fun i => by rw [e1]; exact bgU_ne i (by decide)
  have A1_34 : ∀ i, w1 34 i = w0 34 i := fun i => by rw [e1]; exact bgU_ne i (by decide)
  have g1_0 : w1 27 0 = 0 := by rw [e1]; exact bgU_eq
  have g1_1 : w1 27 4 = w0 27 4 := by rw [e1]; exact bgU_nei (by decide)
  have g1_2 : w1 27 5 = w0 27 5 := by rw [e1]; exact bgU_nei (by decide)
  have g1_3 : w1 27 6 = w0 27 6 := by rw [e1]; exact bgU_nei (by decide)
  have g1_4 : w1 27 7 = w0 27 7 := by rw [e1]; exact bgU_nei (by decide)
  have g1_5 : w1 27 17 = w0 27 17 := by rw [e1]; exact bgU_nei (by decide)
  have g1_6 : w1 27 19 = w0 27 19 := by rw [e1]; exact bgU_nei (by decide)
  have g1_7 : w1 27 20 = w0 27 20 := by rw [e1]; exact bgU_nei (by decide)
  refine bg_aload_n C d_mo_recover_5 rfl rfl ?_
  refine bg_iconst C d_mo_recover_6 ?_
  refine bm_puti C cf_mo hI1 17 17 rfl rfl (by decide) rfl rfl rfl (by omega) (by omega) rfl (Or.inl rfl) tw_694 d_mo_recover_7 (fun w2 hI2 e2 => ?_)
  have A2_28 : ∀ i, w2 28 i = w0 28 i := fun i => by rw [e2]; exact (bgU_ne i (by decide)).trans (A1_28 i)
  have A2_29 : ∀ i, w2 29 i = w0 29 i := fun i => by rw [e2]; exact (bgU_ne i (by decide)).trans (A1_29 i)
  have A2_30 : ∀ i, w2 30 i = w0 30 i := fun i => by rw [e2]; exact (bgU_ne i (by decide)).trans (A1_30 i)
  have A2_34 : ∀ i, w2 34 i = w0 34 i := fun i => by rw [e2]; exact (bgU_ne i (by decide)).trans (A1_34 i)
  have g2_0 : w2 27 0 = w1 27 0 := by rw [e2]; exact bgU_nei (by decide)
  have g2_1 : w2 27 4 = w1 27 4 := by rw [e2]; exact bgU_nei (by decide)
  have g2_2 : w2 27 5 = w1 27 5 := by rw [e2]; exact bgU_nei (by decide)
  have g2_3 : w2 27 6 = w1 27 6 := by rw [e2]; exact bgU_nei (by decide)
  have g2_4 : w2 27 7 = w1 27 7 := by rw [e2]; exact bgU_nei (by decide)
  have g2_5 : w2 27 17 = 0 := by rw [e2]; exact bgU_eq
  have g2_6 : w2 27 19 = w1 27 19 := by rw [e2]; exact bgU_nei (by decide)
  have g2_7 : w2 27 20 = w1 27 20 := by rw [e2]; exact bgU_nei (by decide)
  refine bg_aload_n C d_mo_recover_10 rfl rfl ?_
  refine bg_iconst C d_mo_recover_11 ?_
  refine bm_puti C cf_mo hI2 6 6 rfl rfl (by decide) rfl rfl rfl (by omega) (by omega) rfl (Or.inr ⟨rfl, by omega⟩) tw_683 d_mo_recover_12 (fun w3 hI3 e3 => ?_)
  have A3_28 : ∀ i, w3 28 i = w0 28 i := fun i => by rw [e3]; exact (bgU_ne i (by decide)).trans (A2_28 i)
  have A3_29 : ∀ i, w3 29 i = w0 29 i := fun i => by rw [e3]; exact (bgU_ne i (by decide)).trans (A2_29 i)
  have A3_30 : ∀ i, w3 30 i = w0 30 i := fun i => by rw [e3]; exact (bgU_ne i (by decide)).trans (A2_30 i)
  have A3_34 : ∀ i, w3 34 i = w0 34 i := fun i => by rw [e3]; exact (bgU_ne i (by decide)).trans (A2_34 i)
  have g3_0 : w3 27 0 = w2 27 0 := by rw [e3]; exact bgU_nei (by decide)
  have g3_1 : w3 27 4 = w2 27 4 := by rw [e3]; exact bgU_nei (by decide)
  have g3_2 : w3 27 5 = w2 27 5 := by rw [e3]; exact bgU_nei (by decide)
  have g3_3 : w3 27 6 = 0 := by rw [e3]; exact bgU_eq
  have g3_4 : w3 27 7 = w2 27 7 := by rw [e3]; exact bgU_nei (by decide)
  have g3_5 : w3 27 17 = w2 27 17 := by rw [e3]; exact bgU_nei (by decide)
  have g3_6 : w3 27 19 = w2 27 19 := by rw [e3]; exact bgU_nei (by decide)
  have g3_7 : w3 27 20 = w2 27 20 := by rw [e3]; exact bgU_nei (by decide)
  refine bg_aload_n C d_mo_recover_15 rfl rfl ?_
  refine bg_iconst C d_mo_recover_16 ?_
  refine bm_puti C cf_mo hI3 19 19 rfl rfl (by decide) rfl rfl rfl (by omega) (by omega) rfl (Or.inr ⟨rfl, by omega⟩) tw_696 d_mo_recover_17 (fun w4 hI4 e4 => ?_)
  have A4_28 : ∀ i, w4 28 i = w0 28 i := fun i => by rw [e4]; exact (bgU_ne i (by decide)).trans (A3_28 i)
  have A4_29 : ∀ i, w4 29 i = w0 29 i := fun i => by rw [e4]; exact (bgU_ne i (by decide)).trans (A3_29 i)
  have A4_30 : ∀ i, w4 30 i = w0 30 i := fun i => by rw [e4]; exact (bgU_ne i (by decide)).trans (A3_30 i)
  have A4_34 : ∀ i, w4 34 i = w0 34 i := fun i => by rw [e4]; exact (bgU_ne i (by decide)).trans (A3_34 i)
  have g4_0 : w4 27 0 = w3 27 0 := by rw [e4]; exact bgU_nei (by decide)
  have g4_1 : w4 27 4 = w3 27 4 := by rw [e4]; exact bgU_nei (by decide)
  have g4_2 : w4 27 5 = w3 27 5 := by rw [e4]; exact bgU_nei (by decide)
  have g4_3 : w4 27 6 = w3 27 6 := by rw [e4]; exact bgU_nei (by decide)
  have g4_4 : w4 27 7 = w3 27 7 := by rw [e4]; exact bgU_nei (by decide)
  have g4_5 : w4 27 17 = w3 27 17 := by rw [e4]; exact bgU_nei (by decide)
  have g4_6 : w4 27 19 = 1 := by rw [e4]; exact bgU_eq
  have g4_7 : w4 27 20 = w3 27 20 := by rw [e4]; exact bgU_nei (by decide)
  refine bg_aload_n C d_mo_recover_20 rfl rfl ?_
  refine bm_geti C cf_mo hI4 4 4 rfl rfl (by decide) rfl rfl tw_681 d_mo_recover_21 (fun v5 e5 a5 b5 => ?_)
  refine bg_if_ne (tgt := 29) C d_mo_recover_24 (by decide) ⟨by omega, by omega⟩ (fun h6 => ?_) (fun h6 => ?_)
  · refine bg_aload_n C d_mo_recover_29 rfl rfl ?_
    refine bg_sipush C d_mo_recover_30 (by decide +kernel) ?_
    refine bg_iconst C d_mo_recover_33 ?_
    refine bg_cv C (m_mo_copy_vis hG hI4.1) (bg_invV C cf_mo rfl tw_803 ti_mo_copy ts_mo_copy tc_mo_copy tw_42 ⟨by decide, by decide⟩ (nA := 2) (by decide +kernel) rfl d_mo_recover_34 rfl) rfl (by rw [hR]; exact ⟨by decide, by decide⟩) (by rw [hR]; exact ⟨by decide, by decide⟩) (Nat.le_of_ble_eq_true rfl) rfl (fun w7 p7 => ?_)
    obtain ⟨j7, r7_0⟩ := p7
    have hI7 := hI4.trans j7 (by decide)
    have g7_0 : w7 27 0 = w4 27 0 := j7.2 27 0 rfl
    have g7_1 : w7 27 4 = w4 27 4 := j7.2 27 4 rfl
    have g7_2 : w7 27 5 = w4 27 5 := j7.2 27 5 rfl
    have g7_3 : w7 27 6 = w4 27 6 := j7.2 27 6 rfl
    have g7_4 : w7 27 7 = w4 27 7 := j7.2 27 7 rfl
    have g7_5 : w7 27 17 = w4 27 17 := j7.2 27 17 rfl
    have g7_6 : w7 27 19 = w4 27 19 := j7.2 27 19 rfl
    have g7_7 : w7 27 20 = w4 27 20 := j7.2 27 20 rfl
    have A7_34 : ∀ i, w7 34 i = w0 34 i := fun i => (j7.2 34 i rfl).trans (A4_34 i)
    have cE : bmE w7 := bmE_cp (w0 := w4) (to := 200) (fr := 0) (by omega) r7_0 (bmE_of A4_28 A4_30 hB.2.1)
    have cH : bmH w7 := bmH_cp (w0 := w4) (to := 200) (fr := 0) (by omega) r7_0
    have c28 : ∀ e, 0 ≤ e → e < 200 → w7 28 (200 + e) = w0 28 (e) := fun e h0 h1 => ((r7_0 28 e (by simp) h0 h1).1).trans ((A4_28 _).trans (by rw [Int.zero_add]))
    have c29 : ∀ e, 0 ≤ e → e < 200 → w7 29 (200 + e) = w0 29 (e) := fun e h0 h1 => ((r7_0 29 e (by simp) h0 h1).1).trans ((A4_29 _).trans (by rw [Int.zero_add]))
    have c30 : ∀ e, 0 ≤ e → e < 200 → w7 30 (200 + e) = w0 30 (e) := fun e h0 h1 => ((r7_0 30 e (by simp) h0 h1).1).trans ((A4_30 _).trans (by rw [Int.zero_add]))
    refine bg_aload_n C d_mo_recover_37 rfl rfl ?_
    refine bg_iconst C d_mo_recover_38 ?_
    refine bm_puti C cf_mo hI7 5 5 rfl rfl (by decide) rfl rfl rfl (by omega) (by omega) rfl (Or.inr ⟨rfl, by omega⟩) tw_682 d_mo_recover_39 (fun w8 hI8 e8 => ?_)
    have A8_28 : ∀ i, w8 28 i = w7 28 i := fun i => by rw [e8]; exact bgU_ne i (by decide)
    have A8_29 : ∀ i, w8 29 i = w7 29 i := fun i => by rw [e8]; exact bgU_ne i (by decide)
    have A8_30 : ∀ i, w8 30 i = w7 30 i := fun i => by rw [e8]; exact bgU_ne i (by decide)
    have A8_34 : ∀ i, w8 34 i = w0 34 i := fun i => by rw [e8]; exact (bgU_ne i (by decide)).trans (A7_34 i)
    have g8_0 : w8 27 0 = w7 27 0 := by rw [e8]; exact bgU_nei (by decide)
    have g8_1 : w8 27 4 = w7 27 4 := by rw [e8]; exact bgU_nei (by decide)
    have g8_2 : w8 27 5 = 0 := by rw [e8]; exact bgU_eq
    have g8_3 : w8 27 6 = w7 27 6 := by rw [e8]; exact bgU_nei (by decide)
    have g8_4 : w8 27 7 = w7 27 7 := by rw [e8]; exact bgU_nei (by decide)
    have g8_5 : w8 27 17 = w7 27 17 := by rw [e8]; exact bgU_nei (by decide)
    have g8_6 : w8 27 19 = w7 27 19 := by rw [e8]; exact bgU_nei (by decide)
    have g8_7 : w8 27 20 = w7 27 20 := by rw [e8]; exact bgU_nei (by decide)
    refine bg_aload_n C d_mo_recover_42 rfl rfl ?_
    refine bm_geti C cf_mo hI8 10 10 rfl rfl (by decide) rfl rfl tw_687 d_mo_recover_43 (fun v9 e9 a9 b9 => ?_)
    refine bg_if_eq (tgt := 58) C d_mo_recover_46 (by decide) ⟨by omega, by omega⟩ (fun h10 => ?_) (fun h10 => ?_)
    · refine bg_aload_n C d_mo_recover_58 rfl rfl ?_
      refine bg_dup C d_mo_recover_59 rfl ?_
      refine bq_get0 C cf_mo 11 11 rfl rfl (by decide) rfl tw_688 d_mo_recover_60 (fun v11 e11 => ?_)
      refine bg_aload_n C d_mo_recover_63 rfl rfl ?_
      refine bq_get0 C cf_mo 12 12 rfl rfl (by decide) rfl tw_689 d_mo_recover_64 (fun v12 e12 => ?_)
      refine bg_iadd C d_mo_recover_67 ?_
      refine bm_put0 C cf_mo hI8 11 11 rfl rfl (by decide) rfl rfl rfl rfl rfl tw_688 d_mo_recover_68 (fun w13 hI13 e13 => ?_)
      have A13_28 : ∀ i, w13 28 i = w7 28 i := fun i => by rw [e13]; exact (bgU_ne i (by decide)).trans (A8_28 i)
      have A13_29 : ∀ i, w13 29 i = w7 29 i := fun i => by rw [e13]; exact (bgU_ne i (by decide)).trans (A8_29 i)
      have A13_30 : ∀ i, w13 30 i = w7 30 i := fun i => by rw [e13]; exact (bgU_ne i (by decide)).trans (A8_30 i)
      have A13_34 : ∀ i, w13 34 i = w0 34 i := fun i => by rw [e13]; exact (bgU_ne i (by decide)).trans (A8_34 i)
      have g13_0 : w13 27 0 = w8 27 0 := by rw [e13]; exact bgU_nei (by decide)
      have g13_1 : w13 27 4 = w8 27 4 := by rw [e13]; exact bgU_nei (by decide)
      have g13_2 : w13 27 5 = w8 27 5 := by rw [e13]; exact bgU_nei (by decide)
      have g13_3 : w13 27 6 = w8 27 6 := by rw [e13]; exact bgU_nei (by decide)
      have g13_4 : w13 27 7 = w8 27 7 := by rw [e13]; exact bgU_nei (by decide)
      have g13_5 : w13 27 17 = w8 27 17 := by rw [e13]; exact bgU_nei (by decide)
      have g13_6 : w13 27 19 = w8 27 19 := by rw [e13]; exact bgU_nei (by decide)
      have g13_7 : w13 27 20 = w8 27 20 := by rw [e13]; exact bgU_nei (by decide)
      refine bg_aload_n C d_mo_recover_71 rfl rfl ?_
      refine bg_iconst C d_mo_recover_72 ?_
      refine bm_put0 C cf_mo hI13 12 12 rfl rfl (by decide) rfl rfl rfl rfl rfl tw_689 d_mo_recover_73 (fun w14 hI14 e14 => ?_)
      have A14_28 : ∀ i, w14 28 i = w7 28 i := fun i => by rw [e14]; exact (bgU_ne i (by decide)).trans (A13_28 i)
      have A14_29 : ∀ i, w14 29 i = w7 29 i := fun i => by rw [e14]; exact (bgU_ne i (by decide)).trans (A13_29 i)
      have A14_30 : ∀ i, w14 30 i = w7 30 i := fun i => by rw [e14]; exact (bgU_ne i (by decide)).trans (A13_30 i)
      have A14_34 : ∀ i, w14 34 i = w0 34 i := fun i => by rw [e14]; exact (bgU_ne i (by decide)).trans (A13_34 i)
      have g14_0 : w14 27 0 = w13 27 0 := by rw [e14]; exact bgU_nei (by decide)
      have g14_1 : w14 27 4 = w13 27 4 := by rw [e14]; exact bgU_nei (by decide)
      have g14_2 : w14 27 5 = w13 27 5 := by rw [e14]; exact bgU_nei (by decide)
      have g14_3 : w14 27 6 = w13 27 6 := by rw [e14]; exact bgU_nei (by decide)
      have g14_4 : w14 27 7 = w13 27 7 := by rw [e14]; exact bgU_nei (by decide)
      have g14_5 : w14 27 17 = w13 27 17 := by rw [e14]; exact bgU_nei (by decide)
      have g14_6 : w14 27 19 = w13 27 19 := by rw [e14]; exact bgU_nei (by decide)
      have g14_7 : w14 27 20 = w13 27 20 := by rw [e14]; exact bgU_nei (by decide)
      refine bg_iconst C d_mo_recover_76 ?_
      exact bg_iret C d_mo_recover_77 (fun h => by cases h) (Or.inl rfl) (Nat.zero_le _) (Nat.zero_le _) ⟨_, rfl, hI14, bmB_5 (bmE_of A14_28 A14_30 cE) (bmH_of A14_28 A14_29 A14_30 cH) (by omega) (by omega)⟩
    · refine bg_aload_n C d_mo_recover_49 rfl rfl ?_
      refine bg_ci C (m_mo_isHome hG hI8.1 (by omega)) (bg_invV C cf_mo rfl tw_807 ti_mo_isHome ts_mo_isHome tc_mo_isHome tw_42 ⟨by decide, by decide⟩ (nA := 0) (by decide +kernel) rfl d_mo_recover_50 rfl) rfl (by rw [hR]; exact ⟨by decide, by decide⟩) (by rw [hR]; exact ⟨by decide, by decide⟩) (Nat.le_of_ble_eq_true rfl) rfl (fun v15 w15 p15 => ?_)
      obtain ⟨j15, r15_0, r15_1, r15_2, r15_3, r15_4, r15_5⟩ := p15
      have hI15 := hI8.trans j15 (by decide)
      have g15_0 : w15 27 0 = w8 27 0 := j15.2 27 0 rfl
      have g15_1 : w15 27 4 = w8 27 4 := j15.2 27 4 rfl
      have g15_4 : w15 27 7 = w8 27 7 := j15.2 27 7 rfl
      have g15_6 : w15 27 19 = w8 27 19 := j15.2 27 19 rfl
      have g15_7 : w15 27 20 = w8 27 20 := j15.2 27 20 rfl
      have A15_28 : ∀ i, w15 28 i = w7 28 i := fun i => (j15.2 28 i rfl).trans (A8_28 i)
      have A15_29 : ∀ i, w15 29 i = w7 29 i := fun i => (j15.2 29 i rfl).trans (A8_29 i)
      have A15_30 : ∀ i, w15 30 i = w7 30 i := fun i => (j15.2 30 i rfl).trans (A8_30 i)
      have A15_34 : ∀ i, w15 34 i = w0 34 i := fun i => (j15.2 34 i rfl).trans (A8_34 i)
      refine bg_if_ne (tgt := 58) C d_mo_recover_53 (by decide) ⟨by omega, by omega⟩ (fun h16 => ?_) (fun h16 => ?_)
      · refine bg_aload_n C d_mo_recover_58 rfl rfl ?_
        refine bg_dup C d_mo_recover_59 rfl ?_
        refine bq_get0 C cf_mo 11 11 rfl rfl (by decide) rfl tw_688 d_mo_recover_60 (fun v17 e17 => ?_)
        refine bg_aload_n C d_mo_recover_63 rfl rfl ?_
        refine bq_get0 C cf_mo 12 12 rfl rfl (by decide) rfl tw_689 d_mo_recover_64 (fun v18 e18 => ?_)
        refine bg_iadd C d_mo_recover_67 ?_
        refine bm_put0 C cf_mo hI15 11 11 rfl rfl (by decide) rfl rfl rfl rfl rfl tw_688 d_mo_recover_68 (fun w19 hI19 e19 => ?_)
        have A19_28 : ∀ i, w19 28 i = w7 28 i := fun i => by rw [e19]; exact (bgU_ne i (by decide)).trans (A15_28 i)
        have A19_29 : ∀ i, w19 29 i = w7 29 i := fun i => by rw [e19]; exact (bgU_ne i (by decide)).trans (A15_29 i)
        have A19_30 : ∀ i, w19 30 i = w7 30 i := fun i => by rw [e19]; exact (bgU_ne i (by decide)).trans (A15_30 i)
        have A19_34 : ∀ i, w19 34 i = w0 34 i := fun i => by rw [e19]; exact (bgU_ne i (by decide)).trans (A15_34 i)
        have g19_0 : w19 27 0 = w15 27 0 := by rw [e19]; exact bgU_nei (by decide)
        have g19_1 : w19 27 4 = w15 27 4 := by rw [e19]; exact bgU_nei (by decide)
        have g19_2 : w19 27 5 = w15 27 5 := by rw [e19]; exact bgU_nei (by decide)
        have g19_3 : w19 27 6 = w15 27 6 := by rw [e19]; exact bgU_nei (by decide)
        have g19_4 : w19 27 7 = w15 27 7 := by rw [e19]; exact bgU_nei (by decide)
        have g19_5 : w19 27 17 = w15 27 17 := by rw [e19]; exact bgU_nei (by decide)
        have g19_6 : w19 27 19 = w15 27 19 := by rw [e19]; exact bgU_nei (by decide)
        have g19_7 : w19 27 20 = w15 27 20 := by rw [e19]; exact bgU_nei (by decide)
        refine bg_aload_n C d_mo_recover_71 rfl rfl ?_
        refine bg_iconst C d_mo_recover_72 ?_
        refine bm_put0 C cf_mo hI19 12 12 rfl rfl (by decide) rfl rfl rfl rfl rfl tw_689 d_mo_recover_73 (fun w20 hI20 e20 => ?_)
        have A20_28 : ∀ i, w20 28 i = w7 28 i := fun i => by rw [e20]; exact (bgU_ne i (by decide)).trans (A19_28 i)
        have A20_29 : ∀ i, w20 29 i = w7 29 i := fun i => by rw [e20]; exact (bgU_ne i (by decide)).trans (A19_29 i)
        have A20_30 : ∀ i, w20 30 i = w7 30 i := fun i => by rw [e20]; exact (bgU_ne i (by decide)).trans (A19_30 i)
        have A20_34 : ∀ i, w20 34 i = w0 34 i := fun i => by rw [e20]; exact (bgU_ne i (by decide)).trans (A19_34 i)
        have g20_0 : w20 27 0 = w19 27 0 := by rw [e20]; exact bgU_nei (by decide)
        have g20_1 : w20 27 4 = w19 27 4 := by rw [e20]; exact bgU_nei (by decide)
        have g20_2 : w20 27 5 = w19 27 5 := by rw [e20]; exact bgU_nei (by decide)
        have g20_3 : w20 27 6 = w19 27 6 := by rw [e20]; exact bgU_nei (by decide)
        have g20_4 : w20 27 7 = w19 27 7 := by rw [e20]; exact bgU_nei (by decide)
        have g20_5 : w20 27 17 = w19 27 17 := by rw [e20]; exact bgU_nei (by decide)
        have g20_6 : w20 27 19 = w19 27 19 := by rw [e20]; exact bgU_nei (by decide)
        have g20_7 : w20 27 20 = w19 27 20 := by rw [e20]; exact bgU_nei (by decide)
        refine bg_iconst C d_mo_recover_76 ?_
        exact bg_iret C d_mo_recover_77 (fun h => by cases h) (Or.inl rfl) (Nat.zero_le _) (Nat.zero_le _) ⟨_, rfl, hI20, bmB_5 (bmE_of A20_28 A20_30 cE) (bmH_of A20_28 A20_29 A20_30 cH) (by omega) (by omega)⟩
      · refine bg_iconst C d_mo_recover_56 ?_
        exact bg_iret C d_mo_recover_57 (fun h => by cases h) (Or.inl rfl) (Nat.zero_le _) (Nat.zero_le _) ⟨_, rfl, hI15, bmB_5 (bmE_of A15_28 A15_30 cE) (bmH_of A15_28 A15_29 A15_30 cH) (by omega) (by omega)⟩
  · refine bg_iconst C d_mo_recover_27 ?_
    exact bg_iret C d_mo_recover_28 (fun h => by cases h) (Or.inl rfl) (Nat.zero_le _) (Nat.zero_le _) ⟨_, rfl, hI4, bmB_4 (bmE_of A4_28 A4_30 hB.2.1) (by omega) (by omega) (by omega)⟩
def S_mo_edge : List (Nat × Option Int) := [(27, some 0), (27, some 17), (27, some 15), (33, none)]
def rm_mo_edge : Room := { frames := 2, cells := 0, slots := 0, locals := 45 }
set_option maxRecDepth 20000 in
set_option maxHeartbeats 4000000 in
theorem m_mo_edge {G : bgGl} (hG : bgOk G) {w0 : bgW} (hw : moN w0) {e x : Int} (z0 : -2147483648 ≤ e) (z1 : e ≤ 2147483647) (z2 : -2147483648 ≤ x) (z3 : x ≤ 2147483647) (z4 : bmB w0) : bgM G false 0 0 y_mo_edge (.code y_mo_edge co_mo_edge 3 (some .int)) rm_mo_edge [br 27, bi e, bi x] w0 (bgPi (fun v w' => moRel S_mo_edge w0 w' ∧ bmB w')) := by
  refine bg_met hG (by decide +kernel) (bg_cat rfl) (Nat.le_of_ble_eq_true rfl) ?_
  intro K hK hR hex C
  subst hK
  have hI := moRel.rfl (S := S_mo_edge) hw
  show bgX K true 0 0 _ w0 0 [some (br 27), some (bi e), some (bi x)] []
  have hB := z4
  have hB1 := hB.1
  have hs17 := hw 27 17 0 51 rfl
  have hs7 := hw 27 7 0 20 rfl
  have hs19 := hw 27 19 0 1 rfl
  have hs6 := hw 27 6 0 1 rfl
  have hs5 := hw 27 5 0 1 rfl
  refine bg_aload_n C d_mo_edge_0 rfl rfl ?_
  refine bg_aload_n C d_mo_edge_1 rfl rfl ?_
  refine bg_ci C (m_mo_isDown hG hI.1) (bg_invV C cf_mo rfl tw_776 ti_mo_isDown ts_mo_isDown tc_mo_isDown tw_42 ⟨by decide, by decide⟩ (nA := 0) (by decide +kernel) rfl d_mo_edge_2 rfl) rfl (by rw [hR]; exact ⟨by decide, by decide⟩) (by rw [hR]; exact ⟨by decide, by decide⟩) (Nat.le_of_ble_eq_true rfl) rfl (fun v1 w1 p1 => ?_)
  obtain ⟨rfl, r1_0, r1_1, r1_2, r1_3⟩ := p1
  refine bg_if_eq (tgt := 12) C d_mo_edge_5 (by decide) ⟨by omega, by omega⟩ (fun h2 => ?_) (fun h2 => ?_)
  · refine bg_aload_n C d_mo_edge_12 rfl rfl ?_
    refine bg_iload_n C d_mo_edge_13 rfl rfl ?_
    refine bg_ci C (m_mo_isVisible hG hI.1 (by omega) (by omega)) (bg_invV C cf_mo rfl tw_795 ti_mo_isVisible ts_mo_isVisible tc_mo_isVisible tw_42 ⟨by decide, by decide⟩ (nA := 1) (by decide +kernel) rfl d_mo_edge_14 rfl) rfl (by rw [hR]; exact ⟨by decide, by decide⟩) (by rw [hR]; exact ⟨by decide, by decide⟩) (Nat.le_of_ble_eq_true rfl) rfl (fun v3 w3 p3 => ?_)
    obtain ⟨rfl, r3_0, r3_1, r3_2⟩ := p3
    refine bg_if_ne (tgt := 24) C d_mo_edge_17 (by decide) ⟨by omega, by omega⟩ (fun h4 => ?_) (fun h4 => ?_)
    · refine bg_iload_n C d_mo_edge_24 rfl rfl ?_
      refine bg_if_lt (tgt := 33) C d_mo_edge_25 (by decide) ⟨by omega, by omega⟩ (fun h5 => ?_) (fun h5 => ?_)
      · refine bg_iconst C d_mo_edge_33 ?_
        refine bg_goto (l := 38) C d_mo_edge_34 (by decide) ?_
        refine bm_puti C cf_mo hI 0 0 rfl rfl (by decide) rfl rfl rfl (by omega) (by omega) rfl (Or.inl rfl) tw_677 d_mo_edge_38 (fun w6 hI6 e6 => ?_)
        have A6_28 : ∀ i, w6 28 i = w0 28 i := fun i => by rw [e6]; exact bgU_ne i (by decide)
        have A6_29 : ∀ i, w6 29 i = w0 29 i := fun i => by rw [e6]; exact bgU_ne i (by decide)
        have A6_30 : ∀ i, w6 30 i = w0 30 i := fun i => by rw [e6]; exact bgU_ne i (by decide)
        have A6_34 : ∀ i, w6 34 i = w0 34 i := fun i => by rw [e6]; exact bgU_ne i (by decide)
        have g6_0 : w6 27 0 = 3 := by rw [e6]; exact bgU_eq
        have g6_1 : w6 27 4 = w0 27 4 := by rw [e6]; exact bgU_nei (by decide)
        have g6_2 : w6 27 5 = w0 27 5 := by rw [e6]; exact bgU_nei (by decide)
        have g6_3 : w6 27 6 = w0 27 6 := by rw [e6]; exact bgU_nei (by decide)
        have g6_4 : w6 27 7 = w0 27 7 := by rw [e6]; exact bgU_nei (by decide)
        have g6_5 : w6 27 17 = w0 27 17 := by rw [e6]; exact bgU_nei (by decide)
        have g6_6 : w6 27 19 = w0 27 19 := by rw [e6]; exact bgU_nei (by decide)
        have g6_7 : w6 27 20 = w0 27 20 := by rw [e6]; exact bgU_nei (by decide)
        refine bg_aload_n C d_mo_edge_41 rfl rfl ?_
        refine bm_geti C cf_mo hI6 0 0 rfl rfl (by decide) rfl rfl tw_677 d_mo_edge_42 (fun v7 e7 a7 b7 => ?_)
        refine bg_if_le (tgt := 50) C d_mo_edge_45 (by decide) ⟨by omega, by omega⟩ (fun h8 => by exfalso; omega) (fun h8 => ?_)
        refine bg_iconst C d_mo_edge_48 ?_
        exact bg_iret C d_mo_edge_49 (fun h => by cases h) (Or.inl rfl) (Nat.zero_le _) (Nat.zero_le _) ⟨_, rfl, hI6, bmB_of A6_28 A6_29 A6_30 A6_34 (by omega) (by omega) (by omega) (by omega) (by omega) (by omega) (by omega) hB⟩
      · refine bg_iload_n C d_mo_edge_28 rfl rfl ?_
        refine bg_iconst C d_mo_edge_29 ?_
        refine bg_icmp_le (tgt := 37) C d_mo_edge_30 (by decide) ⟨by omega, by omega⟩ ⟨by omega, by omega⟩ (fun h9 => ?_) (fun h9 => ?_)
        · refine bg_iconst C d_mo_edge_37 ?_
          refine bm_puti C cf_mo hI 0 0 rfl rfl (by decide) rfl rfl rfl (by omega) (by omega) rfl (Or.inl rfl) tw_677 d_mo_edge_38 (fun w10 hI10 e10 => ?_)
          have A10_28 : ∀ i, w10 28 i = w0 28 i := fun i => by rw [e10]; exact bgU_ne i (by decide)
          have A10_29 : ∀ i, w10 29 i = w0 29 i := fun i => by rw [e10]; exact bgU_ne i (by decide)
          have A10_30 : ∀ i, w10 30 i = w0 30 i := fun i => by rw [e10]; exact bgU_ne i (by decide)
          have A10_34 : ∀ i, w10 34 i = w0 34 i := fun i => by rw [e10]; exact bgU_ne i (by decide)
          have g10_0 : w10 27 0 = 0 := by rw [e10]; exact bgU_eq
          have g10_1 : w10 27 4 = w0 27 4 := by rw [e10]; exact bgU_nei (by decide)
          have g10_2 : w10 27 5 = w0 27 5 := by rw [e10]; exact bgU_nei (by decide)
          have g10_3 : w10 27 6 = w0 27 6 := by rw [e10]; exact bgU_nei (by decide)
          have g10_4 : w10 27 7 = w0 27 7 := by rw [e10]; exact bgU_nei (by decide)
          have g10_5 : w10 27 17 = w0 27 17 := by rw [e10]; exact bgU_nei (by decide)
          have g10_6 : w10 27 19 = w0 27 19 := by rw [e10]; exact bgU_nei (by decide)
          have g10_7 : w10 27 20 = w0 27 20 := by rw [e10]; exact bgU_nei (by decide)
          refine bg_aload_n C d_mo_edge_41 rfl rfl ?_
          refine bm_geti C cf_mo hI10 0 0 rfl rfl (by decide) rfl rfl tw_677 d_mo_edge_42 (fun v11 e11 a11 b11 => ?_)
          refine bg_if_le (tgt := 50) C d_mo_edge_45 (by decide) ⟨by omega, by omega⟩ (fun h12 => ?_) (fun h12 => by exfalso; omega)
          refine bg_aload_n C d_mo_edge_50 rfl rfl ?_
          refine bg_iload_n C d_mo_edge_51 rfl rfl ?_
          refine bg_iconst C d_mo_edge_52 ?_
          refine bg_idiv C d_mo_edge_53 (by omega) (by omega) (by omega) (by omega) ?_
          refine bg_cv C (m_mo_look hG hI10.1 (by omega)) (bg_invV C cf_mo rfl tw_827 ti_mo_look ts_mo_look tc_mo_look tw_42 ⟨by decide, by decide⟩ (nA := 1) (by decide +kernel) rfl d_mo_edge_54 rfl) rfl (by rw [hR]; exact ⟨by decide, by decide⟩) (by rw [hR]; exact ⟨by decide, by decide⟩) (Nat.le_of_ble_eq_true rfl) rfl (fun w13 p13 => ?_)
          obtain ⟨j13, r13_0⟩ := p13
          have hI13 := hI10.trans j13 (by decide)
          have g13_0 : w13 27 0 = w10 27 0 := j13.2 27 0 rfl
          have g13_1 : w13 27 4 = w10 27 4 := j13.2 27 4 rfl
          have g13_2 : w13 27 5 = w10 27 5 := j13.2 27 5 rfl
          have g13_3 : w13 27 6 = w10 27 6 := j13.2 27 6 rfl
          have g13_4 : w13 27 7 = w10 27 7 := j13.2 27 7 rfl
          have g13_6 : w13 27 19 = w10 27 19 := j13.2 27 19 rfl
          have g13_7 : w13 27 20 = w10 27 20 := j13.2 27 20 rfl
          have A13_28 : ∀ i, w13 28 i = w0 28 i := fun i => (j13.2 28 i rfl).trans (A10_28 i)
          have A13_29 : ∀ i, w13 29 i = w0 29 i := fun i => (j13.2 29 i rfl).trans (A10_29 i)
          have A13_30 : ∀ i, w13 30 i = w0 30 i := fun i => (j13.2 30 i rfl).trans (A10_30 i)
          have A13_34 : ∀ i, w13 34 i = w0 34 i := fun i => (j13.2 34 i rfl).trans (A10_34 i)
          refine bg_iload_n C d_mo_edge_57 rfl rfl ?_
          refine bg_if_ne (tgt := 74) C d_mo_edge_58 (by decide) ⟨by omega, by omega⟩ (fun h14 => ?_) (fun h14 => ?_)
          · refine bg_iload_n C d_mo_edge_74 rfl rfl ?_
            refine bg_iconst C d_mo_edge_75 ?_
            refine bg_icmp_ne (tgt := 92) C d_mo_edge_76 (by decide) ⟨by omega, by omega⟩ ⟨by omega, by omega⟩ (fun h15 => ?_) (fun h15 => ?_)
            · refine bg_aload_n C d_mo_edge_92 rfl rfl ?_
              refine bg_getr (i := 3) C cf_mo rfl (by decide) rfl tw_680 d_mo_edge_93 ?_
              refine bg_sipush C d_mo_edge_96 (by decide +kernel) ?_
              refine bg_iload_n C d_mo_edge_99 rfl rfl ?_
              refine bg_iadd C d_mo_edge_100 ?_
              refine bm_iald C hI13 rfl rfl (by omega) (by omega) d_mo_edge_101 (fun v16 e16 a16 b16 => ?_)
              exact bg_iret C d_mo_edge_102 (fun h => by cases h) (Or.inl rfl) (Nat.zero_le _) (Nat.zero_le _) ⟨_, rfl, hI13, bmB_of A13_28 A13_29 A13_30 A13_34 (by omega) (by omega) (by omega) (by omega) (by omega) (by omega) (by omega) hB⟩
            · refine bg_aload_n C d_mo_edge_79 rfl rfl ?_
              refine bg_getr (i := 2) C cf_mo rfl (by decide) rfl tw_679 d_mo_edge_80 ?_
              refine bg_sipush C d_mo_edge_83 (by decide +kernel) ?_
              refine bg_iload_n C d_mo_edge_86 rfl rfl ?_
              refine bg_iadd C d_mo_edge_87 ?_
              refine bm_iald C hI13 rfl rfl (by omega) (by omega) d_mo_edge_88 (fun v17 e17 a17 b17 => ?_)
              refine bg_goto (l := 102) C d_mo_edge_89 (by decide) ?_
              exact bg_iret C d_mo_edge_102 (fun h => by cases h) (Or.inl rfl) (Nat.zero_le _) (Nat.zero_le _) ⟨_, rfl, hI13, bmB_of A13_28 A13_29 A13_30 A13_34 (by omega) (by omega) (by omega) (by omega) (by omega) (by omega) (by omega) hB⟩
          · refine bg_aload_n C d_mo_edge_61 rfl rfl ?_
            refine bg_getr (i := 1) C cf_mo rfl (by decide) rfl tw_678 d_mo_edge_62 ?_
            refine bg_sipush C d_mo_edge_65 (by decide +kernel) ?_
            refine bg_iload_n C d_mo_edge_68 rfl rfl ?_
            refine bg_iadd C d_mo_edge_69 ?_
            refine bm_iald C hI13 rfl rfl (by omega) (by omega) d_mo_edge_70 (fun v18 e18 a18 b18 => ?_)
            refine bg_goto (l := 102) C d_mo_edge_71 (by decide) ?_
            exact bg_iret C d_mo_edge_102 (fun h => by cases h) (Or.inl rfl) (Nat.zero_le _) (Nat.zero_le _) ⟨_, rfl, hI13, bmB_of A13_28 A13_29 A13_30 A13_34 (by omega) (by omega) (by omega) (by omega) (by omega) (by omega) (by omega) hB⟩
        · refine bg_iconst C d_mo_edge_33 ?_
          refine bg_goto (l := 38) C d_mo_edge_34 (by decide) ?_
          refine bm_puti C cf_mo hI 0 0 rfl rfl (by decide) rfl rfl rfl (by omega) (by omega) rfl (Or.inl rfl) tw_677 d_mo_edge_38 (fun w19 hI19 e19 => ?_)
          have A19_28 : ∀ i, w19 28 i = w0 28 i := fun i => by rw [e19]; exact bgU_ne i (by decide)
          have A19_29 : ∀ i, w19 29 i = w0 29 i := fun i => by rw [e19]; exact bgU_ne i (by decide)
          have A19_30 : ∀ i, w19 30 i = w0 30 i := fun i => by rw [e19]; exact bgU_ne i (by decide)
          have A19_34 : ∀ i, w19 34 i = w0 34 i := fun i => by rw [e19]; exact bgU_ne i (by decide)
          have g19_0 : w19 27 0 = 3 := by rw [e19]; exact bgU_eq
          have g19_1 : w19 27 4 = w0 27 4 := by rw [e19]; exact bgU_nei (by decide)
          have g19_2 : w19 27 5 = w0 27 5 := by rw [e19]; exact bgU_nei (by decide)
          have g19_3 : w19 27 6 = w0 27 6 := by rw [e19]; exact bgU_nei (by decide)
          have g19_4 : w19 27 7 = w0 27 7 := by rw [e19]; exact bgU_nei (by decide)
          have g19_5 : w19 27 17 = w0 27 17 := by rw [e19]; exact bgU_nei (by decide)
          have g19_6 : w19 27 19 = w0 27 19 := by rw [e19]; exact bgU_nei (by decide)
          have g19_7 : w19 27 20 = w0 27 20 := by rw [e19]; exact bgU_nei (by decide)
          refine bg_aload_n C d_mo_edge_41 rfl rfl ?_
          refine bm_geti C cf_mo hI19 0 0 rfl rfl (by decide) rfl rfl tw_677 d_mo_edge_42 (fun v20 e20 a20 b20 => ?_)
          refine bg_if_le (tgt := 50) C d_mo_edge_45 (by decide) ⟨by omega, by omega⟩ (fun h21 => by exfalso; omega) (fun h21 => ?_)
          refine bg_iconst C d_mo_edge_48 ?_
          exact bg_iret C d_mo_edge_49 (fun h => by cases h) (Or.inl rfl) (Nat.zero_le _) (Nat.zero_le _) ⟨_, rfl, hI19, bmB_of A19_28 A19_29 A19_30 A19_34 (by omega) (by omega) (by omega) (by omega) (by omega) (by omega) (by omega) hB⟩
    · refine bg_iconst C d_mo_edge_20 ?_
      refine bg_goto (l := 38) C d_mo_edge_21 (by decide) ?_
      refine bm_puti C cf_mo hI 0 0 rfl rfl (by decide) rfl rfl rfl (by omega) (by omega) rfl (Or.inl rfl) tw_677 d_mo_edge_38 (fun w22 hI22 e22 => ?_)
      have A22_28 : ∀ i, w22 28 i = w0 28 i := fun i => by rw [e22]; exact bgU_ne i (by decide)
      have A22_29 : ∀ i, w22 29 i = w0 29 i := fun i => by rw [e22]; exact bgU_ne i (by decide)
      have A22_30 : ∀ i, w22 30 i = w0 30 i := fun i => by rw [e22]; exact bgU_ne i (by decide)
      have A22_34 : ∀ i, w22 34 i = w0 34 i := fun i => by rw [e22]; exact bgU_ne i (by decide)
      have g22_0 : w22 27 0 = 2 := by rw [e22]; exact bgU_eq
      have g22_1 : w22 27 4 = w0 27 4 := by rw [e22]; exact bgU_nei (by decide)
      have g22_2 : w22 27 5 = w0 27 5 := by rw [e22]; exact bgU_nei (by decide)
      have g22_3 : w22 27 6 = w0 27 6 := by rw [e22]; exact bgU_nei (by decide)
      have g22_4 : w22 27 7 = w0 27 7 := by rw [e22]; exact bgU_nei (by decide)
      have g22_5 : w22 27 17 = w0 27 17 := by rw [e22]; exact bgU_nei (by decide)
      have g22_6 : w22 27 19 = w0 27 19 := by rw [e22]; exact bgU_nei (by decide)
      have g22_7 : w22 27 20 = w0 27 20 := by rw [e22]; exact bgU_nei (by decide)
      refine bg_aload_n C d_mo_edge_41 rfl rfl ?_
      refine bm_geti C cf_mo hI22 0 0 rfl rfl (by decide) rfl rfl tw_677 d_mo_edge_42 (fun v23 e23 a23 b23 => ?_)
      refine bg_if_le (tgt := 50) C d_mo_edge_45 (by decide) ⟨by omega, by omega⟩ (fun h24 => by exfalso; omega) (fun h24 => ?_)
      refine bg_iconst C d_mo_edge_48 ?_
      exact bg_iret C d_mo_edge_49 (fun h => by cases h) (Or.inl rfl) (Nat.zero_le _) (Nat.zero_le _) ⟨_, rfl, hI22, bmB_of A22_28 A22_29 A22_30 A22_34 (by omega) (by omega) (by omega) (by omega) (by omega) (by omega) (by omega) hB⟩
  · refine bg_iconst C d_mo_edge_8 ?_
    refine bg_goto (l := 38) C d_mo_edge_9 (by decide) ?_
    refine bm_puti C cf_mo hI 0 0 rfl rfl (by decide) rfl rfl rfl (by omega) (by omega) rfl (Or.inl rfl) tw_677 d_mo_edge_38 (fun w25 hI25 e25 => ?_)
    have A25_28 : ∀ i, w25 28 i = w0 28 i := fun i => by rw [e25]; exact bgU_ne i (by decide)
    have A25_29 : ∀ i, w25 29 i = w0 29 i := fun i => by rw [e25]; exact bgU_ne i (by decide)
    have A25_30 : ∀ i, w25 30 i = w0 30 i := fun i => by rw [e25]; exact bgU_ne i (by decide)
    have A25_34 : ∀ i, w25 34 i = w0 34 i := fun i => by rw [e25]; exact bgU_ne i (by decide)
    have g25_0 : w25 27 0 = 1 := by rw [e25]; exact bgU_eq
    have g25_1 : w25 27 4 = w0 27 4 := by rw [e25]; exact bgU_nei (by decide)
    have g25_2 : w25 27 5 = w0 27 5 := by rw [e25]; exact bgU_nei (by decide)
    have g25_3 : w25 27 6 = w0 27 6 := by rw [e25]; exact bgU_nei (by decide)
    have g25_4 : w25 27 7 = w0 27 7 := by rw [e25]; exact bgU_nei (by decide)
    have g25_5 : w25 27 17 = w0 27 17 := by rw [e25]; exact bgU_nei (by decide)
    have g25_6 : w25 27 19 = w0 27 19 := by rw [e25]; exact bgU_nei (by decide)
    have g25_7 : w25 27 20 = w0 27 20 := by rw [e25]; exact bgU_nei (by decide)
    refine bg_aload_n C d_mo_edge_41 rfl rfl ?_
    refine bm_geti C cf_mo hI25 0 0 rfl rfl (by decide) rfl rfl tw_677 d_mo_edge_42 (fun v26 e26 a26 b26 => ?_)
    refine bg_if_le (tgt := 50) C d_mo_edge_45 (by decide) ⟨by omega, by omega⟩ (fun h27 => by exfalso; omega) (fun h27 => ?_)
    refine bg_iconst C d_mo_edge_48 ?_
    exact bg_iret C d_mo_edge_49 (fun h => by cases h) (Or.inl rfl) (Nat.zero_le _) (Nat.zero_le _) ⟨_, rfl, hI25, bmB_of A25_28 A25_29 A25_30 A25_34 (by omega) (by omega) (by omega) (by omega) (by omega) (by omega) (by omega) hB⟩
def S_mo_room : List (Nat × Option Int) := [(27, some 0), (27, some 17), (27, some 18)]
def rm_mo_room : Room := { frames := 0, cells := 0, slots := 0, locals := 0 }
set_option maxRecDepth 20000 in
set_option maxHeartbeats 4000000 in
theorem m_mo_room {G : bgGl} (hG : bgOk G) {w0 : bgW} (hw : moN w0) {x : Int} (z0 : -2147483648 ≤ x) (z1 : x ≤ 2147483647) (z2 : bmB w0) : bgM G false 0 0 y_mo_room (.code y_mo_room co_mo_room 2 none) rm_mo_room [br 27, bi x] w0 (bgPv (fun w' => moRel S_mo_room w0 w' ∧ (1 ≤ x → x ≤ 50 → w' 27 0 = 0) ∧ ((x < 1 ∨ 50 < x) → w' 27 0 = 1) ∧ bmB w')) := by
  refine bg_met hG (by decide +kernel) (bg_cat rfl) (Nat.le_of_ble_eq_true rfl) ?_
  intro K hK hR hex C
  subst hK
  have hI := moRel.rfl (S := S_mo_room) hw
  show bgX K true 0 0 _ w0 0 [some (br 27), some (bi x)] []
  have hB := z2
  have hB1 := hB.1
  have hs17 := hw 27 17 0 51 rfl
  have hs7 := hw 27 7 0 20 rfl
  have hs19 := hw 27 19 0 1 rfl
  have hs6 := hw 27 6 0 1 rfl
  have hs5 := hw 27 5 0 1 rfl
  refine bg_aload_n C d_mo_room_0 rfl rfl ?_
  refine bg_iload_n C d_mo_room_1 rfl rfl ?_
  refine bg_iconst C d_mo_room_2 ?_
  refine bg_icmp_lt (tgt := 12) C d_mo_room_3 (by decide) ⟨by omega, by omega⟩ ⟨by omega, by omega⟩ (fun h1 => ?_) (fun h1 => ?_)
  · refine bg_iconst C d_mo_room_12 ?_
    refine bg_goto (l := 17) C d_mo_room_13 (by decide) ?_
    refine bm_puti C cf_mo hI 0 0 rfl rfl (by decide) rfl rfl rfl (by omega) (by omega) rfl (Or.inl rfl) tw_677 d_mo_room_17 (fun w2 hI2 e2 => ?_)
    have A2_28 : ∀ i, w2 28 i = w0 28 i := fun i => by rw [e2]; exact bgU_ne i (by decide)
    have A2_29 : ∀ i, w2 29 i = w0 29 i := fun i => by rw [e2]; exact bgU_ne i (by decide)
    have A2_30 : ∀ i, w2 30 i = w0 30 i := fun i => by rw [e2]; exact bgU_ne i (by decide)
    have A2_34 : ∀ i, w2 34 i = w0 34 i := fun i => by rw [e2]; exact bgU_ne i (by decide)
    have g2_0 : w2 27 0 = 1 := by rw [e2]; exact bgU_eq
    have g2_1 : w2 27 4 = w0 27 4 := by rw [e2]; exact bgU_nei (by decide)
    have g2_2 : w2 27 5 = w0 27 5 := by rw [e2]; exact bgU_nei (by decide)
    have g2_3 : w2 27 6 = w0 27 6 := by rw [e2]; exact bgU_nei (by decide)
    have g2_4 : w2 27 7 = w0 27 7 := by rw [e2]; exact bgU_nei (by decide)
    have g2_5 : w2 27 17 = w0 27 17 := by rw [e2]; exact bgU_nei (by decide)
    have g2_6 : w2 27 19 = w0 27 19 := by rw [e2]; exact bgU_nei (by decide)
    have g2_7 : w2 27 20 = w0 27 20 := by rw [e2]; exact bgU_nei (by decide)
    refine bg_aload_n C d_mo_room_20 rfl rfl ?_
    refine bm_geti C cf_mo hI2 0 0 rfl rfl (by decide) rfl rfl tw_677 d_mo_room_21 (fun v3 e3 a3 b3 => ?_)
    refine bg_if_ne (tgt := 58) C d_mo_room_24 (by decide) ⟨by omega, by omega⟩ (fun h4 => ?_) (fun h4 => by exfalso; omega)
    exact bg_ret C d_mo_room_58 (fun h => by cases h) rfl (Nat.zero_le _) (Nat.zero_le _) ⟨rfl, hI2, by omega, by omega, bmB_of A2_28 A2_29 A2_30 A2_34 (by omega) (by omega) (by omega) (by omega) (by omega) (by omega) (by omega) hB⟩
  · refine bg_iload_n C d_mo_room_6 rfl rfl ?_
    refine bg_bipush C d_mo_room_7 (by decide +kernel) ?_
    refine bg_icmp_le (tgt := 16) C d_mo_room_9 (by decide) ⟨by omega, by omega⟩ ⟨by omega, by omega⟩ (fun h5 => ?_) (fun h5 => ?_)
    · refine bg_iconst C d_mo_room_16 ?_
      refine bm_puti C cf_mo hI 0 0 rfl rfl (by decide) rfl rfl rfl (by omega) (by omega) rfl (Or.inl rfl) tw_677 d_mo_room_17 (fun w6 hI6 e6 => ?_)
      have A6_28 : ∀ i, w6 28 i = w0 28 i := fun i => by rw [e6]; exact bgU_ne i (by decide)
      have A6_29 : ∀ i, w6 29 i = w0 29 i := fun i => by rw [e6]; exact bgU_ne i (by decide)
      have A6_30 : ∀ i, w6 30 i = w0 30 i := fun i => by rw [e6]; exact bgU_ne i (by decide)
      have A6_34 : ∀ i, w6 34 i = w0 34 i := fun i => by rw [e6]; exact bgU_ne i (by decide)
      have g6_0 : w6 27 0 = 0 := by rw [e6]; exact bgU_eq
      have g6_1 : w6 27 4 = w0 27 4 := by rw [e6]; exact bgU_nei (by decide)
      have g6_2 : w6 27 5 = w0 27 5 := by rw [e6]; exact bgU_nei (by decide)
      have g6_3 : w6 27 6 = w0 27 6 := by rw [e6]; exact bgU_nei (by decide)
      have g6_4 : w6 27 7 = w0 27 7 := by rw [e6]; exact bgU_nei (by decide)
      have g6_5 : w6 27 17 = w0 27 17 := by rw [e6]; exact bgU_nei (by decide)
      have g6_6 : w6 27 19 = w0 27 19 := by rw [e6]; exact bgU_nei (by decide)
      have g6_7 : w6 27 20 = w0 27 20 := by rw [e6]; exact bgU_nei (by decide)
      refine bg_aload_n C d_mo_room_20 rfl rfl ?_
      refine bm_geti C cf_mo hI6 0 0 rfl rfl (by decide) rfl rfl tw_677 d_mo_room_21 (fun v7 e7 a7 b7 => ?_)
      refine bg_if_ne (tgt := 58) C d_mo_room_24 (by decide) ⟨by omega, by omega⟩ (fun h8 => by exfalso; omega) (fun h8 => ?_)
      refine bg_aload_n C d_mo_room_27 rfl rfl ?_
      refine bg_iload_n C d_mo_room_28 rfl rfl ?_
      refine bm_puti C cf_mo hI6 18 18 rfl rfl (by decide) rfl rfl rfl (by omega) (by omega) rfl (Or.inl rfl) tw_695 d_mo_room_29 (fun w9 hI9 e9 => ?_)
      have A9_28 : ∀ i, w9 28 i = w0 28 i := fun i => by rw [e9]; exact (bgU_ne i (by decide)).trans (A6_28 i)
      have A9_29 : ∀ i, w9 29 i = w0 29 i := fun i => by rw [e9]; exact (bgU_ne i (by decide)).trans (A6_29 i)
      have A9_30 : ∀ i, w9 30 i = w0 30 i := fun i => by rw [e9]; exact (bgU_ne i (by decide)).trans (A6_30 i)
      have A9_34 : ∀ i, w9 34 i = w0 34 i := fun i => by rw [e9]; exact (bgU_ne i (by decide)).trans (A6_34 i)
      have g9_0 : w9 27 0 = w6 27 0 := by rw [e9]; exact bgU_nei (by decide)
      have g9_1 : w9 27 4 = w6 27 4 := by rw [e9]; exact bgU_nei (by decide)
      have g9_2 : w9 27 5 = w6 27 5 := by rw [e9]; exact bgU_nei (by decide)
      have g9_3 : w9 27 6 = w6 27 6 := by rw [e9]; exact bgU_nei (by decide)
      have g9_4 : w9 27 7 = w6 27 7 := by rw [e9]; exact bgU_nei (by decide)
      have g9_5 : w9 27 17 = w6 27 17 := by rw [e9]; exact bgU_nei (by decide)
      have g9_6 : w9 27 19 = w6 27 19 := by rw [e9]; exact bgU_nei (by decide)
      have g9_7 : w9 27 20 = w6 27 20 := by rw [e9]; exact bgU_nei (by decide)
      refine bg_aload_n C d_mo_room_32 rfl rfl ?_
      refine bg_aload_n C d_mo_room_33 rfl rfl ?_
      refine bm_geti C cf_mo hI9 17 17 rfl rfl (by decide) rfl rfl tw_694 d_mo_room_34 (fun v10 e10 a10 b10 => ?_)
      refine bg_aload_n C d_mo_room_37 rfl rfl ?_
      refine bm_geti C cf_mo hI9 18 18 rfl rfl (by decide) rfl rfl tw_695 d_mo_room_38 (fun v11 e11 a11 b11 => ?_)
      refine bg_icmp_le (tgt := 51) C d_mo_room_41 (by decide) ⟨by omega, by omega⟩ ⟨by omega, by omega⟩ (fun h12 => ?_) (fun h12 => ?_)
      · refine bg_aload_n C d_mo_room_51 rfl rfl ?_
        refine bm_geti C cf_mo hI9 17 17 rfl rfl (by decide) rfl rfl tw_694 d_mo_room_52 (fun v13 e13 a13 b13 => ?_)
        refine bm_puti C cf_mo hI9 17 17 rfl rfl (by decide) rfl rfl rfl (by omega) (by omega) rfl (Or.inl rfl) tw_694 d_mo_room_55 (fun w14 hI14 e14 => ?_)
        have A14_28 : ∀ i, w14 28 i = w0 28 i := fun i => by rw [e14]; exact (bgU_ne i (by decide)).trans (A9_28 i)
        have A14_29 : ∀ i, w14 29 i = w0 29 i := fun i => by rw [e14]; exact (bgU_ne i (by decide)).trans (A9_29 i)
        have A14_30 : ∀ i, w14 30 i = w0 30 i := fun i => by rw [e14]; exact (bgU_ne i (by decide)).trans (A9_30 i)
        have A14_34 : ∀ i, w14 34 i = w0 34 i := fun i => by rw [e14]; exact (bgU_ne i (by decide)).trans (A9_34 i)
        have g14_0 : w14 27 0 = w9 27 0 := by rw [e14]; exact bgU_nei (by decide)
        have g14_1 : w14 27 4 = w9 27 4 := by rw [e14]; exact bgU_nei (by decide)
        have g14_2 : w14 27 5 = w9 27 5 := by rw [e14]; exact bgU_nei (by decide)
        have g14_3 : w14 27 6 = w9 27 6 := by rw [e14]; exact bgU_nei (by decide)
        have g14_4 : w14 27 7 = w9 27 7 := by rw [e14]; exact bgU_nei (by decide)
        have g14_5 : w14 27 17 = v13 := by rw [e14]; exact bgU_eq
        have g14_6 : w14 27 19 = w9 27 19 := by rw [e14]; exact bgU_nei (by decide)
        have g14_7 : w14 27 20 = w9 27 20 := by rw [e14]; exact bgU_nei (by decide)
        exact bg_ret C d_mo_room_58 (fun h => by cases h) rfl (Nat.zero_le _) (Nat.zero_le _) ⟨rfl, hI14, by omega, by omega, bmB_of A14_28 A14_29 A14_30 A14_34 (by omega) (by omega) (by omega) (by omega) (by omega) (by omega) (by omega) hB⟩
      · refine bg_aload_n C d_mo_room_44 rfl rfl ?_
        refine bm_geti C cf_mo hI9 18 18 rfl rfl (by decide) rfl rfl tw_695 d_mo_room_45 (fun v15 e15 a15 b15 => ?_)
        refine bg_goto (l := 55) C d_mo_room_48 (by decide) ?_
        refine bm_puti C cf_mo hI9 17 17 rfl rfl (by decide) rfl rfl rfl (by omega) (by omega) rfl (Or.inl rfl) tw_694 d_mo_room_55 (fun w16 hI16 e16 => ?_)
        have A16_28 : ∀ i, w16 28 i = w0 28 i := fun i => by rw [e16]; exact (bgU_ne i (by decide)).trans (A9_28 i)
        have A16_29 : ∀ i, w16 29 i = w0 29 i := fun i => by rw [e16]; exact (bgU_ne i (by decide)).trans (A9_29 i)
        have A16_30 : ∀ i, w16 30 i = w0 30 i := fun i => by rw [e16]; exact (bgU_ne i (by decide)).trans (A9_30 i)
        have A16_34 : ∀ i, w16 34 i = w0 34 i := fun i => by rw [e16]; exact (bgU_ne i (by decide)).trans (A9_34 i)
        have g16_0 : w16 27 0 = w9 27 0 := by rw [e16]; exact bgU_nei (by decide)
        have g16_1 : w16 27 4 = w9 27 4 := by rw [e16]; exact bgU_nei (by decide)
        have g16_2 : w16 27 5 = w9 27 5 := by rw [e16]; exact bgU_nei (by decide)
        have g16_3 : w16 27 6 = w9 27 6 := by rw [e16]; exact bgU_nei (by decide)
        have g16_4 : w16 27 7 = w9 27 7 := by rw [e16]; exact bgU_nei (by decide)
        have g16_5 : w16 27 17 = v15 := by rw [e16]; exact bgU_eq
        have g16_6 : w16 27 19 = w9 27 19 := by rw [e16]; exact bgU_nei (by decide)
        have g16_7 : w16 27 20 = w9 27 20 := by rw [e16]; exact bgU_nei (by decide)
        exact bg_ret C d_mo_room_58 (fun h => by cases h) rfl (Nat.zero_le _) (Nat.zero_le _) ⟨rfl, hI16, by omega, by omega, bmB_of A16_28 A16_29 A16_30 A16_34 (by omega) (by omega) (by omega) (by omega) (by omega) (by omega) (by omega) hB⟩
    · refine bg_iconst C d_mo_room_12 ?_
      refine bg_goto (l := 17) C d_mo_room_13 (by decide) ?_
      refine bm_puti C cf_mo hI 0 0 rfl rfl (by decide) rfl rfl rfl (by omega) (by omega) rfl (Or.inl rfl) tw_677 d_mo_room_17 (fun w17 hI17 e17 => ?_)
      have A17_28 : ∀ i, w17 28 i = w0 28 i := fun i => by rw [e17]; exact bgU_ne i (by decide)
      have A17_29 : ∀ i, w17 29 i = w0 29 i := fun i => by rw [e17]; exact bgU_ne i (by decide)
      have A17_30 : ∀ i, w17 30 i = w0 30 i := fun i => by rw [e17]; exact bgU_ne i (by decide)
      have A17_34 : ∀ i, w17 34 i = w0 34 i := fun i => by rw [e17]; exact bgU_ne i (by decide)
      have g17_0 : w17 27 0 = 1 := by rw [e17]; exact bgU_eq
      have g17_1 : w17 27 4 = w0 27 4 := by rw [e17]; exact bgU_nei (by decide)
      have g17_2 : w17 27 5 = w0 27 5 := by rw [e17]; exact bgU_nei (by decide)
      have g17_3 : w17 27 6 = w0 27 6 := by rw [e17]; exact bgU_nei (by decide)
      have g17_4 : w17 27 7 = w0 27 7 := by rw [e17]; exact bgU_nei (by decide)
      have g17_5 : w17 27 17 = w0 27 17 := by rw [e17]; exact bgU_nei (by decide)
      have g17_6 : w17 27 19 = w0 27 19 := by rw [e17]; exact bgU_nei (by decide)
      have g17_7 : w17 27 20 = w0 27 20 := by rw [e17]; exact bgU_nei (by decide)
      refine bg_aload_n C d_mo_room_20 rfl rfl ?_
      refine bm_geti C cf_mo hI17 0 0 rfl rfl (by decide) rfl rfl tw_677 d_mo_room_21 (fun v18 e18 a18 b18 => ?_)
      refine bg_if_ne (tgt := 58) C d_mo_room_24 (by decide) ⟨by omega, by omega⟩ (fun h19 => ?_) (fun h19 => by exfalso; omega)
      exact bg_ret C d_mo_room_58 (fun h => by cases h) rfl (Nat.zero_le _) (Nat.zero_le _) ⟨rfl, hI17, by omega, by omega, bmB_of A17_28 A17_29 A17_30 A17_34 (by omega) (by omega) (by omega) (by omega) (by omega) (by omega) (by omega) hB⟩
def S_mo_distance : List (Nat × Option Int) := [(27, some 0)]
def rm_mo_distance : Room := { frames := 2, cells := 0, slots := 0, locals := 41 }
set_option maxRecDepth 20000 in
set_option maxHeartbeats 4000000 in
theorem m_mo_distance {G : bgGl} (hG : bgOk G) {w0 : bgW} (hw : moN w0) {x : Int} (z0 : -2147483648 ≤ x) (z1 : x ≤ 2147483647) (z2 : bmB w0) : bgM G false 0 0 y_mo_distance (.code y_mo_distance co_mo_distance 2 (some .int)) rm_mo_distance [br 27, bi x] w0 (bgPi (fun v w' => moRel S_mo_distance w0 w' ∧ bmB w')) := by
  refine bg_met hG (by decide +kernel) (bg_cat rfl) (Nat.le_of_ble_eq_true rfl) ?_
  intro K hK hR hex C
  subst hK
  have hI := moRel.rfl (S := S_mo_distance) hw
  show bgX K true 0 0 _ w0 0 [some (br 27), some (bi x)] []
  have hB := z2
  have hB1 := hB.1
  have hs17 := hw 27 17 0 51 rfl
  have hs7 := hw 27 7 0 20 rfl
  have hs19 := hw 27 19 0 1 rfl
  have hs6 := hw 27 6 0 1 rfl
  have hs5 := hw 27 5 0 1 rfl
  refine bg_aload_n C d_mo_distance_0 rfl rfl ?_
  refine bg_aload_n C d_mo_distance_1 rfl rfl ?_
  refine bg_iload_n C d_mo_distance_2 rfl rfl ?_
  refine bg_ci C (m_mo_faultOf hG hI.1 (by omega) (by omega)) (bg_invV C cf_mo rfl tw_843 ti_mo_faultOf ts_mo_faultOf tc_mo_faultOf tw_42 ⟨by decide, by decide⟩ (nA := 1) (by decide +kernel) rfl d_mo_distance_3 rfl) rfl (by rw [hR]; exact ⟨by decide, by decide⟩) (by rw [hR]; exact ⟨by decide, by decide⟩) (Nat.le_of_ble_eq_true rfl) rfl (fun v1 w1 p1 => ?_)
  obtain ⟨rfl, r1_0, r1_1, r1_2, r1_3, r1_4⟩ := p1
  refine bm_puti C cf_mo hI 0 0 rfl rfl (by decide) rfl rfl rfl (by omega) (by omega) rfl (Or.inl rfl) tw_677 d_mo_distance_6 (fun w2 hI2 e2 => ?_)
  have A2_28 : ∀ i, w2 28 i = w0 28 i := fun i => by rw [e2]; exact bgU_ne i (by decide)
  have A2_29 : ∀ i, w2 29 i = w0 29 i := fun i => by rw [e2]; exact bgU_ne i (by decide)
  have A2_30 : ∀ i, w2 30 i = w0 30 i := fun i => by rw [e2]; exact bgU_ne i (by decide)
  have A2_34 : ∀ i, w2 34 i = w0 34 i := fun i => by rw [e2]; exact bgU_ne i (by decide)
  have g2_0 : w2 27 0 = v1 := by rw [e2]; exact bgU_eq
  have g2_1 : w2 27 4 = w0 27 4 := by rw [e2]; exact bgU_nei (by decide)
  have g2_2 : w2 27 5 = w0 27 5 := by rw [e2]; exact bgU_nei (by decide)
  have g2_3 : w2 27 6 = w0 27 6 := by rw [e2]; exact bgU_nei (by decide)
  have g2_4 : w2 27 7 = w0 27 7 := by rw [e2]; exact bgU_nei (by decide)
  have g2_5 : w2 27 17 = w0 27 17 := by rw [e2]; exact bgU_nei (by decide)
  have g2_6 : w2 27 19 = w0 27 19 := by rw [e2]; exact bgU_nei (by decide)
  have g2_7 : w2 27 20 = w0 27 20 := by rw [e2]; exact bgU_nei (by decide)
  refine bg_aload_n C d_mo_distance_9 rfl rfl ?_
  refine bm_geti C cf_mo hI2 0 0 rfl rfl (by decide) rfl rfl tw_677 d_mo_distance_10 (fun v3 e3 a3 b3 => ?_)
  refine bg_if_le (tgt := 20) C d_mo_distance_13 (by decide) ⟨by omega, by omega⟩ (fun h4 => ?_) (fun h4 => ?_)
  · refine bg_aload_n C d_mo_distance_20 rfl rfl ?_
    refine bg_getr (i := 21) C cf_mo rfl (by decide) rfl tw_698 d_mo_distance_21 ?_
    refine bg_iload_n C d_mo_distance_24 rfl rfl ?_
    refine bm_iald C hI2 rfl rfl (by omega) (by omega) d_mo_distance_25 (fun v5 e5 a5 b5 => ?_)
    exact bg_iret C d_mo_distance_26 (fun h => by cases h) (Or.inl rfl) (Nat.zero_le _) (Nat.zero_le _) ⟨_, rfl, hI2, bmB_of A2_28 A2_29 A2_30 A2_34 (by omega) (by omega) (by omega) (by omega) (by omega) (by omega) (by omega) hB⟩
  · refine bg_iconst C d_mo_distance_16 ?_
    refine bg_goto (l := 26) C d_mo_distance_17 (by decide) ?_
    exact bg_iret C d_mo_distance_26 (fun h => by cases h) (Or.inl rfl) (Nat.zero_le _) (Nat.zero_le _) ⟨_, rfl, hI2, bmB_of A2_28 A2_29 A2_30 A2_34 (by omega) (by omega) (by omega) (by omega) (by omega) (by omega) (by omega) hB⟩
def S_mo_atHand : List (Nat × Option Int) := [(27, some 0)]
def rm_mo_atHand : Room := { frames := 0, cells := 0, slots := 0, locals := 0 }
set_option maxRecDepth 20000 in
set_option maxHeartbeats 4000000 in
theorem m_mo_atHand {G : bgGl} (hG : bgOk G) {w0 : bgW} (hw : moN w0) {x : Int} (z0 : -2147483648 ≤ x) (z1 : x ≤ 2147483647) (z2 : bmB w0) : bgM G false 0 0 y_mo_atHand (.code y_mo_atHand co_mo_atHand 2 (some .int)) rm_mo_atHand [br 27, bi x] w0 (bgPi (fun v w' => moRel S_mo_atHand w0 w' ∧ bmB w')) := by
  refine bg_met hG (by decide +kernel) (bg_cat rfl) (Nat.le_of_ble_eq_true rfl) ?_
  intro K hK hR hex C
  subst hK
  have hI := moRel.rfl (S := S_mo_atHand) hw
  show bgX K true 0 0 _ w0 0 [some (br 27), some (bi x)] []
  have hB := z2
  have hB1 := hB.1
  have hs17 := hw 27 17 0 51 rfl
  have hs7 := hw 27 7 0 20 rfl
  have hs19 := hw 27 19 0 1 rfl
  have hs6 := hw 27 6 0 1 rfl
  have hs5 := hw 27 5 0 1 rfl
  refine bg_aload_n C d_mo_atHand_0 rfl rfl ?_
  refine bg_iload_n C d_mo_atHand_1 rfl rfl ?_
  refine bg_if_lt (tgt := 13) C d_mo_atHand_2 (by decide) ⟨by omega, by omega⟩ (fun h1 => ?_) (fun h1 => ?_)
  · refine bg_iconst C d_mo_atHand_13 ?_
    refine bg_goto (l := 18) C d_mo_atHand_14 (by decide) ?_
    refine bm_puti C cf_mo hI 0 0 rfl rfl (by decide) rfl rfl rfl (by omega) (by omega) rfl (Or.inl rfl) tw_677 d_mo_atHand_18 (fun w2 hI2 e2 => ?_)
    have A2_28 : ∀ i, w2 28 i = w0 28 i := fun i => by rw [e2]; exact bgU_ne i (by decide)
    have A2_29 : ∀ i, w2 29 i = w0 29 i := fun i => by rw [e2]; exact bgU_ne i (by decide)
    have A2_30 : ∀ i, w2 30 i = w0 30 i := fun i => by rw [e2]; exact bgU_ne i (by decide)
    have A2_34 : ∀ i, w2 34 i = w0 34 i := fun i => by rw [e2]; exact bgU_ne i (by decide)
    have g2_0 : w2 27 0 = 1 := by rw [e2]; exact bgU_eq
    have g2_1 : w2 27 4 = w0 27 4 := by rw [e2]; exact bgU_nei (by decide)
    have g2_2 : w2 27 5 = w0 27 5 := by rw [e2]; exact bgU_nei (by decide)
    have g2_3 : w2 27 6 = w0 27 6 := by rw [e2]; exact bgU_nei (by decide)
    have g2_4 : w2 27 7 = w0 27 7 := by rw [e2]; exact bgU_nei (by decide)
    have g2_5 : w2 27 17 = w0 27 17 := by rw [e2]; exact bgU_nei (by decide)
    have g2_6 : w2 27 19 = w0 27 19 := by rw [e2]; exact bgU_nei (by decide)
    have g2_7 : w2 27 20 = w0 27 20 := by rw [e2]; exact bgU_nei (by decide)
    refine bg_aload_n C d_mo_atHand_21 rfl rfl ?_
    refine bm_geti C cf_mo hI2 0 0 rfl rfl (by decide) rfl rfl tw_677 d_mo_atHand_22 (fun v3 e3 a3 b3 => ?_)
    refine bg_if_le (tgt := 32) C d_mo_atHand_25 (by decide) ⟨by omega, by omega⟩ (fun h4 => by exfalso; omega) (fun h4 => ?_)
    refine bg_iconst C d_mo_atHand_28 ?_
    refine bg_goto (l := 38) C d_mo_atHand_29 (by decide) ?_
    exact bg_iret C d_mo_atHand_38 (fun h => by cases h) (Or.inl rfl) (Nat.zero_le _) (Nat.zero_le _) ⟨_, rfl, hI2, bmB_of A2_28 A2_29 A2_30 A2_34 (by omega) (by omega) (by omega) (by omega) (by omega) (by omega) (by omega) hB⟩
  · refine bg_iload_n C d_mo_atHand_5 rfl rfl ?_
    refine bg_aload_n C d_mo_atHand_6 rfl rfl ?_
    refine bm_geti C cf_mo hI 17 17 rfl rfl (by decide) rfl rfl tw_694 d_mo_atHand_7 (fun v5 e5 a5 b5 => ?_)
    refine bg_icmp_lt (tgt := 17) C d_mo_atHand_10 (by decide) ⟨by omega, by omega⟩ ⟨by omega, by omega⟩ (fun h6 => ?_) (fun h6 => ?_)
    · refine bg_iconst C d_mo_atHand_17 ?_
      refine bm_puti C cf_mo hI 0 0 rfl rfl (by decide) rfl rfl rfl (by omega) (by omega) rfl (Or.inl rfl) tw_677 d_mo_atHand_18 (fun w7 hI7 e7 => ?_)
      have A7_28 : ∀ i, w7 28 i = w0 28 i := fun i => by rw [e7]; exact bgU_ne i (by decide)
      have A7_29 : ∀ i, w7 29 i = w0 29 i := fun i => by rw [e7]; exact bgU_ne i (by decide)
      have A7_30 : ∀ i, w7 30 i = w0 30 i := fun i => by rw [e7]; exact bgU_ne i (by decide)
      have A7_34 : ∀ i, w7 34 i = w0 34 i := fun i => by rw [e7]; exact bgU_ne i (by decide)
      have g7_0 : w7 27 0 = 0 := by rw [e7]; exact bgU_eq
      have g7_1 : w7 27 4 = w0 27 4 := by rw [e7]; exact bgU_nei (by decide)
      have g7_2 : w7 27 5 = w0 27 5 := by rw [e7]; exact bgU_nei (by decide)
      have g7_3 : w7 27 6 = w0 27 6 := by rw [e7]; exact bgU_nei (by decide)
      have g7_4 : w7 27 7 = w0 27 7 := by rw [e7]; exact bgU_nei (by decide)
      have g7_5 : w7 27 17 = w0 27 17 := by rw [e7]; exact bgU_nei (by decide)
      have g7_6 : w7 27 19 = w0 27 19 := by rw [e7]; exact bgU_nei (by decide)
      have g7_7 : w7 27 20 = w0 27 20 := by rw [e7]; exact bgU_nei (by decide)
      refine bg_aload_n C d_mo_atHand_21 rfl rfl ?_
      refine bm_geti C cf_mo hI7 0 0 rfl rfl (by decide) rfl rfl tw_677 d_mo_atHand_22 (fun v8 e8 a8 b8 => ?_)
      refine bg_if_le (tgt := 32) C d_mo_atHand_25 (by decide) ⟨by omega, by omega⟩ (fun h9 => ?_) (fun h9 => by exfalso; omega)
      refine bg_aload_n C d_mo_atHand_32 rfl rfl ?_
      refine bg_getr (i := 16) C cf_mo rfl (by decide) rfl tw_693 d_mo_atHand_33 ?_
      refine bg_iload_n C d_mo_atHand_36 rfl rfl ?_
      refine bq_iald0 C rfl (by omega) (by omega) d_mo_atHand_37 (fun v10 e10 => ?_)
      exact bg_iret C d_mo_atHand_38 (fun h => by cases h) (Or.inl rfl) (Nat.zero_le _) (Nat.zero_le _) ⟨_, rfl, hI7, bmB_of A7_28 A7_29 A7_30 A7_34 (by omega) (by omega) (by omega) (by omega) (by omega) (by omega) (by omega) hB⟩
    · refine bg_iconst C d_mo_atHand_13 ?_
      refine bg_goto (l := 18) C d_mo_atHand_14 (by decide) ?_
      refine bm_puti C cf_mo hI 0 0 rfl rfl (by decide) rfl rfl rfl (by omega) (by omega) rfl (Or.inl rfl) tw_677 d_mo_atHand_18 (fun w11 hI11 e11 => ?_)
      have A11_28 : ∀ i, w11 28 i = w0 28 i := fun i => by rw [e11]; exact bgU_ne i (by decide)
      have A11_29 : ∀ i, w11 29 i = w0 29 i := fun i => by rw [e11]; exact bgU_ne i (by decide)
      have A11_30 : ∀ i, w11 30 i = w0 30 i := fun i => by rw [e11]; exact bgU_ne i (by decide)
      have A11_34 : ∀ i, w11 34 i = w0 34 i := fun i => by rw [e11]; exact bgU_ne i (by decide)
      have g11_0 : w11 27 0 = 1 := by rw [e11]; exact bgU_eq
      have g11_1 : w11 27 4 = w0 27 4 := by rw [e11]; exact bgU_nei (by decide)
      have g11_2 : w11 27 5 = w0 27 5 := by rw [e11]; exact bgU_nei (by decide)
      have g11_3 : w11 27 6 = w0 27 6 := by rw [e11]; exact bgU_nei (by decide)
      have g11_4 : w11 27 7 = w0 27 7 := by rw [e11]; exact bgU_nei (by decide)
      have g11_5 : w11 27 17 = w0 27 17 := by rw [e11]; exact bgU_nei (by decide)
      have g11_6 : w11 27 19 = w0 27 19 := by rw [e11]; exact bgU_nei (by decide)
      have g11_7 : w11 27 20 = w0 27 20 := by rw [e11]; exact bgU_nei (by decide)
      refine bg_aload_n C d_mo_atHand_21 rfl rfl ?_
      refine bm_geti C cf_mo hI11 0 0 rfl rfl (by decide) rfl rfl tw_677 d_mo_atHand_22 (fun v12 e12 a12 b12 => ?_)
      refine bg_if_le (tgt := 32) C d_mo_atHand_25 (by decide) ⟨by omega, by omega⟩ (fun h13 => by exfalso; omega) (fun h13 => ?_)
      refine bg_iconst C d_mo_atHand_28 ?_
      refine bg_goto (l := 38) C d_mo_atHand_29 (by decide) ?_
      exact bg_iret C d_mo_atHand_38 (fun h => by cases h) (Or.inl rfl) (Nat.zero_le _) (Nat.zero_le _) ⟨_, rfl, hI11, bmB_of A11_28 A11_29 A11_30 A11_34 (by omega) (by omega) (by omega) (by omega) (by omega) (by omega) (by omega) hB⟩
def S_mo_count : List (Nat × Option Int) := [(27, some 0)]
def rm_mo_count : Room := { frames := 1, cells := 0, slots := 0, locals := 22 }
set_option maxRecDepth 20000 in
set_option maxHeartbeats 4000000 in
theorem m_mo_count {G : bgGl} (hG : bgOk G) {w0 : bgW} (hw : moN w0) {x : Int} (z0 : -2147483648 ≤ x) (z1 : x ≤ 2147483647) (z2 : bmB w0) : bgM G false 0 0 y_mo_count (.code y_mo_count co_mo_count 2 (some .int)) rm_mo_count [br 27, bi x] w0 (bgPi (fun v w' => moRel S_mo_count w0 w' ∧ bmB w')) := by
  refine bg_met hG (by decide +kernel) (bg_cat rfl) (Nat.le_of_ble_eq_true rfl) ?_
  intro K hK hR hex C
  subst hK
  have hI := moRel.rfl (S := S_mo_count) hw
  show bgX K true 0 0 _ w0 0 [some (br 27), some (bi x)] []
  have hB := z2
  have hB1 := hB.1
  have hs17 := hw 27 17 0 51 rfl
  have hs7 := hw 27 7 0 20 rfl
  have hs19 := hw 27 19 0 1 rfl
  have hs6 := hw 27 6 0 1 rfl
  have hs5 := hw 27 5 0 1 rfl
  refine bg_aload_n C d_mo_count_0 rfl rfl ?_
  refine bg_iload_n C d_mo_count_1 rfl rfl ?_
  refine bg_if_lt (tgt := 11) C d_mo_count_2 (by decide) ⟨by omega, by omega⟩ (fun h1 => ?_) (fun h1 => ?_)
  · refine bg_iconst C d_mo_count_11 ?_
    refine bg_goto (l := 16) C d_mo_count_12 (by decide) ?_
    refine bm_puti C cf_mo hI 0 0 rfl rfl (by decide) rfl rfl rfl (by omega) (by omega) rfl (Or.inl rfl) tw_677 d_mo_count_16 (fun w2 hI2 e2 => ?_)
    have A2_28 : ∀ i, w2 28 i = w0 28 i := fun i => by rw [e2]; exact bgU_ne i (by decide)
    have A2_29 : ∀ i, w2 29 i = w0 29 i := fun i => by rw [e2]; exact bgU_ne i (by decide)
    have A2_30 : ∀ i, w2 30 i = w0 30 i := fun i => by rw [e2]; exact bgU_ne i (by decide)
    have A2_34 : ∀ i, w2 34 i = w0 34 i := fun i => by rw [e2]; exact bgU_ne i (by decide)
    have g2_0 : w2 27 0 = 1 := by rw [e2]; exact bgU_eq
    have g2_1 : w2 27 4 = w0 27 4 := by rw [e2]; exact bgU_nei (by decide)
    have g2_2 : w2 27 5 = w0 27 5 := by rw [e2]; exact bgU_nei (by decide)
    have g2_3 : w2 27 6 = w0 27 6 := by rw [e2]; exact bgU_nei (by decide)
    have g2_4 : w2 27 7 = w0 27 7 := by rw [e2]; exact bgU_nei (by decide)
    have g2_5 : w2 27 17 = w0 27 17 := by rw [e2]; exact bgU_nei (by decide)
    have g2_6 : w2 27 19 = w0 27 19 := by rw [e2]; exact bgU_nei (by decide)
    have g2_7 : w2 27 20 = w0 27 20 := by rw [e2]; exact bgU_nei (by decide)
    refine bg_aload_n C d_mo_count_19 rfl rfl ?_
    refine bm_geti C cf_mo hI2 0 0 rfl rfl (by decide) rfl rfl tw_677 d_mo_count_20 (fun v3 e3 a3 b3 => ?_)
    refine bg_if_le (tgt := 28) C d_mo_count_23 (by decide) ⟨by omega, by omega⟩ (fun h4 => by exfalso; omega) (fun h4 => ?_)
    refine bg_iconst C d_mo_count_26 ?_
    exact bg_iret C d_mo_count_27 (fun h => by cases h) (Or.inl rfl) (Nat.zero_le _) (Nat.zero_le _) ⟨_, rfl, hI2, bmB_of A2_28 A2_29 A2_30 A2_34 (by omega) (by omega) (by omega) (by omega) (by omega) (by omega) (by omega) hB⟩
  · refine bg_iload_n C d_mo_count_5 rfl rfl ?_
    refine bg_bipush C d_mo_count_6 (by decide +kernel) ?_
    refine bg_icmp_le (tgt := 15) C d_mo_count_8 (by decide) ⟨by omega, by omega⟩ ⟨by omega, by omega⟩ (fun h5 => ?_) (fun h5 => ?_)
    · refine bg_iconst C d_mo_count_15 ?_
      refine bm_puti C cf_mo hI 0 0 rfl rfl (by decide) rfl rfl rfl (by omega) (by omega) rfl (Or.inl rfl) tw_677 d_mo_count_16 (fun w6 hI6 e6 => ?_)
      have A6_28 : ∀ i, w6 28 i = w0 28 i := fun i => by rw [e6]; exact bgU_ne i (by decide)
      have A6_29 : ∀ i, w6 29 i = w0 29 i := fun i => by rw [e6]; exact bgU_ne i (by decide)
      have A6_30 : ∀ i, w6 30 i = w0 30 i := fun i => by rw [e6]; exact bgU_ne i (by decide)
      have A6_34 : ∀ i, w6 34 i = w0 34 i := fun i => by rw [e6]; exact bgU_ne i (by decide)
      have g6_0 : w6 27 0 = 0 := by rw [e6]; exact bgU_eq
      have g6_1 : w6 27 4 = w0 27 4 := by rw [e6]; exact bgU_nei (by decide)
      have g6_2 : w6 27 5 = w0 27 5 := by rw [e6]; exact bgU_nei (by decide)
      have g6_3 : w6 27 6 = w0 27 6 := by rw [e6]; exact bgU_nei (by decide)
      have g6_4 : w6 27 7 = w0 27 7 := by rw [e6]; exact bgU_nei (by decide)
      have g6_5 : w6 27 17 = w0 27 17 := by rw [e6]; exact bgU_nei (by decide)
      have g6_6 : w6 27 19 = w0 27 19 := by rw [e6]; exact bgU_nei (by decide)
      have g6_7 : w6 27 20 = w0 27 20 := by rw [e6]; exact bgU_nei (by decide)
      refine bg_aload_n C d_mo_count_19 rfl rfl ?_
      refine bm_geti C cf_mo hI6 0 0 rfl rfl (by decide) rfl rfl tw_677 d_mo_count_20 (fun v7 e7 a7 b7 => ?_)
      refine bg_if_le (tgt := 28) C d_mo_count_23 (by decide) ⟨by omega, by omega⟩ (fun h8 => ?_) (fun h8 => by exfalso; omega)
      refine bg_iload_n C d_mo_count_28 rfl rfl ?_
      refine bg_if_ne (tgt := 50) C d_mo_count_29 (by decide) ⟨by omega, by omega⟩ (fun h9 => ?_) (fun h9 => ?_)
      · refine bg_iload_n C d_mo_count_50 rfl rfl ?_
        refine bg_iconst C d_mo_count_51 ?_
        refine bg_icmp_ne (tgt := 62) C d_mo_count_52 (by decide) ⟨by omega, by omega⟩ ⟨by omega, by omega⟩ (fun h10 => ?_) (fun h10 => ?_)
        · refine bg_iload_n C d_mo_count_62 rfl rfl ?_
          refine bg_iconst C d_mo_count_63 ?_
          refine bg_icmp_ne (tgt := 74) C d_mo_count_64 (by decide) ⟨by omega, by omega⟩ ⟨by omega, by omega⟩ (fun h11 => ?_) (fun h11 => ?_)
          · refine bg_iload_n C d_mo_count_74 rfl rfl ?_
            refine bg_iconst C d_mo_count_75 ?_
            refine bg_icmp_ne (tgt := 97) C d_mo_count_76 (by decide) ⟨by omega, by omega⟩ ⟨by omega, by omega⟩ (fun h12 => ?_) (fun h12 => ?_)
            · refine bg_iload_n C d_mo_count_97 rfl rfl ?_
              refine bg_iconst C d_mo_count_98 ?_
              refine bg_icmp_ne (tgt := 109) C d_mo_count_99 (by decide) ⟨by omega, by omega⟩ ⟨by omega, by omega⟩ (fun h13 => ?_) (fun h13 => ?_)
              · refine bg_iload_n C d_mo_count_109 rfl rfl ?_
                refine bg_iconst C d_mo_count_110 ?_
                refine bg_icmp_ne (tgt := 121) C d_mo_count_111 (by decide) ⟨by omega, by omega⟩ ⟨by omega, by omega⟩ (fun h14 => ?_) (fun h14 => ?_)
                · refine bg_iload_n C d_mo_count_121 rfl rfl ?_
                  refine bg_bipush C d_mo_count_122 (by decide +kernel) ?_
                  refine bg_icmp_ne (tgt := 134) C d_mo_count_124 (by decide) ⟨by omega, by omega⟩ ⟨by omega, by omega⟩ (fun h15 => ?_) (fun h15 => ?_)
                  · refine bg_aload_n C d_mo_count_134 rfl rfl ?_
                    refine bg_ci C (m_mo_isDown hG hI6.1) (bg_invV C cf_mo rfl tw_776 ti_mo_isDown ts_mo_isDown tc_mo_isDown tw_42 ⟨by decide, by decide⟩ (nA := 0) (by decide +kernel) rfl d_mo_count_135 rfl) rfl (by rw [hR]; exact ⟨by decide, by decide⟩) (by rw [hR]; exact ⟨by decide, by decide⟩) (Nat.le_of_ble_eq_true rfl) rfl (fun v16 w16 p16 => ?_)
                    obtain ⟨rfl, r16_0, r16_1, r16_2, r16_3⟩ := p16
                    refine bg_if_eq (tgt := 145) C d_mo_count_138 (by decide) ⟨by omega, by omega⟩ (fun h17 => ?_) (fun h17 => ?_)
                    · refine bg_iconst C d_mo_count_145 ?_
                      exact bg_iret C d_mo_count_146 (fun h => by cases h) (Or.inl rfl) (Nat.zero_le _) (Nat.zero_le _) ⟨_, rfl, hI6, bmB_of A6_28 A6_29 A6_30 A6_34 (by omega) (by omega) (by omega) (by omega) (by omega) (by omega) (by omega) hB⟩
                    · refine bg_iconst C d_mo_count_141 ?_
                      refine bg_goto (l := 146) C d_mo_count_142 (by decide) ?_
                      exact bg_iret C d_mo_count_146 (fun h => by cases h) (Or.inl rfl) (Nat.zero_le _) (Nat.zero_le _) ⟨_, rfl, hI6, bmB_of A6_28 A6_29 A6_30 A6_34 (by omega) (by omega) (by omega) (by omega) (by omega) (by omega) (by omega) hB⟩
                  · refine bg_aload_n C d_mo_count_127 rfl rfl ?_
                    refine bq_get0 C cf_mo 11 11 rfl rfl (by decide) rfl tw_688 d_mo_count_128 (fun v18 e18 => ?_)
                    refine bg_goto (l := 146) C d_mo_count_131 (by decide) ?_
                    exact bg_iret C d_mo_count_146 (fun h => by cases h) (Or.inl rfl) (Nat.zero_le _) (Nat.zero_le _) ⟨_, rfl, hI6, bmB_of A6_28 A6_29 A6_30 A6_34 (by omega) (by omega) (by omega) (by omega) (by omega) (by omega) (by omega) hB⟩
                · refine bg_aload_n C d_mo_count_114 rfl rfl ?_
                  refine bq_get0 C cf_mo 13 13 rfl rfl (by decide) rfl tw_690 d_mo_count_115 (fun v19 e19 => ?_)
                  refine bg_goto (l := 146) C d_mo_count_118 (by decide) ?_
                  exact bg_iret C d_mo_count_146 (fun h => by cases h) (Or.inl rfl) (Nat.zero_le _) (Nat.zero_le _) ⟨_, rfl, hI6, bmB_of A6_28 A6_29 A6_30 A6_34 (by omega) (by omega) (by omega) (by omega) (by omega) (by omega) (by omega) hB⟩
              · refine bg_aload_n C d_mo_count_102 rfl rfl ?_
                refine bm_geti C cf_mo hI6 17 17 rfl rfl (by decide) rfl rfl tw_694 d_mo_count_103 (fun v20 e20 a20 b20 => ?_)
                refine bg_goto (l := 146) C d_mo_count_106 (by decide) ?_
                exact bg_iret C d_mo_count_146 (fun h => by cases h) (Or.inl rfl) (Nat.zero_le _) (Nat.zero_le _) ⟨_, rfl, hI6, bmB_of A6_28 A6_29 A6_30 A6_34 (by omega) (by omega) (by omega) (by omega) (by omega) (by omega) (by omega) hB⟩
            · refine bg_aload_n C d_mo_count_79 rfl rfl ?_
              refine bm_geti C cf_mo hI6 6 6 rfl rfl (by decide) rfl rfl tw_683 d_mo_count_80 (fun v21 e21 a21 b21 => ?_)
              refine bg_if_eq (tgt := 93) C d_mo_count_83 (by decide) ⟨by omega, by omega⟩ (fun h22 => ?_) (fun h22 => ?_)
              · refine bg_iconst C d_mo_count_93 ?_
                refine bg_goto (l := 146) C d_mo_count_94 (by decide) ?_
                exact bg_iret C d_mo_count_146 (fun h => by cases h) (Or.inl rfl) (Nat.zero_le _) (Nat.zero_le _) ⟨_, rfl, hI6, bmB_of A6_28 A6_29 A6_30 A6_34 (by omega) (by omega) (by omega) (by omega) (by omega) (by omega) (by omega) hB⟩
              · refine bg_aload_n C d_mo_count_86 rfl rfl ?_
                refine bm_geti C cf_mo hI6 7 7 rfl rfl (by decide) rfl rfl tw_684 d_mo_count_87 (fun v23 e23 a23 b23 => ?_)
                refine bg_goto (l := 146) C d_mo_count_90 (by decide) ?_
                exact bg_iret C d_mo_count_146 (fun h => by cases h) (Or.inl rfl) (Nat.zero_le _) (Nat.zero_le _) ⟨_, rfl, hI6, bmB_of A6_28 A6_29 A6_30 A6_34 (by omega) (by omega) (by omega) (by omega) (by omega) (by omega) (by omega) hB⟩
          · refine bg_aload_n C d_mo_count_67 rfl rfl ?_
            refine bq_get0 C cf_mo 15 15 rfl rfl (by decide) rfl tw_692 d_mo_count_68 (fun v24 e24 => ?_)
            refine bg_goto (l := 146) C d_mo_count_71 (by decide) ?_
            exact bg_iret C d_mo_count_146 (fun h => by cases h) (Or.inl rfl) (Nat.zero_le _) (Nat.zero_le _) ⟨_, rfl, hI6, bmB_of A6_28 A6_29 A6_30 A6_34 (by omega) (by omega) (by omega) (by omega) (by omega) (by omega) (by omega) hB⟩
        · refine bg_aload_n C d_mo_count_55 rfl rfl ?_
          refine bq_get0 C cf_mo 14 14 rfl rfl (by decide) rfl tw_691 d_mo_count_56 (fun v25 e25 => ?_)
          refine bg_goto (l := 146) C d_mo_count_59 (by decide) ?_
          exact bg_iret C d_mo_count_146 (fun h => by cases h) (Or.inl rfl) (Nat.zero_le _) (Nat.zero_le _) ⟨_, rfl, hI6, bmB_of A6_28 A6_29 A6_30 A6_34 (by omega) (by omega) (by omega) (by omega) (by omega) (by omega) (by omega) hB⟩
      · refine bg_aload_n C d_mo_count_32 rfl rfl ?_
        refine bg_ci C (m_mo_isDown hG hI6.1) (bg_invV C cf_mo rfl tw_776 ti_mo_isDown ts_mo_isDown tc_mo_isDown tw_42 ⟨by decide, by decide⟩ (nA := 0) (by decide +kernel) rfl d_mo_count_33 rfl) rfl (by rw [hR]; exact ⟨by decide, by decide⟩) (by rw [hR]; exact ⟨by decide, by decide⟩) (Nat.le_of_ble_eq_true rfl) rfl (fun v26 w26 p26 => ?_)
        obtain ⟨rfl, r26_0, r26_1, r26_2, r26_3⟩ := p26
        refine bg_if_eq (tgt := 43) C d_mo_count_36 (by decide) ⟨by omega, by omega⟩ (fun h27 => ?_) (fun h27 => ?_)
        · refine bg_aload_n C d_mo_count_43 rfl rfl ?_
          refine bg_ci C (m_mo_visible hG hI6.1) (bg_invV C cf_mo rfl tw_787 ti_mo_visible ts_mo_visible tc_mo_visible tw_42 ⟨by decide, by decide⟩ (nA := 0) (by decide +kernel) rfl d_mo_count_44 rfl) rfl (by rw [hR]; exact ⟨by decide, by decide⟩) (by rw [hR]; exact ⟨by decide, by decide⟩) (Nat.le_of_ble_eq_true rfl) rfl (fun v28 w28 p28 => ?_)
          obtain ⟨rfl, r28_0, r28_1, r28_2⟩ := p28
          refine bg_goto (l := 146) C d_mo_count_47 (by decide) ?_
          exact bg_iret C d_mo_count_146 (fun h => by cases h) (Or.inl rfl) (Nat.zero_le _) (Nat.zero_le _) ⟨_, rfl, hI6, bmB_of A6_28 A6_29 A6_30 A6_34 (by omega) (by omega) (by omega) (by omega) (by omega) (by omega) (by omega) hB⟩
        · refine bg_iconst C d_mo_count_39 ?_
          refine bg_goto (l := 146) C d_mo_count_40 (by decide) ?_
          exact bg_iret C d_mo_count_146 (fun h => by cases h) (Or.inl rfl) (Nat.zero_le _) (Nat.zero_le _) ⟨_, rfl, hI6, bmB_of A6_28 A6_29 A6_30 A6_34 (by omega) (by omega) (by omega) (by omega) (by omega) (by omega) (by omega) hB⟩
    · refine bg_iconst C d_mo_count_11 ?_
      refine bg_goto (l := 16) C d_mo_count_12 (by decide) ?_
      refine bm_puti C cf_mo hI 0 0 rfl rfl (by decide) rfl rfl rfl (by omega) (by omega) rfl (Or.inl rfl) tw_677 d_mo_count_16 (fun w29 hI29 e29 => ?_)
      have A29_28 : ∀ i, w29 28 i = w0 28 i := fun i => by rw [e29]; exact bgU_ne i (by decide)
      have A29_29 : ∀ i, w29 29 i = w0 29 i := fun i => by rw [e29]; exact bgU_ne i (by decide)
      have A29_30 : ∀ i, w29 30 i = w0 30 i := fun i => by rw [e29]; exact bgU_ne i (by decide)
      have A29_34 : ∀ i, w29 34 i = w0 34 i := fun i => by rw [e29]; exact bgU_ne i (by decide)
      have g29_0 : w29 27 0 = 1 := by rw [e29]; exact bgU_eq
      have g29_1 : w29 27 4 = w0 27 4 := by rw [e29]; exact bgU_nei (by decide)
      have g29_2 : w29 27 5 = w0 27 5 := by rw [e29]; exact bgU_nei (by decide)
      have g29_3 : w29 27 6 = w0 27 6 := by rw [e29]; exact bgU_nei (by decide)
      have g29_4 : w29 27 7 = w0 27 7 := by rw [e29]; exact bgU_nei (by decide)
      have g29_5 : w29 27 17 = w0 27 17 := by rw [e29]; exact bgU_nei (by decide)
      have g29_6 : w29 27 19 = w0 27 19 := by rw [e29]; exact bgU_nei (by decide)
      have g29_7 : w29 27 20 = w0 27 20 := by rw [e29]; exact bgU_nei (by decide)
      refine bg_aload_n C d_mo_count_19 rfl rfl ?_
      refine bm_geti C cf_mo hI29 0 0 rfl rfl (by decide) rfl rfl tw_677 d_mo_count_20 (fun v30 e30 a30 b30 => ?_)
      refine bg_if_le (tgt := 28) C d_mo_count_23 (by decide) ⟨by omega, by omega⟩ (fun h31 => by exfalso; omega) (fun h31 => ?_)
      refine bg_iconst C d_mo_count_26 ?_
      exact bg_iret C d_mo_count_27 (fun h => by cases h) (Or.inl rfl) (Nat.zero_le _) (Nat.zero_le _) ⟨_, rfl, hI29, bmB_of A29_28 A29_29 A29_30 A29_34 (by omega) (by omega) (by omega) (by omega) (by omega) (by omega) (by omega) hB⟩
end
