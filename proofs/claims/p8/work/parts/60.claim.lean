def R_law : String := "BlockGraphLaw"
def lw_P (b : Addr) (xs : List Int32) (args : Array Value) (s : State) : Prop := args = #[.ref b] ∧ s.IntsAt b xs ∧ xs.length ≤ 2048 ∧ (Jvm.Cond.and given_1 narrow_1).before args s = true
def lw_Q (_ : Array Value) (s : State) (o : Outcome) (t : State) : Prop := o = .returned (some (.int 1)) ∧ Framed s o t [] 1076 11430
def lw_Z (below : List Frame) (a : Array Value) (s : State) : State → Prop := fun t => ∃ o, t.status = .running ∧ Ended t below o ∧ lw_Q a s o t
/-- the law's own end, with 1 on the stack, nothing written that was there before, its room as the claim has it -/
theorem lw_ret {p : Program} {l : Launch} {e : Env} {s : State} {m : MethodId} {below : List Frame} {meth : Method} {c : Code} {b : Nat} (hx : p.tables.exec = Jvm.exec) (hb : c.code = code) (hr : meth.sig.returnType = ret) (hlocks : meth.locks = false) {pc : Nat} {H : Heap} {ls : Array Slot} (hdg : decode code pc = .ok (.ireturn, 1)) : W p l e room_1 s m #[Value.ref b] below meth c H [] 1076 11430 (lw_Z below #[Value.ref b] s) (F0 m pc ls [.int 1]) := by
  intro T hT X
  obtain ⟨fs, hret, hrun, hended, hW, hframe⟩ := X.leave (v := some (.int 1)) (hlocks := hlocks) (fun h => by rw [hr] at h; cases h)
  have hmeth' : T.vm.method? m = some meth := X.method'
  refine ⟨T.setFrames fs, ?_, .returned (some (.int 1)), hrun, hended, rfl, ⟨_, rfl⟩, hW, hframe⟩
  jvm_step X.here [X.here.top, hx, hb, hdg, hmeth', hr, ret, narrow_b1]
  (try refine ⟨rfl, ?_⟩); (try refine ⟨rfl, ?_⟩)
  first | (intro acts; rw [hret _ acts rfl rfl rfl]) | rw [hret _ _ rfl rfl rfl]
  exact Steps.refl _
/-- what holds at the law's entry: the machine, the code, the tables' words (any of lw_tbl by 'hts w (by decide +kernel)'), the script of L ints xs at the cell b, what the Statement gives of the start (any of its parts by flat_of_before) -/
def lw_At (p : Program) (s : State) (m : MethodId) (meth : Method) (c : Code) (b L : Nat) (xs : Nat → Int32) : Prop :=
  p.tables.exec = Jvm.exec ∧ c.code = code ∧ meth.sig.returnType = ret ∧ c.maxLocals = 7 ∧ s.vm.findClass R_law = some m.cls ∧ (∀ w ∈ lw_tbl, w.before #[Value.ref b] s = true) ∧ va_X b L xs s s.heap ∧ b < s.heap.size ∧ meth.locks = false ∧ (Jvm.Cond.and given_1 narrow_1).before #[Value.ref b] s = true
set_option maxRecDepth 20000 in
set_option maxHeartbeats 4000000 in
theorem whole_start {p : Program} {e : Env} {s : State} {m : MethodId} {below : List Frame} {meth : Method} {c : Code} (l : Launch) (hfl : l.flags = flags0) {b L : Nat} {xs : Nat → Int32} (hL : L ≤ 2048) (C0 : lw_At p s m meth c b L xs) : W p l e room_1 s m #[Value.ref b] below meth c s.heap [] 0 0 (lw_Z below #[Value.ref b] s) (entryFrame m ([Value.ref b] : List Value).toArray 7) := by
  obtain ⟨hx, hb, hr, hml, hown, hts, hX, hbl, hlk, hgv⟩ := C0
  have hl : l.stackTraces = false := by
    unfold Launch.stackTraces
    rw [hfl]
    decide
  obtain ⟨cA, D, hok⟩ := lw_start hl hts hgv
  have hAd : cAd (l, lwAd s b, cA, D, s) := fun k hk => if_neg (by have h1 : bgNO = 37 := rfl; omega)
  have C : bgCx ((l, lwAd s b, cA, D, s), p, e, room_1, s, m, #[Value.ref b], below, meth, c) "BlockGraphLaw" code 7 ret := ⟨hx, hb, hml, hown, hr, hlk, hok, ⟨State.WarmedH.refl s, Nat.le_refl _, fun _ _ => rfl⟩, fun w hw => hts w (List.mem_filter.mp hw).1⟩
  have hk : cK ((l, lwAd s b, cA, D, s), p, e, room_1, s, m, #[Value.ref b], below, meth, c) 0 := ⟨hAd, rfl⟩
  generalize hKe : (((l, lwAd s b, cA, D, s), p, e, room_1, s, m, #[Value.ref b], below, meth, c) : bgK) = K at C hk
  have hR : kR K = room_1 := by rw [← hKe]
  have hX2 : va_X b L xs (kS K) (kS K).heap := by rw [← hKe]; exact hX
  have hb2 : b < (kS K).heap.size := by rw [← hKe]; exact hbl
  have hA2 : ¬ bgA K.1 b := by rw [← hKe]; exact Nat.not_le.mpr hbl
  have he2 : kAd K 99 = b := by rw [← hKe]; rfl
  have hQ : ∀ (n z : Nat) (w : bgW) (i : Int), n ≤ 1076 → z ≤ 11430 → bgX K false n z (lw_Z below #[Value.ref b] s) w 551 [some (br 99), some (br 0), some (br 27), some (br 36), some (bi i), none, none] [] := by
    intro n z w i hn hz
    refine bg_iconst C d_lw_law_551 ?_
    rw [← hKe]
    intro H locs ls hlb hP hS hlo
    refine va_forget (fun q hq => hS.2.2 q hq) ?_
    refine W.widen hn hz ?_
    exact lw_ret hx hb hr hlk d_lw_law_552.1
  have main : cX K 0 0 (lw_Z below #[Value.ref b] s) [] 0 [some (br 99), none, none, none, none, none, none] [] := by
    refine c_new (n := 0) (k := 0) (fs := [cu, cu, cu, cu, cu, cu, cz, cz, cz]) C cf_bg hk rfl (by decide) rfl tw_54 tw_55 tw_35 (fun j hj => by rcases (show j = 0 ∨ j = 1 ∨ j = 2 ∨ j = 3 ∨ j = 4 ∨ j = 5 ∨ j = 6 ∨ j = 7 ∨ j = 8 by omega) with rfl | rfl | rfl | rfl | rfl | rfl | rfl | rfl | rfl <;> rfl) (by rw [hR]; decide) (by rw [hR]; decide) d_lw_law_0 ?_
    show cX K 1 9 _ (xl_0 K.1) 3 [some (br 99), none, none, none, none, none, none] [br 0]
    refine c_dup C d_lw_law_3 rfl ?_
    refine c_call (n := 1) C hk rfl (Nat.le_of_ble_eq_true rfl) (k_bg_init_0 C.ok hk.1) (c_invI C rfl tw_56 ti_bg_init tc_bg_init tw_35 ⟨by decide, by decide⟩ (nA := 0) (by decide +kernel) rfl d_lw_law_4 rfl) rfl (by rw [hR]; exact ⟨by decide, by decide⟩) (by rw [hR]; exact ⟨by decide, by decide⟩) (Nat.le_of_ble_eq_true rfl) rfl ?_
    show cX K 27 1645 _ (xl_69 K.1) 7 [some (br 99), none, none, none, none, none, none] [br 0]
    refine c_astore_n C d_lw_law_7 rfl (Nat.le_of_ble_eq_true rfl) ?_
    refine c_new (n := 27) (k := 27) (fs := [cz, cu, cu, cu, cz, cz, cz, cz, cu, cu, cz, cz, cz, cz, cz, cz, cu, cz, cz, cz, cz, cu, cu]) C cf_mo hk rfl (Nat.le_of_ble_eq_true rfl) rfl tw_667 tw_668 tw_42 (fun j hj => by rcases (show j = 0 ∨ j = 1 ∨ j = 2 ∨ j = 3 ∨ j = 4 ∨ j = 5 ∨ j = 6 ∨ j = 7 ∨ j = 8 ∨ j = 9 ∨ j = 10 ∨ j = 11 ∨ j = 12 ∨ j = 13 ∨ j = 14 ∨ j = 15 ∨ j = 16 ∨ j = 17 ∨ j = 18 ∨ j = 19 ∨ j = 20 ∨ j = 21 ∨ j = 22 by omega) with rfl | rfl | rfl | rfl | rfl | rfl | rfl | rfl | rfl | rfl | rfl | rfl | rfl | rfl | rfl | rfl | rfl | rfl | rfl | rfl | rfl | rfl | rfl <;> rfl) (by rw [hR]; decide) (by rw [hR]; decide) d_lw_law_8 ?_
    show cX K 28 1668 _ (xl_70 K.1) 11 [some (br 99), some (br 0), none, none, none, none, none] [br 27]
    refine c_dup C d_lw_law_11 rfl ?_
    refine c_call (n := 28) C hk rfl (Nat.le_of_ble_eq_true rfl) (k_mo_init_27 C.ok hk.1) (c_invI C rfl tw_669 ti_mo_init tc_mo_init tw_42 ⟨by decide, by decide⟩ (nA := 0) (by decide +kernel) rfl d_lw_law_12 rfl) rfl (by rw [hR]; exact ⟨by decide, by decide⟩) (by rw [hR]; exact ⟨by decide, by decide⟩) (Nat.le_of_ble_eq_true rfl) rfl ?_
    show cX K 36 3147 _ (xl_92 K.1) 15 [some (br 99), some (br 0), none, none, none, none, none] [br 27]
    refine c_astore_n C d_lw_law_15 rfl (Nat.le_of_ble_eq_true rfl) ?_
    refine c_iconst C d_lw_law_16 ?_
    refine c_newa (n := 36) (atype := .long) (ty := .long) (k := 36) (N' := 1) (a0 := (1, .inr (.inl (fun _ => 0)))) C 2 rfl rfl (fun _ _ h => h) hk rfl (Nat.le_of_ble_eq_true rfl) rfl tw_867 (fun cA => c_d2 cA _) (by decide +kernel) (by decide +kernel) (by decide +kernel) (by rw [hR]; decide) (by rw [hR]; decide) d_lw_law_17 ?_
    show cX K 37 3148 _ (xl_93 K.1) 19 [some (br 99), some (br 0), some (br 27), none, none, none, none] [br 36]
    refine c_astore_n C d_lw_law_19 rfl (Nat.le_of_ble_eq_true rfl) ?_
    intro H locs ls hP hS hlo
    have k1 : bgX K false 37 3148 (lw_Z below #[Value.ref b] s) wI 20 [some (br 99), some (br 0), some (br 27), some (br 36), none, none, none] [] := by
      refine bg_iconst C d_lw_law_20 ?_
      refine bg_istore C d_lw_law_21 (Nat.le_of_ble_eq_true rfl) ?_
      exact lw_loop C hR hX2 hb2 hA2 he2 hL hQ 512 0 37 3148 wI rfl (Nat.le_refl _) (Nat.le_refl _) lwOk_wI
    exact k1 H locs ls (fun h => by cases h) (xw_P hP) hS hlo
  have hlo := bgLoc.entry (ad := lwAd s b) [br 99] 7 (bg_cat rfl) (by decide)
  rw [← hKe] at main
  rw [lg_entry_eq]
  exact main s.heap [] _ (fun k q h => by cases h) va_S.rf hlo
set_option maxHeartbeats 4000000 in
theorem lw_walk (l : Launch) (hfl : l.flags = flags0) (b : Addr) (xs : List Int32) : MetFree l x (headSpec (Jvm.Cond.code x code maxLocals ret :: tables_1) room_1) (lw_P b xs) (fun _ _ _ _ _ => True) lw_Q := by
  refine MetFree.of_bodyS (code := code) (maxLocals := maxLocals) (ret := ret) (by decide) ?_ ?_
  · intro args s m h hn
    obtain ⟨meth, c, h1, h2, h3, h4, h5, h6, -, -⟩ := Cond.code_spec hn (atoms_spec (ws := Jvm.Cond.code x code maxLocals ret :: tables_1) h _ List.mem_cons_self)
    exact ⟨meth, c, h1, h2, h3, h4, h5, h6⟩
  · intro p e s m args below meth c s₁ B hml0 hP _
    obtain ⟨rfl, hx, hbd, hgv⟩ := hP
    obtain ⟨scr, harrAt, hlist, hof, hsmall⟩ := hx
    obtain ⟨hcb, hkn, -, -⟩ := State.arrayAt?_spec harrAt
    have hown : s.vm.findClass R_law = some m.cls := findClass_of_methodNamed B.named
    have hts0 : ∀ c ∈ (Jvm.Cond.code x code maxLocals ret :: tables_1), c.before #[Value.ref b] s = true := atoms_spec (ws := Jvm.Cond.code x code maxLocals ret :: tables_1) B.pre
    have hts : ∀ w ∈ lw_tbl, w.before #[Value.ref b] s = true := k2_hts_sels lw_privs (fun w hw => hts0 w (List.mem_cons_of_mem _ hw)) lw_privs_ok
    have hml : c.maxLocals = 7 := B.maxLocals_eq (hts0 _ List.mem_cons_self)
    have X₀ : Stand p l e room_1 s m #[Value.ref b] below meth c s₁ [] 0 0 := Stand.of_body B
    have hh0 : s₁.heap = s.heap := by rw [B.state]; rfl
    have hsz : scr.slots.size = xs.length := by rw [← Array.length_toList, hlist, List.length_map]
    have hval : ∀ j : Nat, j < xs.length → scr.slots[j]? = some (.int (xs.getD j 0)) := fun j hj => by
      rw [← Array.getElem?_toList, hlist]
      simp [hj]
    have hbl : b < s.heap.size := (Array.getElem?_eq_some_iff.mp hcb).1
    have hX : va_X b xs.length (fun j => xs.getD j 0) s s.heap := ⟨scr, hcb, hof, hkn, hsz, hval⟩
    have K : W p l e room_1 s m #[Value.ref b] below meth c s₁.heap [] 0 0 (lw_Z below #[Value.ref b] s) (entryFrame m ([Value.ref b] : List Value).toArray 7) := by
      rw [hh0]
      exact whole_start l hfl hbd ⟨B.exec, B.bytes, B.returns, hml, hown, hts, hX, hbl, B.notSynchronized, hgv⟩
    obtain ⟨t, a1, o, b1, b2, b3⟩ := K s₁ rfl X₀
    exact ⟨t, o, a1, b1, b2, b3⟩
theorem lw_pre_spec {args : Array Value} {s : State} (h : (Jvm.Cond.and given_1 narrow_1).before args s = true) (hr : rest_1_c.before args s = true) : ∃ (b : Addr) (xs : List Int32), lw_P b xs args s := by
  have hs := flat_of_before _ h
  have hq := flat_of_before _ hr
  have hc : (Cond.count 1).before args s = true := hs _ (by decide +kernel)
  have harr : (Cond.arrayOf (.arg 0) .int).before args s = true := hs _ (by decide +kernel)
  have hle : (Cond.le (.length (.arg 0)) (.int 2048)).before args s = true := hs _ (by decide +kernel)
  have hlen : (Cond.isInt (.length (.arg 0))).before args s = true := hq _ (by decide +kernel)
  have hall : (Cond.all (.arg 0) (.isInt (.elem (.arg 0) (.index 0)))).before args s = true := hq _ (by decide +kernel)
  obtain ⟨b, xs, hb, hx⟩ := State.ints_of_pre rfl harr hlen hall
  have hsm : xs.length < 2 ^ 31 := hx.choose_spec.2.2.2
  have hev : (Term.length (.arg 0)).eval args s none [] s = some (.int xs.length.toInt32) := hx.length_eval hb
  have hv := Cond.le_ints hev (show (Term.int 2048).eval args s none [] s = some (.int 2048) from rfl)
  have hd : xs.length.toInt32 ≤ 2048 := by
    simpa [Cond.before, Cond.holds, hv] using hle
  have hN : xs.length ≤ 2048 := (Int32.ofNat_le_ofNat hsm (by decide)).mp (show Int32.ofNat xs.length ≤ Int32.ofNat 2048 from hd)
  exact ⟨b, xs, Cond.one_arg hc (show args[0]? = some (.ref b) from hb), hx, hN, h⟩
theorem lw_comes (l : Launch) (hfl : l.flags = flags0) : Comes l x (Jvm.Cond.code x code maxLocals ret :: tables_1) room_1 (fun tb e args s => Calls_1 tb e args s ∧ rest_1 tb e args s ∧ Pre_1 tb e args s)
    (fun _ _ args s o t => lw_Q args s o t) := by
  intro p e ha hc hk s m args below hf hfit hheap happ hpre
  obtain ⟨b, xs, hP⟩ := lw_pre_spec hpre.2.2 hpre.2.1
  obtain ⟨k, o, h1, h2, h3, hQ⟩ := lw_walk l hfl b xs p e ha hc hk s m args below hf ((Spec.applies_iff_loose hf).mp happ).1 hP trivial
  exact ⟨k, o, h1, h2, h3, hQ⟩
theorem lw_frame {s t : State} {o : Outcome} {args : Array Value} (h : Framed s o t [] 1076 11430) :
    Framed s o t (fieldLocs frame_1_writes args s ++ arrayLocs frame_1_arrays args s ++ staticLocs frame_1_statics s) 1076 11430 := h
theorem lw_limb (L : Cond) (hL : ∀ (args : Array Value) (s t : State), L.after args s (.returned (some (.int 1))) t = true) :
    ArmFor flags0 classFile x code maxLocals ret World_1 tables_1 room_1 Calls_1 rest_1 Pre_1
      (fun tb e a s o t => postC L tb e a s o t ∧ Framed s o t (fieldLocs frame_1_writes a s ++ arrayLocs frame_1_arrays a s ++ staticLocs frame_1_statics s) 1076 11430) := by
  intro l hfl _ _ p e ha hc hk s m args below hf hfit hheap happ hpre
  obtain ⟨k, o, h1, h2, h3, rfl, hF⟩ := lw_comes l hfl p e ha hc hk s m args below hf hfit hheap happ hpre
  exact ⟨k, _, h1, h2, h3, hL args s _, lw_frame hF⟩
theorem i_vc : Claimed_1_1 ∧ Claimed_1_2 := ⟨lw_limb limb_1_1 (fun args s t => by simp [limb_1_1, Cond.after, Cond.holds, Cond.value]), lw_limb limb_1_2 (fun args s t => Cond.after_iff.mpr (by
  first | (rw [show limb_1_2 = Cond.eq .result (.int 1) from rfl, Cond.eq_ints (x := 1) (y := 1) rfl rfl]; simp; done) | (simp [limb_1_2, Cond.value, Term.eval]; done)))⟩
