/-! handlers: a throw that the method itself takes -/
theorem bg_goCold {e : Env} {s : State} {f : JFrame} {a : Addr} {x : ExceptionTableEntry} {t : List ExceptionTableEntry} {c : ClassId} {cell : Cell} {vm' : Vm} {Q : Handler → Pre} {E : CtlPost} {d : Bool} {acts : List Action} (hx : covers x f.pc = true) (h0 : x.catchType ≠ 0)
    (hg : (Jvm.resolveClass f.method.cls x.catchType).Gives e.toSetting s.vm (.ok c) vm') (hsz : vm'.classes.size ≤ s.vm.classes.size) (hcell : s.heap[a]? = some cell) (hobj : ∀ k, cell.vm ≠ .statics k)
    (hk : ∃ k, vm'.classes[cell.cls]? = some k) (hc : ∃ k, vm'.classes[c]? = some k) :
    wp (findHandler.go f a (x :: t)) Q E e d acts s ↔
      if vm'.assignable cell.cls c = true then Q (.found x.handlerPc) d acts (s.setVm vm') else wp (findHandler.go f a t) Q E e d acts (s.setVm vm') := by
  obtain ⟨ha, ht⟩ := hg.op (op := VmOp.resolveClass f.method.cls x.catchType) rfl
  simp only [covers] at hx
  cases hfit : vm'.assignable cell.cls c <;>
    simp [findHandler.go, hx, h0, ha, ht, hsz, hcell, hobj, hk, hc, hfit, VmOp.dirties, VmOp.acts]
abbrev bgTup (h : ExceptionTableEntry) : Nat × Nat × Nat × Nat := (h.startPc, h.endPc, h.handlerPc, h.catchType)
def bgFd (K : bgK) (X pc : Nat) (hs : List (Nat × Nat × Nat × Nat)) (hpc : Nat) : Prop :=
  ∀ (l : List ExceptionTableEntry), l.map bgTup = hs → ∀ (f : JFrame) (a : Addr) (ce : Cell) (s : State), f.method = kM K → f.pc = pc → (kS K).vm.findClass (bgXn X) = some ce.cls → ce.vm = .none → s.heap[a]? = some ce → (kS K).WarmedH s.vm → (kL K).admits (kE K) →
    ∃ vm', (kS K).WarmedH vm' ∧ ∀ (Q : Handler → Pre) (E : CtlPost) (d : Bool) (acts : List Action), wp (findHandler.go f a l) Q E (kE K) d acts s ↔ Q (.found hpc) d acts (s.setVm vm')
section BGH
variable {K : bgK} {own : String} {cc : ByteArray} {nL : Nat} {rt : Option FieldType} {X pc hpc st en ct h' : Nat} {r : List (Nat × Nat × Nat × Nat)}
theorem bg_fdHit (C : bgCx K own cc nL rt) (hcl : Cond.classLink own ct (bgXn X) ∈ bgTs) (hca : Cond.castable (bgXn X) (bgXn X) ∈ bgTs) (hin : (decide (st ≤ pc) && decide (pc < en)) = true) (h0 : ct ≠ 0) : bgFd K X pc ((st, en, hpc, ct) :: r) hpc := by
  intro l hl f a ce s hf hpc' hfc hvm hcell hW hadm
  cases l with
  | nil => cases hl
  | cons x t =>
    simp only [List.map_cons, List.cons.injEq, bgTup, Prod.mk.injEq] at hl
    obtain ⟨⟨rfl, rfl, rfl, rfl⟩, -⟩ := hl
    have hpl : (kE K).platform.magicAccessors = ({} : Platform).magicAccessors := by rw [hadm.platform]
    obtain ⟨c, hc, hlk⟩ := Cond.classLink_spec C.hown (C.hts _ hcl) (kE K).platform hpl
    obtain ⟨hg, hwarm, -⟩ := State.classEntry (e := kE K) hW hlk
    generalize s.vm.noted (kM K).cls x.catchType (.cls c) = vm' at hg hwarm
    cases hfc.symm.trans hc
    obtain ⟨c1, c2, e1, e2, hasg⟩ := Cond.castable_spec (C.hts _ hca)
    cases hfc.symm.trans e1
    cases hfc.symm.trans e2
    have hcv : vm'.findClass (bgXn X) = some ce.cls := by rw [hwarm.alike.findClass]; exact hfc
    refine ⟨vm', hwarm, fun Q E d acts => ?_⟩
    rw [bg_goCold (f := f) (by rw [hpc']; exact hin) h0 (by rw [hf]; exact hg) (by have h1 := hwarm.alike.2.1; have h2 := hW.alike.2.1; omega) hcell (fun k h => by rw [hvm] at h; cases h) (Vm.classAt_of_findClass hcv) (Vm.classAt_of_findClass hcv), if_pos (by rw [hwarm.alike.assignable]; exact hasg)]
theorem bg_fdSkip (C : bgCx K own cc nL rt) {Y : String} (hcl : Cond.classLink own ct Y ∈ bgTs) (hnc : (bgXn X, Y) ∈ bgNC) (hin : (decide (st ≤ pc) && decide (pc < en)) = true) (h0 : ct ≠ 0) (h : bgFd K X pc r hpc) : bgFd K X pc ((st, en, h', ct) :: r) hpc := by
  intro l hl f a ce s hf hpc' hfc hvm hcell hW hadm
  cases l with
  | nil => cases hl
  | cons x t =>
    simp only [List.map_cons, List.cons.injEq, bgTup, Prod.mk.injEq] at hl
    obtain ⟨⟨rfl, rfl, rfl, rfl⟩, hl⟩ := hl
    have hpl : (kE K).platform.magicAccessors = ({} : Platform).magicAccessors := by rw [hadm.platform]
    obtain ⟨c, hc, hlk⟩ := Cond.classLink_spec C.hown (C.hts _ hcl) (kE K).platform hpl
    obtain ⟨hg, hwarm, -⟩ := State.classEntry (e := kE K) hW hlk
    generalize s.vm.noted (kM K).cls x.catchType (.cls c) = vm' at hg hwarm
    obtain ⟨hW0, -⟩ := C.hs
    obtain ⟨c1, c2, e1, e2, hno⟩ := va_Nc.moved hW0.alike (C.ok.2.2.2.2.2.2 _ hnc)
    cases hfc.symm.trans e1
    cases hc.symm.trans e2
    have hcv : vm'.findClass (bgXn X) = some ce.cls := by rw [hwarm.alike.findClass]; exact hfc
    have hcy : vm'.findClass Y = some c := by rw [hwarm.alike.findClass]; exact hc
    obtain ⟨vm2, hw2, k2⟩ := h t hl f a ce (s.setVm vm') hf hpc' hfc hvm hcell hwarm hadm
    refine ⟨vm2, hw2, fun Q E d acts => ?_⟩
    rw [bg_goCold (f := f) (by rw [hpc']; exact hin) h0 (by rw [hf]; exact hg) (by have h1 := hwarm.alike.2.1; have h2 := hW.alike.2.1; omega) hcell (fun k h => by rw [hvm] at h; cases h) (Vm.classAt_of_findClass hcv) (Vm.classAt_of_findClass hcy), if_neg (by rw [hwarm.alike.assignable, hno]; decide), k2 Q E d acts, State.setVm_twice]
end BGH
theorem bg_caught {tb : Tables} {e : Env} {s target : State} {g : JFrame} {c : Code} {below : List Frame} {a : Addr} {vm' : Vm} (h : At s g.method c below) {pc : Nat}
    (hfind : ∀ (Q : Handler → Pre) (E : CtlPost) (d : Bool) (acts : List Action), wp (findHandler g a) Q E e d acts ((s.setTop g).pushFrame (.throwing a)) ↔ Q (.found pc) d acts (((s.setTop g).pushFrame (.throwing a)).setVm vm'))
    (hrest : Steps tb e below ((s.setVm vm').setTop { g with pc := pc, stack := [.ref a] }) target) : Steps tb e below ((s.setTop g).pushFrame (.throwing a)) target := by
  obtain ⟨hgo, hw⟩ := h.throwing a
  refine Steps.head hgo hw ?_
  have hstep : (stepThrowing e ((s.setTop g).pushFrame (.throwing a)) a (.java g :: s.frames.tail)).Is ((((s.setTop g).pushFrame (.throwing a)).setVm vm').setFrames (.java { g with pc := pc, stack := [.ref a] } :: s.frames.tail)) [] := by
    simp only [stepThrowing, searchFrame, vmDo]
    generalize hr : Sem.go _ e false [] ((s.setTop g).pushFrame (.throwing a)) = res
    obtain ⟨as, rfl, ha⟩ := Sem.eq_ok_of hr (a := Handler.found pc) (s' := ((s.setTop g).pushFrame (.throwing a)).setVm vm') (acts' := []) (by simp [hfind _ _ _ _])
    exact ⟨rfl, ha⟩
  rw [stepThread_throwing (frames_entered h.top _), hstep.1]
  obtain ⟨g₀, hg⟩ := Option.isSome_iff_exists.mp h.top
  obtain ⟨r, hr⟩ := State.topJava?_eq_some.mp hg
  have hr2 : (s.setVm vm').frames = .java g₀ :: r := hr
  rw [State.setTop_of_frames _ hr2] at hrest
  rw [State.pushFrame, State.setTop_of_frames _ hr, State.setFrames_setFrames, State.setFrames_setVm, State.setFrames_setFrames, hr]
  exact hrest
theorem bgLoc.setN {ad : Nat → Nat} {ls ls' : Array Slot} {L : List (Option bgV)} (h : bgLoc ad ls L) {i : Nat} {v : Value} 
    (h' : lv_has ls' L.length ((i, v) :: (bgAs ad L).filter (fun q => !(q.1 == i) && !(q.1 + 1 == i && q.2.category == 2)))) : bgLoc ad ls' (L.set i none) := by
  refine ⟨by rw [List.length_set]; exact h'.1, h'.2.1, fun j u hu => ?_⟩
  by_cases hj : j = i
  · subst hj
    by_cases hl : j < L.length
    · rw [List.getElem?_set_self hl] at hu
      cases hu
    · rw [List.getElem?_eq_none (by rw [List.length_set]; omega)] at hu
      cases hu
  · rw [List.getElem?_set_ne (fun q => hj q.symm)] at hu
    obtain ⟨a, b⟩ := h.2.2 j u hu
    refine ⟨h'.2.2 (j, bgC ad u) (List.mem_cons_of_mem _ (List.mem_filter.mpr ⟨bgAs_mem.mpr ⟨u, hu, rfl⟩, ?_⟩)), b⟩
    simp [hj, b]
section BGH2
variable {K : bgK} {own : String} {cc : ByteArray} {nL : Nat} {rt : Option FieldType} {bb : Bool} {n z : Nat} {Q : State → Prop} {w : bgW} {L : List (Option bgV)} {X pc hpc p2 i : Nat} {hs : List (Nat × Nat × Nat × Nat)}
theorem bg_hand (C : bgCx K own cc nL rt) (hex : (kC K).exceptionTable.toList.map bgTup = hs) (hfd : bgFd K X pc hs hpc) (hL : i < L.length) (hd : (∃ k : Fin 4, (k : Nat) = i ∧ bgd cc hpc (.astore_n k) 1 p2) ∨ bgd cc hpc (.astore i) 2 p2) (kk : bgX K bb n z Q w p2 (L.set i none) []) : bgXt K bb n z Q w X pc L := by
  intro H locs ls a ce stk hlb hP hS hlo hce hcl hvm T hT XX
  obtain ⟨vm', hW', hf⟩ := hfd _ hex (F0 (kM K) pc ls stk) a ce ((T.setTop (F0 (kM K) pc ls stk)).pushFrame (.throwing a)) rfl rfl hcl hvm (by rw [Stand.throwing_heap, hT]; exact hce) (by rw [Stand.throwing_vm]; exact XX.warmed) XX.admits
  have X1 := XX.noted hW'
  have hmeth : ((T.setTop (F0 (kM K) pc ls stk)).pushFrame (.throwing a)).vm.method? (kM K) = some (kMe K) := by rw [Stand.throwing_vm]; exact XX.method'
  have kw : W (kP K) (kL K) (kE K) (kR K) (kS K) (kM K) (kA K) (kB K) (kMe K) (kC K) H locs n z Q (F0 (kM K) hpc ls [.ref a]) := by
    rcases hd with ⟨k, hk, h1, rfl⟩ | ⟨h1, rfl⟩
    · exact lv_astore_n C.hx C.hb h1 hk hlo.has hL rfl (fun ls' h' => kk H locs ls' hlb hP hS (hlo.setN h'))
    · exact lv_astore C.hx C.hb h1 hlo.has hL rfl (fun ls' h' => kk H locs ls' hlb hP hS (hlo.setN h'))
  obtain ⟨t, a1, b1⟩ := kw (T.setVm vm') hT X1
  refine ⟨t, ?_, b1⟩
  refine bg_caught (g := F0 (kM K) pc ls stk) (c := kC K) XX.here (fun Q E d acts => ?_) a1
  rw [_root_.Jvm.W.findHandler_eq (meth := kMe K) (code := kC K) hmeth XX.code]
  exact hf Q E d acts
end BGH2
theorem bg_metW {G : bgGl} {pu : Bool} {c0 z0 : Nat} {y : MethodName} {cc : ByteArray} {nL : Nat} {rt : Option FieldType} {hs : List (Nat × Nat × Nat × Nat)} {rm : Room} {av : List bgV} {w : bgW} {post : bgRes → bgW → Prop} (hG : bgOk G) (hy : plainName y.cls = true) (hc : ∀ v ∈ av, (bgC G.2.1 v).category = 1) (hn : av.length ≤ nL)
    (body : ∀ K : bgK, K.1 = G → kR K = rm → (kC K).exceptionTable.toList.map bgTup = hs → bgCx K y.cls cc nL rt → bgX K true 0 0 (bgQ K pu c0 z0 post) w 0 (av.map some ++ List.replicate (nL - av.length) none) []) : bgM G pu c0 z0 y (.codeWith y cc nL rt hs) rm av w post := by
  refine MetFree.of_bodyS (code := cc) (maxLocals := nL) (ret := rt) hy ?_ ?_
  · intro args s m h hn
    obtain ⟨m', meth, c, hn', h1, h2, h3, h4, -, h5, h6, -⟩ := Cond.codeWith_spec (atoms_spec (ws := [Cond.codeWith y cc nL rt hs]) h _ List.mem_cons_self)
    cases hn.symm.trans hn'
    exact ⟨meth, c, h1, h2, h3, h4, h5, h6⟩
  · intro p e s m args below meth c s₁ B hml hP _
    obtain ⟨rfl, hS⟩ := hP
    obtain ⟨m', meth', c', hn', h1, h2, -, -, hex, -⟩ := Cond.codeWith_spec (atoms_spec (ws := [Cond.codeWith y cc nL rt hs]) B.pre _ List.mem_cons_self)
    cases B.named.symm.trans hn'
    cases B.method.symm.trans h1
    cases (Stand.of_body B).code.symm.trans h2
    have hh0 : s₁.heap = s.heap := by rw [B.state]; rfl
    obtain ⟨hP0, hW0, hz0, hq0⟩ := id hS
    have C : bgCx (G, p, e, rm, s, m, (av.map (bgC G.2.1)).toArray, below, meth, c) y.cls cc nL rt := ⟨B.exec, B.bytes, hml, findClass_of_methodNamed B.named, B.returns, B.notSynchronized, hG, ⟨hW0, hz0, hq0⟩, fun x hx => bg_word (List.mem_filter.mp hx).2 hW0 (hG.2.2.2.1 x (List.mem_filter.mp hx).1)⟩
    have k1 := body (G, p, e, rm, s, m, (av.map (bgC G.2.1)).toArray, below, meth, c) rfl rfl hex C s.heap [] _ (fun _ => rfl) hP0 va_S.rf (bgLoc.entry av nL hc hn)
    have k2 : W p G.1 e rm s m (av.map (bgC G.2.1)).toArray below meth c s.heap [] 0 0 (bgQ (G, p, e, rm, s, m, (av.map (bgC G.2.1)).toArray, below, meth, c) pu c0 z0 post) (entryFrame m (av.map (bgC G.2.1)).toArray nL) := by
      rw [lg_entry_eq]
      exact k1
    obtain ⟨t, a1, o, b1, b2, b3⟩ := k2 s₁ hh0 (Stand.of_body B)
    exact ⟨t, o, a1, b1, b2, b3⟩
theorem bg_invSW {K : bgK} {own : String} {cc : ByteArray} {nL : Nat} {rt : Option FieldType} {w : bgW} {pc pc' : Nat} {L : List (Option bgV)} {stk st av : List bgV} {y : MethodName} {bytes : ByteArray} {nY idx nA : Nat} {rY : Option FieldType} {hs : List (Nat × Nat × Nat × Nat)} (C : bgCx K own cc nL rt) (hl : Cond.methodLink own idx y ∈ bgTs) (hsta : Cond.static y ∈ bgTs) (hco : Cond.codeWith y bytes nY rY hs ∈ bgTs) (hini : Cond.initialized y.cls ∈ bgTs)
    (hy : y.cls ≠ "java/lang/invoke/MethodHandle" ∧ y.cls ≠ "java/lang/invoke/VarHandle") (ha : (parseMethodDescriptor y.desc).map (fun d => d.parameters.length) = some nA) (hA : nA = av.length) (hd : bgd cc pc (.invokestatic idx) 3 pc') (hst : stk = av.reverse ++ st) :
    bgInv K y (.codeWith y bytes nY rY hs) nY w pc L stk av st := by
  obtain ⟨h1, -⟩ := hd
  subst hst
  intro H locs ls hP hS hlo n z U hU X
  obtain ⟨mk, methM, cM, hnamed, hmethM, hcM, -, hlM, -, -, -, hsigM⟩ := Cond.codeWith_spec (C.hts _ hco)
  have hstatic : methM.isStatic = true := Cond.static_spec hnamed hmethM (C.hts _ hsta)
  obtain ⟨kP, hkP, -⟩ := className_of_methodNamed hnamed
  have hinitP : kP.init = .initialized := Cond.initialized_spec (findClass_of_methodNamed hnamed) hkP (C.hts _ hini)
  have hlen : (av.map (bgC (kAd K))).length = methM.sig.parameters.length := by
    rw [hsigM] at ha
    rw [List.length_map, ← hA]
    exact (Option.some.inj ha).symm
  obtain ⟨vm₁, X₁, hstep₁⟩ := X.invokestatic C.hx C.hown (C.hts _ hl) hnamed hmethM hstatic hkP hinitP hy (g := F0 (kM K) pc ls ((av.reverse ++ st).map (bgC (kAd K)))) rfl (argsL := av.map (bgC (kAd K))) (rest := st.map (bgC (kAd K))) hlen (by rw [List.map_append, List.map_reverse]) (by rw [C.hb]; exact h1)
  have hm1 : (U.setVm vm₁).vm.method? mk = some methM := by rw [X₁.warmed.alike.method?]; exact hmethM
  exact ⟨vm₁, mk, _, X₁, by rw [C.hb]; exact h1, X₁.named hnamed, bg_word1 C hco X₁.warmed _, bg_word1 C hini X₁.warmed _, ⟨methM, cM, hm1, hcM, hlM⟩, hstep₁⟩
