/-! how a method ends: it returned (nothing, or an int), or it threw (an exception of the class number X) -/
abbrev bgRes : Type := Option Int ⊕ Nat
def bgXn (X : Nat) : String := bgXs.getD X ""
def bgRs (st t : State) (r : bgRes) (o : Outcome) : Prop := match r with
  | .inl none => o = .returned none
  | .inl (some v) => o = .returned (some (.int (Int32.ofInt v)))
  | .inr X => ∃ (a : Addr) (ce : Cell), o = .threw a ∧ t.heap[a]? = some ce ∧ st.vm.findClass (bgXn X) = some ce.cls ∧ ce.vm = .none
def bgFe (G : bgGl) (pu : Bool) (st t : State) (mc ms : Nat) : Prop := ∃ L : List Loc, (pu = true → L = []) ∧ (st.WarmedH t.vm ∧ st.sameButNew ({ t with vm := st.vm } : State) L mc ms) ∧ ∀ q ∈ L, bgA G q.base
/-- the cells (and slots) that it made: c0 if it returned, one exception (of six slots) if it threw -/
def bgCe (c0 : Nat) (r : bgRes) : Nat := match r with
  | .inl _ => c0
  | .inr _ => 1
def bgSl (z0 : Nat) (r : bgRes) : Nat := match r with
  | .inl _ => z0
  | .inr _ => 6
def bgO (G : bgGl) (pu : Bool) (c0 z0 : Nat) (post : bgRes → bgW → Prop) (st : State) (o : Outcome) (t : State) : Prop := ∃ (r : bgRes) (w : bgW), bgRs st t r o ∧ post r w ∧ va_P G.2.2.2.1 bgCl (bgL G.2.2.1 G.2.1 w) t.heap ∧ va_F (bgA G) st t ∧ bgFe G pu st t (bgCe c0 r) (bgSl z0 r)
def bgQ (K : bgK) (pu : Bool) (c0 z0 : Nat) (post : bgRes → bgW → Prop) : State → Prop := fun t => ∃ o, t.status = .running ∧ Ended t (kB K) o ∧ bgO K.1 pu c0 z0 post (kS K) o t
/-- A CONTRACT: method y with the arguments av in the world w ends, and 'post' says how -/
def bgM (G : bgGl) (pu : Bool) (c0 z0 : Nat) (y : MethodName) (cw : Cond) (rm : Room) (av : List bgV) (w : bgW) (post : bgRes → bgW → Prop) : Prop :=
  MetFree G.1 y (headSpec [cw] rm) (va_Pc (av.map (bgC G.2.1)) (bgS G w)) (fun _ _ _ _ _ => True) (fun _ st o t => bgO G pu c0 z0 post st o t)
/-- no handler; the world stood at the entry -/
abbrev bgE0 (K : bgK) : Prop := (kC K).exceptionTable.isEmpty = true ∧ ∃ w, va_P (kD K) bgCl (bgL (kCA K) (kAd K) w) (kS K).heap
theorem bg_met {G : bgGl} {pu : Bool} {c0 z0 : Nat} {y : MethodName} {cc : ByteArray} {nL : Nat} {rt : Option FieldType} {rm : Room} {av : List bgV} {w : bgW} {post : bgRes → bgW → Prop} (hG : bgOk G) (hy : plainName y.cls = true) (hc : ∀ v ∈ av, (bgC G.2.1 v).category = 1) (hn : av.length ≤ nL)
    (body : ∀ K : bgK, K.1 = G → kR K = rm → bgE0 K → bgCx K y.cls cc nL rt → bgX K true 0 0 (bgQ K pu c0 z0 post) w 0 (av.map some ++ List.replicate (nL - av.length) none) []) : bgM G pu c0 z0 y (.code y cc nL rt) rm av w post := by
  refine MetFree.of_bodyS (code := cc) (maxLocals := nL) (ret := rt) hy ?_ ?_
  · intro args s m h hn
    obtain ⟨meth, c, h1, h2, h3, h4, h5, h6, -, -⟩ := Cond.code_spec hn (atoms_spec (ws := [Cond.code y cc nL rt]) h _ List.mem_cons_self)
    exact ⟨meth, c, h1, h2, h3, h4, h5, h6⟩
  · intro p e s m args below meth c s₁ B hml hP _
    obtain ⟨rfl, hS⟩ := hP
    have hcode := atoms_spec (ws := [Cond.code y cc nL rt]) B.pre _ List.mem_cons_self
    have hex := B.noHandlers hcode
    have hh0 : s₁.heap = s.heap := by rw [B.state]; rfl
    obtain ⟨hP0, hW0, hz0, hq0⟩ := id hS
    have C : bgCx (G, p, e, rm, s, m, (av.map (bgC G.2.1)).toArray, below, meth, c) y.cls cc nL rt := ⟨B.exec, B.bytes, hml, findClass_of_methodNamed B.named, B.returns, B.notSynchronized, hG, ⟨hW0, hz0, hq0⟩, fun x hx => bg_word (List.mem_filter.mp hx).2 hW0 (hG.2.2.2.1 x (List.mem_filter.mp hx).1)⟩
    have k1 := body (G, p, e, rm, s, m, (av.map (bgC G.2.1)).toArray, below, meth, c) rfl rfl ⟨hex, w, hP0⟩ C s.heap [] _ (fun _ => rfl) hP0 va_S.rf (bgLoc.entry av nL hc hn)
    have k2 : W p G.1 e rm s m (av.map (bgC G.2.1)).toArray below meth c s.heap [] 0 0 (bgQ (G, p, e, rm, s, m, (av.map (bgC G.2.1)).toArray, below, meth, c) pu c0 z0 post) (entryFrame m (av.map (bgC G.2.1)).toArray nL) := by
      rw [lg_entry_eq]
      exact k1
    obtain ⟨t, a1, o, b1, b2, b3⟩ := k2 s₁ hh0 (Stand.of_body B)
    exact ⟨t, o, a1, b1, b2, b3⟩
section BGE
variable {K : bgK} {own : String} {cc : ByteArray} {nL : Nat} {rt : Option FieldType} {bb pu : Bool} {n z c0 z0 : Nat} {w : bgW} {pc pc' : Nat} {L : List (Option bgV)} {post : bgRes → bgW → Prop}
theorem bg_ofMQ {t : State} {locs : List Loc} {H : Heap} {r : Option Int} {o0 : Outcome} (ho : ∀ t : State, bgRs (kS K) t (.inl r) o0) (hpu : pu = true → locs = []) (hP : va_P (kD K) bgCl (bgL (kCA K) (kAd K) w) H) (hS : va_S (bgA K.1) (kS K).heap H locs) (hn : n ≤ c0) (hz : z ≤ z0) (hp : post (.inl r) w)
    (h : MQ (kB K) (fun _ _ o t => o = o0 ∧ t.heap = H) (kA K) (kS K) n z (fun q => ∃ l ∈ locs, l.base = q) t) : bgQ K pu c0 z0 post t := by
  obtain ⟨o, h1, h2, ⟨rfl, ht⟩, L, hF, hL⟩ := h
  refine ⟨o, h1, h2, .inl r, w, ho t, hp, by rw [ht]; exact hP, hS.F ht, L, fun hp => ?_, ⟨hF.2.1, hF.2.2.mono hn hz⟩, fun q hq => ?_⟩
  · cases L with
    | nil => rfl
    | cons q L =>
      obtain ⟨l, hl, -⟩ := hL q List.mem_cons_self
      rw [hpu hp] at hl
      cases hl
  · obtain ⟨l, hl, e⟩ := hL q hq
    have := hS.2.2 l hl
    rw [e] at this
    exact this
theorem bg_iret (C : bgCx K own cc nL rt) {v : Int} (hd : bgd cc pc .ireturn 1 pc') (hpu : pu = true → bb = true) (hrt : rt = some .int ∨ (rt = some .boolean ∧ (v = 0 ∨ v = 1))) (hn : n ≤ c0) (hz : z ≤ z0) (hp : post (.inl (some v)) w) : bgX K bb n z (bgQ K pu c0 z0 post) w pc L [bi v] := by
  obtain ⟨h1, -⟩ := hd
  intro H locs ls hlb hP hS hlo T hT X
  rcases hrt with h | ⟨h, hv⟩
  · obtain ⟨t, a, b⟩ := W.iret (Qc := fun _ _ o t => o = .returned (some (.int (Int32.ofInt v))) ∧ t.heap = H) (free := fun q => ∃ l ∈ locs, l.base = q) C.hx C.hb (C.hr.trans h) (fun t ht _ => ⟨rfl, ht⟩) (fun q hq => ⟨q, hq, rfl⟩) h1 (hlocks := C.hlk) T hT X
    exact ⟨t, a, bg_ofMQ (r := some v) (fun _ => rfl) (fun e => hlb (hpu e)) hP hS hn hz hp b⟩
  · have hna : narrow .boolean (.int (Int32.ofInt v)) = .int (Int32.ofInt v) := by
      rcases hv with rfl | rfl <;> rfl
    obtain ⟨t, a, b⟩ := W.zret (Qc := fun _ _ o t => o = .returned (some (.int (Int32.ofInt v))) ∧ t.heap = H) (free := fun q => ∃ l ∈ locs, l.base = q) C.hx C.hb (C.hr.trans h) hna (fun t ht _ => ⟨rfl, ht⟩) (fun q hq => ⟨q, hq, rfl⟩) h1 (hlocks := C.hlk) T hT X
    exact ⟨t, a, bg_ofMQ (r := some v) (fun _ => rfl) (fun e => hlb (hpu e)) hP hS hn hz hp b⟩
theorem bg_ret (C : bgCx K own cc nL rt) (hd : bgd cc pc .return_ 1 pc') (hpu : pu = true → bb = true) (hrt : rt = none) (hn : n ≤ c0) (hz : z ≤ z0) (hp : post (.inl none) w) : bgX K bb n z (bgQ K pu c0 z0 post) w pc L [] := by
  obtain ⟨h1, -⟩ := hd
  intro H locs ls hlb hP hS hlo T hT X
  obtain ⟨t, a, b⟩ := W.vret (Qc := fun _ _ o t => o = .returned none ∧ t.heap = H) (free := fun q => ∃ l ∈ locs, l.base = q) C.hx C.hb (C.hr.trans hrt) (fun t ht _ => ⟨rfl, ht⟩) (fun q hq => ⟨q, hq, rfl⟩) h1 (hlocks := C.hlk) T hT X
  exact ⟨t, a, bg_ofMQ (r := none) (fun _ => rfl) (fun e => hlb (hpu e)) hP hS hn hz hp b⟩
end BGE
/-! calls -/
/-- the step into a call: from the stack stk, with the arguments av taken, st left; y is the method, nL its locals -/
def bgInv (K : bgK) (y : MethodName) (cw : Cond) (nY : Nat) (w : bgW) (pc : Nat) (L : List (Option bgV)) (stk av st : List bgV) : Prop :=
  ∀ (H : Heap) (locs : List Loc) (ls : Array Slot), va_P (kD K) bgCl (bgL (kCA K) (kAd K) w) H → va_S (bgA K.1) (kS K).heap H locs → bgLoc (kAd K) ls L → ∀ (n z : Nat) (T : State), T.heap = H →
    Stand (kP K) (kL K) (kE K) (kR K) (kS K) (kM K) (kA K) (kB K) (kMe K) (kC K) T locs n z →
    ∃ (vm₁ : Vm) (mk : MethodId) (ig : Instr), Stand (kP K) (kL K) (kE K) (kR K) (kS K) (kM K) (kA K) (kB K) (kMe K) (kC K) (T.setVm vm₁) locs n z ∧ decode (kC K).code pc = .ok (ig, 3) ∧
      (T.setVm vm₁).methodNamed? y = some mk ∧ cw.before (av.map (bgC (kAd K))).toArray (T.setVm vm₁) = true ∧ (Cond.initialized y.cls).before (av.map (bgC (kAd K))).toArray (T.setVm vm₁) = true ∧
      (∃ (me : Method) (cY : Code), (T.setVm vm₁).vm.method? mk = some me ∧ me.code = some cY ∧ cY.maxLocals = nY) ∧
      ∀ target, (∀ acts, Steps (kP K).tables (kE K) (kB K) (doInvoke (kE K) ((T.setVm vm₁).setTop (F0 (kM K) pc ls (st.map (bgC (kAd K))))) acts mk (av.map (bgC (kAd K))).toArray).1 target) →
        Steps (kP K).tables (kE K) (kB K) (T.setTop (F0 (kM K) pc ls (stk.map (bgC (kAd K))))) target
section BGI
variable {K : bgK} {own : String} {cc : ByteArray} {nL : Nat} {rt : Option FieldType} {w : bgW} {pc pc' : Nat} {L : List (Option bgV)} {stk st av : List bgV} {y : MethodName} {bytes : ByteArray} {nY k ci idx N : Nat} {rY : Option FieldType} {C0 : String} {T : u_T} {ty : Nat → FieldType}
theorem bg_word1 (C : bgCx K own cc nL rt) {x : Cond} (hx : x ∈ bgTs) {U : State} (hW : (kS K).WarmedH U.vm) (A : Array Value) : x.before A U = true := bg_word (List.mem_filter.mp hx).2 hW (C.hts x hx)
theorem bg_invV (C : bgCx K own cc nL rt) (F : bgCF ci C0 T ty N) (hk : bgKinds[k]? = some (.inl ci)) (hl : Cond.methodLink own idx y ∈ bgTs) (hin : Cond.instanceMethod y ∈ bgTs) (hse : Cond.selects C0 y y ∈ bgTs) (hco : Cond.code y bytes nY rY ∈ bgTs) (hini : Cond.initialized y.cls ∈ bgTs)
    (hy : y.cls ≠ "java/lang/invoke/MethodHandle" ∧ y.cls ≠ "java/lang/invoke/VarHandle") {nA : Nat} (ha : (parseMethodDescriptor y.desc).map (fun d => d.parameters.length) = some nA) (hA : nA = av.length) (hd : bgd cc pc (.invokevirtual idx) 3 pc') (hst : stk = av.reverse ++ br k :: st) :
    bgInv K y (.code y bytes nY rY) nY w pc L stk (br k :: av) st := by
  obtain ⟨h1, -⟩ := hd
  subst hst
  intro H locs ls hP hS hlo n z U hU X
  obtain ⟨mk, methM, hnamed, hmethM, hstM, habM⟩ := Cond.instanceMethod_spec (C.hts _ hin)
  obtain ⟨methM', cM, hmethM', hcM, -, hlM, -, -, -, hsigM⟩ := Cond.code_spec hnamed (C.hts _ hco)
  cases hmethM.symm.trans hmethM'
  obtain ⟨c2, r2, m2, q1, q2, q3, q4, kP, hkP, hkPi⟩ := Cond.selects_spec (C.hts _ hse)
  obtain ⟨cellB, hcB, hoB, hclB⟩ := va_recv C.hK hP F.1 (bg_objAt hk)
  cases hclB.symm.trans q1
  cases (State.methodFound?_of_named hnamed hy).symm.trans q2
  cases hnamed.symm.trans q3
  have hselP : selectMethod (kE K).platform (kS K).vm cellB.cls mk = .method mk := by rw [Launch.admits_selectMethod X.admits]; exact q4
  have hlen : (av.map (bgC (kAd K))).length = methM.sig.parameters.length := by
    rw [hsigM] at ha
    rw [List.length_map, ← hA]
    exact (Option.some.inj ha).symm
  obtain ⟨vm₁, X₁, hstep₁⟩ := X.invokevirtual C.hx C.hown (C.hts _ hl) hnamed hmethM hstM hkP hkPi hy (a := kAd K k) (cell := cellB) (by rw [hU]; exact hcB)
    (fun z h => by rw [h] at hoB; cases hoB) hselP hmethM habM hkP hkPi (g := F0 (kM K) pc ls ((av.reverse ++ br k :: st).map (bgC (kAd K)))) rfl (argsL := av.map (bgC (kAd K))) (rest := st.map (bgC (kAd K))) hlen (by rw [List.map_append, List.map_reverse]; rfl) (by rw [C.hb]; exact h1)
  have hm1 : (U.setVm vm₁).vm.method? mk = some methM := by rw [X₁.warmed.alike.method?]; exact hmethM
  exact ⟨vm₁, mk, _, X₁, by rw [C.hb]; exact h1, X₁.named hnamed, bg_word1 C hco X₁.warmed _, bg_word1 C hini X₁.warmed _, ⟨methM, cM, hm1, hcM, hlM⟩, hstep₁⟩
theorem bg_invVN (C : bgCx K own cc nL rt) {host : String} (F : bgCF ci C0 T ty N) (hk : bgKinds[k]? = some (.inl ci)) (hl : Cond.methodLinkNest own idx y host ∈ bgTs) (hin : Cond.instanceMethod y ∈ bgTs) (hse : Cond.selects C0 y y ∈ bgTs) (hco : Cond.code y bytes nY rY ∈ bgTs) (hini : Cond.initialized y.cls ∈ bgTs)
    (hy : y.cls ≠ "java/lang/invoke/MethodHandle" ∧ y.cls ≠ "java/lang/invoke/VarHandle") {nA : Nat} (ha : (parseMethodDescriptor y.desc).map (fun d => d.parameters.length) = some nA) (hA : nA = av.length) (hd : bgd cc pc (.invokevirtual idx) 3 pc') (hst : stk = av.reverse ++ br k :: st) :
    bgInv K y (.code y bytes nY rY) nY w pc L stk (br k :: av) st := by
  obtain ⟨h1, -⟩ := hd
  subst hst
  intro H locs ls hP hS hlo n z U hU X
  obtain ⟨mk, methM, hnamed, hmethM, hstM, habM⟩ := Cond.instanceMethod_spec (C.hts _ hin)
  obtain ⟨methM', cM, hmethM', hcM, -, hlM, -, -, -, hsigM⟩ := Cond.code_spec hnamed (C.hts _ hco)
  cases hmethM.symm.trans hmethM'
  obtain ⟨c2, r2, m2, q1, q2, q3, q4, kP, hkP, hkPi⟩ := Cond.selects_spec (C.hts _ hse)
  obtain ⟨cellB, hcB, hoB, hclB⟩ := va_recv C.hK hP F.1 (bg_objAt hk)
  cases hclB.symm.trans q1
  cases (State.methodFound?_of_named hnamed hy).symm.trans q2
  cases hnamed.symm.trans q3
  have hselP : selectMethod (kE K).platform (kS K).vm cellB.cls mk = .method mk := by rw [Launch.admits_selectMethod X.admits]; exact q4
  have hlen : (av.map (bgC (kAd K))).length = methM.sig.parameters.length := by
    rw [hsigM] at ha
    rw [List.length_map, ← hA]
    exact (Option.some.inj ha).symm
  obtain ⟨vm₁, X₁, hstep₁⟩ := X.invokevirtualNest C.hx C.hown (C.hts _ hl) hnamed hmethM hstM hkP hkPi hy (a := kAd K k) (cell := cellB) (by rw [hU]; exact hcB)
    (fun z h => by rw [h] at hoB; cases hoB) hselP hmethM habM hkP hkPi (g := F0 (kM K) pc ls ((av.reverse ++ br k :: st).map (bgC (kAd K)))) rfl (argsL := av.map (bgC (kAd K))) (rest := st.map (bgC (kAd K))) hlen (by rw [List.map_append, List.map_reverse]; rfl) (by rw [C.hb]; exact h1)
  have hm1 : (U.setVm vm₁).vm.method? mk = some methM := by rw [X₁.warmed.alike.method?]; exact hmethM
  exact ⟨vm₁, mk, _, X₁, by rw [C.hb]; exact h1, X₁.named hnamed, bg_word1 C hco X₁.warmed _, bg_word1 C hini X₁.warmed _, ⟨methM, cM, hm1, hcM, hlM⟩, hstep₁⟩
theorem bg_invS (C : bgCx K own cc nL rt) (hl : Cond.methodLink own idx y ∈ bgTs) (hsta : Cond.static y ∈ bgTs) (hco : Cond.code y bytes nY rY ∈ bgTs) (hini : Cond.initialized y.cls ∈ bgTs)
    (hy : y.cls ≠ "java/lang/invoke/MethodHandle" ∧ y.cls ≠ "java/lang/invoke/VarHandle") {nA : Nat} (ha : (parseMethodDescriptor y.desc).map (fun d => d.parameters.length) = some nA) (hA : nA = av.length) (hd : bgd cc pc (.invokestatic idx) 3 pc') (hst : stk = av.reverse ++ st) :
    bgInv K y (.code y bytes nY rY) nY w pc L stk av st := by
  obtain ⟨h1, -⟩ := hd
  subst hst
  intro H locs ls hP hS hlo n z U hU X
  obtain ⟨mk, hnamed⟩ := Cond.code_named (C.hts _ hco)
  obtain ⟨methM, cM, hmethM, hcM, -, hlM, -, -, -, hsigM⟩ := Cond.code_spec hnamed (C.hts _ hco)
  have hstatic : methM.isStatic = true := Cond.static_spec hnamed hmethM (C.hts _ hsta)
  obtain ⟨kP, hkP, -⟩ := className_of_methodNamed hnamed
  have hinitP : kP.init = .initialized := Cond.initialized_spec (findClass_of_methodNamed hnamed) hkP (C.hts _ hini)
  have hlen : (av.map (bgC (kAd K))).length = methM.sig.parameters.length := by
    rw [hsigM] at ha
    rw [List.length_map, ← hA]
    exact (Option.some.inj ha).symm
  obtain ⟨vm₁, X₁, hstep₁⟩ := X.invokestatic C.hx C.hown (C.hts _ hl) hnamed hmethM hstatic hkP hinitP hy (g := F0 (kM K) pc ls ((av.reverse ++ st).map (bgC (kAd K)))) rfl (argsL := av.map (bgC (kAd K))) (rest := st.map (bgC (kAd K))) hlen (by rw [List.map_append, List.map_reverse]) (by rw [C.hb]; exact h1)
  have hm1 : (U.setVm vm₁).vm.method? mk = some methM := by rw [X₁.warmed.alike.method?]; exact hmethM
  exact ⟨vm₁, mk, _, X₁, by rw [C.hb]; exact h1, X₁.named hnamed, bg_word1 C hco X₁.warmed _, bg_word1 C hini X₁.warmed _, ⟨methM, cM, hm1, hcM, hlM⟩, hstep₁⟩
end BGI
/-- what a throw in flight must come to: the exception of the class X lies at a, the walk's frame at pc below it -/
def bgXt (K : bgK) (bb : Bool) (n z : Nat) (Q : State → Prop) (w : bgW) (X pc : Nat) (L : List (Option bgV)) : Prop :=
  ∀ (H : Heap) (locs : List Loc) (ls : Array Slot) (a : Addr) (ce : Cell) (stk : List Value), (bb = true → locs = []) → va_P (kD K) bgCl (bgL (kCA K) (kAd K) w) H → va_S (bgA K.1) (kS K).heap H locs → bgLoc (kAd K) ls L → H[a]? = some ce → (kS K).vm.findClass (bgXn X) = some ce.cls → ce.vm = .none →
    ∀ T : State, T.heap = H → Stand (kP K) (kL K) (kE K) (kR K) (kS K) (kM K) (kA K) (kB K) (kMe K) (kC K) T locs n z → ∃ t, Steps (kP K).tables (kE K) (kB K) ((T.setTop (F0 (kM K) pc ls stk)).pushFrame (.throwing a)) t ∧ Q t
def bgPush (r : Option Int) : List bgV := match r with
  | none => []
  | some v => [bi v]
section BGC
variable {K : bgK} {own : String} {cc : ByteArray} {nL : Nat} {rt : Option FieldType} {bb pu : Bool} {n z c0 z0 c1 z1 : Nat} {Q : State → Prop} {w : bgW} {pc : Nat} {L : List (Option bgV)} {stk st av : List bgV} {y : MethodName} {cw : Cond} {nY : Nat} {rm : Room} {post : bgRes → bgW → Prop}
theorem bg_now (C : bgCx K own cc nL rt) {H : Heap} {locs : List Loc} {U : State} (hP : va_P (kD K) bgCl (bgL (kCA K) (kAd K) w) H) (hS : va_S (bgA K.1) (kS K).heap H locs) (hU : U.heap = H) (hW : (kS K).WarmedH U.vm) : bgS K.1 w U := by
  obtain ⟨hW0, hz0, hq0⟩ := C.hs
  refine ⟨by rw [hU]; exact hP, State.WarmedH.trans hW0 hW, by rw [hU]; exact Nat.le_trans hz0 hS.1, fun q hq => ?_⟩
  rw [hU, hS.2.1 q (Nat.lt_of_lt_of_le hq hz0) (fun h => Nat.not_le.mpr hq h)]
  exact hq0 q hq
set_option maxHeartbeats 1000000 in
theorem bg_call (C : bgCx K own cc nL rt) (M : bgM K.1 pu c0 z0 y cw rm av w post) (I : bgInv K y cw nY w pc L stk av st) (hL : L.length = nL) (hrm : rm.frames + 1 ≤ (kR K).frames ∧ 8 + (nY + 11) + rm.locals ≤ (kR K).locals) (hcs : n + rm.cells ≤ (kR K).cells ∧ z + rm.slots ≤ (kR K).slots) (hst : ((st.map (bgC (kAd K))).map fun v => v.category).sum ≤ 8)
    (kr : ∀ r w', post (.inl r) w' → bgX K (pu && bb) (n + c0) (z + z0) Q w' (pc + 3) L (bgPush r ++ st)) (kt : ∀ X w', post (.inr X) w' → bgXt K (pu && bb) (n + 1) (z + 6) Q w' X pc L) : bgX K bb n z Q w pc L stk := by
  intro H locs ls hlb hP hS hlo T hT X0
  obtain ⟨vm₁, mk, ig, X, hdg, hn, hcw, hini, ⟨me, cY, hmY, hcY, hlY⟩, hstep⟩ := I H locs ls hP hS hlo n z T hT X0
  have hnow : bgS K.1 w (T.setVm vm₁) := bg_now C hP hS hT X.warmed
  generalize hUe : T.setVm vm₁ = U at X hn hcw hini hmY hstep hnow
  have hUH : U.heap = H := by rw [← hUe]; exact hT
  generalize hae : (av.map (bgC (kAd K))).toArray = a at hcw hini hstep
  generalize hge : F0 (kM K) pc ls (st.map (bgC (kAd K))) = g at hstep
  have hgm : g.method = kM K := by rw [← hge]
  have hgp : g.pc = pc := by rw [← hge]
  have hsize : g.locals.size = (kC K).maxLocals := by rw [← hge, C.hml]; exact hlo.1.trans hL
  have hW : 2 * g.monitorRoom + (g.stack.map fun v => v.category).sum ≤ 8 := by rw [← hge]; exact lv_room hst
  obtain ⟨kY, hkY, -⟩ := className_of_methodNamed hn
  have hinitY : kY.init = .initialized := Cond.initialized_spec (findClass_of_methodNamed hn) hkY hini
  have h : At U g.method (kC K) (kB K) := by rw [hgm]; exact X.here
  have hdg' : decode (kC K).code g.pc = .ok (ig, 3) := by rw [hgp]; exact hdg
  have happ : (headSpec [cw] rm).appliesLoose y (kE K).platform (U.calling g mk a) = true :=
    Spec.appliesLoose_calling (g := g) h hdg' hn hkY hinitY
      (X.room_calling (g := g) (R' := rm) hsize hmY hcY hrm.1 (by rw [hlY]; omega) hcs.1 hcs.2) (atoms_intro fun x hx => by
        rw [List.mem_singleton.mp hx]
        exact hcw)
  obtain ⟨mid, hmid⟩ := h.above
  have hfr : (U.setTop g).frames = (.java g :: mid) ++ (kB K) := by rw [State.frames_setTop' g h.top, hmid]; rfl
  obtain ⟨o, s₂, hsteps, -, hend, hq⟩ := Steps.callFree M (kP K) X.admits X.cas X.clock (acts := []) hfr happ ⟨hae.symm, hnow⟩ trivial
  have hq' : bgO K.1 pu c0 z0 post (U.calling g mk a) o s₂ := hq
  rw [State.frames_setTop' g h.top] at hend
  obtain ⟨r, w', hrs, hpo, hP2, hF2, Lc, hpu, ⟨hW₂, e2, q2, q3, q4, q5, q6⟩, hLc⟩ := hq'
  have hlb2 : (pu && bb) = true → locs ++ Lc = [] := by
    intro h
    rw [Bool.and_eq_true] at h
    rw [hlb h.2, hpu h.1]
    rfl
  have e3 : s₂ = ({ (U.calling g mk a).setFrames s₂.frames with heap := s₂.heap, slotsUsed := s₂.slotsUsed } : State).setVm s₂.vm := by
    have : s₂ = ({ s₂ with vm := (U.calling g mk a).vm } : State).setVm s₂.vm := rfl
    rw [e2] at this
    exact this
  have hW' : U.WarmedH s₂.vm := hW₂
  obtain ⟨g₀, hg0⟩ := Option.isSome_iff_exists.mp h.top
  obtain ⟨rr, hr⟩ := State.topJava?_eq_some.mp hg0
  have hsame : U.sameButNew ({ U with heap := s₂.heap, slotsUsed := s₂.slotsUsed } : State) Lc (bgCe c0 r) (bgSl z0 r) := by
    refine ⟨?_, q2, q3, q4, q5, q6⟩
    obtain ⟨t, ht, -⟩ := State.frames_cons hr
    show ({ U with heap := s₂.heap, slotsUsed := s₂.slotsUsed } : State) = { U.setFrames U.frames with heap := s₂.heap, slotsUsed := s₂.slotsUsed }
    rw [State.setFrames_self ht]
  have X2 : Stand (kP K) (kL K) (kE K) (kR K) (kS K) (kM K) (kA K) (kB K) (kMe K) (kC K) (({ U with heap := s₂.heap, slotsUsed := s₂.slotsUsed } : State).setVm s₂.vm) (locs ++ Lc) (n + bgCe c0 r) (z + bgSl z0 r) :=
    ⟨X.admits, X.cas, X.clock, X.frames, X.room, X.hears, X.method, X.code, (X.here.setHeapUsed s₂.heap s₂.slotsUsed).setVm hW'.alike, X.tail, State.WarmedH.trans X.warmed hW', X.limits, X.bytes, X.same.trans (hsame.setVm (kS K).vm)⟩
  have hr' : (({ U with heap := s₂.heap, slotsUsed := s₂.slotsUsed } : State).setVm s₂.vm).frames = .java g₀ :: rr := hr
  have hS2 : va_S (bgA K.1) (kS K).heap s₂.heap (locs ++ Lc) := by
    have hFz : U.heap.size ≤ s₂.heap.size := hF2.1
    have hFq : ∀ q : Nat, q < U.heap.size → ¬ bgA K.1 q → s₂.heap[q]? = U.heap[q]? := hF2.2
    rw [hUH] at hFz hFq
    refine ⟨Nat.le_trans hS.1 hFz, fun q h1 h2 => (hFq q (Nat.lt_of_lt_of_le h1 hS.1) h2).trans (hS.2.1 q h1 h2), fun q hq => ?_⟩
    rcases List.mem_append.mp hq with h | h
    · exact hS.2.2 q h
    · exact hLc q h
  have hfin : ∀ tg, Steps (kP K).tables (kE K) (kB K) s₂ tg → Steps (kP K).tables (kE K) (kB K) (T.setTop (F0 (kM K) pc ls (stk.map (bgC (kAd K))))) tg := fun tg hh => hstep tg (fun acts => by
    rw [doInvoke_state]
    exact hsteps.trans hh)
  have retd : ∀ v : Option Value, o = .returned v → s₂ = (({ U with heap := s₂.heap, slotsUsed := s₂.slotsUsed } : State).setVm s₂.vm).setTop { g with pc := g.pc + 3, stack := v.toList ++ g.stack } := by
    intro v hv
    subst hv
    obtain ⟨c₂, i₂, len₂, hc₂, hd₂, hf₂⟩ := hend
    have hcc : c₂ = kC K := by
      have h1 : s₂.code? g.method = U.code? g.method := by
        rw [State.code?_eq, State.code?_eq, hW'.alike.method?]
      exact Option.some.inj (hc₂.symm.trans (h1.trans h.code))
    subst hcc
    have hlen : len₂ = 3 := by rw [hdg'] at hd₂; cases hd₂; rfl
    subst hlen
    refine e3.trans ?_
    rw [hf₂, State.calling_eq h.top, State.setFrames_setFrames, State.setTop_of_frames _ hr', hr]
    rfl
  cases r with
  | inl rv =>
    have hk := kr rv w' hpo s₂.heap (locs ++ Lc) ls hlb2 hP2 hS2 hlo (({ U with heap := s₂.heap, slotsUsed := s₂.slotsUsed } : State).setVm s₂.vm) rfl X2
    obtain ⟨t, a1, b1⟩ := hk
    refine ⟨t, hfin t ?_, b1⟩
    cases rv with
    | none =>
      have e4 := retd none hrs
      rw [e4, ← hge]
      exact a1
    | some v =>
      have e4 := retd (some (.int (Int32.ofInt v))) hrs
      rw [e4, ← hge]
      exact a1
  | inr Xn =>
    obtain ⟨x, ce, ho, hce, hcl, hvm⟩ := hrs
    subst ho
    have hf₂ : s₂.frames = .throwing x :: .java g :: U.frames.tail := hend
    have e4 : s₂ = ((({ U with heap := s₂.heap, slotsUsed := s₂.slotsUsed } : State).setVm s₂.vm).setTop g).pushFrame (.throwing x) := by
      refine e3.trans ?_
      rw [hf₂, State.calling_eq h.top, State.setFrames_setFrames, State.pushFrame, State.frames_setTop _ hr', State.setTop_of_frames _ hr', State.setFrames_setFrames, hr]
      rfl
    have hcl' : (kS K).vm.findClass (bgXn Xn) = some ce.cls := by
      have : U.vm.findClass (bgXn Xn) = some ce.cls := hcl
      rw [X.warmed.alike.findClass] at this
      exact this
    obtain ⟨t, a1, b1⟩ := kt Xn w' hpo s₂.heap (locs ++ Lc) ls x ce (st.map (bgC (kAd K))) hlb2 hP2 hS2 hlo hce hcl' hvm (({ U with heap := s₂.heap, slotsUsed := s₂.slotsUsed } : State).setVm s₂.vm) rfl X2
    refine ⟨t, hfin t ?_, b1⟩
    rw [e4, ← hge]
    exact a1
/-! the four kinds of end -/
abbrev bgPv (φ : bgW → Prop) : bgRes → bgW → Prop := fun r w => r = .inl none ∧ φ w
abbrev bgPi (φ : Int → bgW → Prop) : bgRes → bgW → Prop := fun r w => ∃ v, r = .inl (some v) ∧ φ v w
abbrev bgPvt (φ : bgW → Prop) (ψ : Nat → bgW → Prop) : bgRes → bgW → Prop := fun r w => (r = .inl none ∧ φ w) ∨ ∃ X, r = .inr X ∧ ψ X w
abbrev bgPit (φ : Int → bgW → Prop) (ψ : Nat → bgW → Prop) : bgRes → bgW → Prop := fun r w => (∃ v, r = .inl (some v) ∧ φ v w) ∨ ∃ X, r = .inr X ∧ ψ X w
variable {φ : bgW → Prop} {φi : Int → bgW → Prop} {ψ : Nat → bgW → Prop} {pc' : Nat}
theorem bg_cv (C : bgCx K own cc nL rt) (M : bgM K.1 pu 0 0 y cw rm av w (bgPv φ)) (I : bgInv K y cw nY w pc L stk av st) (hL : L.length = nL) (hrm : rm.frames + 1 ≤ (kR K).frames ∧ 8 + (nY + 11) + rm.locals ≤ (kR K).locals) (hcs : n + rm.cells ≤ (kR K).cells ∧ z + rm.slots ≤ (kR K).slots) (hst : ((st.map (bgC (kAd K))).map fun v => v.category).sum ≤ 8) (hpc : pc + 3 = pc')
    (kr : ∀ w', φ w' → bgX K (pu && bb) n z Q w' pc' L st) : bgX K bb n z Q w pc L stk := by
  subst hpc
  refine bg_call C M I hL hrm hcs hst (fun r w' hp => ?_) (fun X w' hp => ?_)
  · obtain ⟨e, h⟩ := hp
    cases e
    exact kr w' h
  · obtain ⟨e, -⟩ := hp
    cases e
theorem bg_ci (C : bgCx K own cc nL rt) (M : bgM K.1 pu 0 0 y cw rm av w (bgPi φi)) (I : bgInv K y cw nY w pc L stk av st) (hL : L.length = nL) (hrm : rm.frames + 1 ≤ (kR K).frames ∧ 8 + (nY + 11) + rm.locals ≤ (kR K).locals) (hcs : n + rm.cells ≤ (kR K).cells ∧ z + rm.slots ≤ (kR K).slots) (hst : ((st.map (bgC (kAd K))).map fun v => v.category).sum ≤ 8) (hpc : pc + 3 = pc')
    (kr : ∀ v w', φi v w' → bgX K (pu && bb) n z Q w' pc' L (bi v :: st)) : bgX K bb n z Q w pc L stk := by
  subst hpc
  refine bg_call C M I hL hrm hcs hst (fun r w' hp => ?_) (fun X w' hp => ?_)
  · obtain ⟨v, e, h⟩ := hp
    cases e
    exact kr v w' h
  · obtain ⟨v, e, -⟩ := hp
    cases e
theorem bg_cvt (C : bgCx K own cc nL rt) (M : bgM K.1 pu c0 z0 y cw rm av w (bgPvt φ ψ)) (I : bgInv K y cw nY w pc L stk av st) (hL : L.length = nL) (hrm : rm.frames + 1 ≤ (kR K).frames ∧ 8 + (nY + 11) + rm.locals ≤ (kR K).locals) (hcs : n + rm.cells ≤ (kR K).cells ∧ z + rm.slots ≤ (kR K).slots) (hst : ((st.map (bgC (kAd K))).map fun v => v.category).sum ≤ 8) (hpc : pc + 3 = pc')
    (kr : ∀ w', φ w' → bgX K (pu && bb) (n + c0) (z + z0) Q w' pc' L st) (kt : ∀ X w', ψ X w' → bgXt K (pu && bb) (n + 1) (z + 6) Q w' X pc L) : bgX K bb n z Q w pc L stk := by
  subst hpc
  refine bg_call C M I hL hrm hcs hst (fun r w' hp => ?_) (fun X w' hp => ?_)
  · rcases hp with ⟨e, h⟩ | ⟨X, e, -⟩
    · cases e
      exact kr w' h
    · cases e
  · rcases hp with ⟨e, -⟩ | ⟨X', e, h⟩
    · cases e
    · cases e
      exact kt X w' h
theorem bg_cit (C : bgCx K own cc nL rt) (M : bgM K.1 pu c0 z0 y cw rm av w (bgPit φi ψ)) (I : bgInv K y cw nY w pc L stk av st) (hL : L.length = nL) (hrm : rm.frames + 1 ≤ (kR K).frames ∧ 8 + (nY + 11) + rm.locals ≤ (kR K).locals) (hcs : n + rm.cells ≤ (kR K).cells ∧ z + rm.slots ≤ (kR K).slots) (hst : ((st.map (bgC (kAd K))).map fun v => v.category).sum ≤ 8) (hpc : pc + 3 = pc')
    (kr : ∀ v w', φi v w' → bgX K (pu && bb) (n + c0) (z + z0) Q w' pc' L (bi v :: st)) (kt : ∀ X w', ψ X w' → bgXt K (pu && bb) (n + 1) (z + 6) Q w' X pc L) : bgX K bb n z Q w pc L stk := by
  subst hpc
  refine bg_call C M I hL hrm hcs hst (fun r w' hp => ?_) (fun X w' hp => ?_)
  · rcases hp with ⟨v, e, h⟩ | ⟨X, e, -⟩
    · cases e
      exact kr v w' h
    · cases e
  · rcases hp with ⟨v, e, -⟩ | ⟨X', e, h⟩
    · cases e
    · cases e
      exact kt X w' h
/-- no handler here: the throw goes on to the caller -/
theorem bg_thru (C : bgCx K own cc nL rt) {X : Nat} (hpu : pu = true → bb = true) (hex : bgE0 K) (hn : n ≤ 1) (hz : z ≤ 6) (hp : post (.inr X) w) : bgXt K bb n z (bgQ K pu c1 z1 post) w X pc L := by
  intro H locs ls a ce stk hlb hP hS hlo hce hcl hvm T hT XX
  obtain ⟨hsteps, hrun, hend, hW, hsame⟩ := XX.leaveThrown a (g := F0 (kM K) pc ls stk) rfl rfl rfl (fun x hx => by
    rw [Array.isEmpty_iff.mp hex.1] at hx
    cases hx) (hlocks := C.hlk)
  refine ⟨_, hsteps, .threw a, hrun, hend, .inr X, w, ⟨a, ce, rfl, ?_, hcl, hvm⟩, hp, ?_, ?_, locs, fun e => hlb (hpu e), ⟨hW, hsame.mono hn hz⟩, hS.2.2⟩
  · show T.heap[a]? = some ce
    rw [hT]; exact hce
  · show va_P _ _ _ T.heap
    rw [hT]; exact hP
  · exact hS.F (t := T.setFrames (.throwing a :: kB K)) hT
end BGC
/-! a throw: new, dup, ldc, the constructor, athrow, in one -/
theorem bg_strRef {A : Array Value} {s U : State} {own tx : String} {k : Nat} (h : (Cond.stringRef own k tx).before A s = true) (hW : s.WarmedH U.vm) : ∃ q, vk_R own k tx q U := by
  cases hc : s.vm.findClass own with
  | none => simp [Cond.before, Cond.holds, Cond.value, hc] at h
  | some cur =>
    obtain ⟨_, _, _, a, -, -, -, -, -, hev⟩ := Cond.stringRef_spec hc h
    exact ⟨a, vk_R.warm hW (vk_R.of (A := A) h hev)⟩
def bgAt (own : String) (ic : Nat) (X : String) (names : List String) : Prop := ∀ a ∈ Bundle.ownAtoms own ic X names, a ∈ bgTs ∨ (a ∈ lw_tbl ∧ ∃ o n d, a = Cond.laysStatic o n d) ∨ a = bgUn ∨ a = bgSe
section BGT
variable {K : bgK} {own : String} {cc : ByteArray} {nL : Nat} {rt : Option FieldType} {bb pu : Bool} {n z c0 z0 : Nat} {w : bgW} {L : List (Option bgV)} {post : bgRes → bgW → Prop}
theorem bg_atoms (C : bgCx K own cc nL rt) {own2 X : String} {ic : Nat} {names : List String} (h : bgAt own2 ic X names) : ∀ a ∈ Bundle.ownAtoms own2 ic X names, a.before (kA K) (kS K) = true := by
  intro a ha
  obtain ⟨hW0, -, hq0⟩ := C.hs
  rcases h a ha with h | ⟨h, o, n, d, rfl⟩ | rfl | rfl
  · exact C.hts a h
  · exact bg_laysStatic hW0 hq0 (C.ok.2.2.2.1 _ h)
  · exact bg_isRef hW0 hq0 (C.ok.2.2.2.1 _ bgUn_lays) C.ok.2.2.2.2.1
  · exact bg_isRef hW0 hq0 (C.ok.2.2.2.1 _ bgSe_lays) C.ok.2.2.2.2.2.1
theorem bg_keep {s t : State} {c n : Nat} (h : s.sameButNew t [] c n) {a : Nat} {cell : Cell} (hc : s.heap[a]? = some cell) : t.heap[a]? = some cell := by
  obtain ⟨c', h1, h2, h3, h4⟩ := h.2.2.2.2.2 a cell hc
  rw [h1, h2]
  have e : c'.slots = cell.slots := by
    apply Array.ext_getElem?
    intro i
    exact h4 i (fun q => by cases q)
  rw [e]
set_option maxHeartbeats 1000000 in
theorem bg_throw (C : bgCx K own cc nL rt) {X : Nat} {names : List String} {idx sidx ic p0 p1 p2 p3 p4 p5 : Nat} {tx : String} (hex : bgE0 K) (hbb : bb = true)
    (hd0 : bgd cc p0 (.new idx) 3 p1) (hd1 : bgd cc p1 .dup 1 p2) (hd2 : bgd cc p2 (.ldc sidx) 2 p3) (hd3 : bgd cc p3 (.invokespecial ic) 3 p4) (hd4 : bgd cc p4 .athrow 1 p5)
    (hcl : Cond.classLink own idx (bgXn X) ∈ bgTs) (hins : Cond.instantiable (bgXn X) 6 ∈ bgTs) (hini : Cond.initialized (bgXn X) ∈ bgTs) (hsr : Cond.stringRef own sidx tx ∈ lw_tbl) (hat : bgAt own ic (bgXn X) names)
    (hfit : Bundle.fit (bgXn X) = true) (hnames : ∀ n ∈ names, Bundle.fit n = true) (hR : names.length + 3 < (kR K).frames) (hRl : 13 * (names.length + 1) + 43 ≤ (kR K).locals) (hL : L.length = nL)
    (hc1 : n + 1 ≤ (kR K).cells) (hs1 : z + 6 ≤ (kR K).slots) (hmc : n + 1 ≤ 1) (hms : z + 6 ≤ 6) (hp : post (.inr X) w) : bgX K bb n z (bgQ K pu c0 z0 post) w p0 L [] := by
  obtain ⟨e0, rfl⟩ := hd0
  obtain ⟨e1, rfl⟩ := hd1
  obtain ⟨e2, rfl⟩ := hd2
  obtain ⟨e3, rfl⟩ := hd3
  obtain ⟨e4, -⟩ := hd4
  intro H locs ls hlb hP hS hlo
  have hl0 := hlb hbb
  subst hl0
  obtain ⟨hW0, hz0, hq0⟩ := C.hs
  obtain ⟨w0, hP0⟩ := hex.2
  obtain ⟨q, hq⟩ := bg_strRef (C.ok.2.2.2.1 _ hsr) hW0
  refine W.newc (C := bgXn X) (n := 6) C.hx C.hb C.hown (C.hts _ hcl) (C.hts _ hins) (C.hts _ hini) (g := F0 (kM K) p0 ls []) rfl e0 hc1 hs1 (fun cX kX f1 f2 f3 f4 => ?_)
  refine lv_dup (pc := p0 + 3) (rest := []) (va := .ref H.size) C.hx C.hb e1 rfl ?_
  refine va_ldcS C.hx C.hb C.hown hq e2 ?_
  intro T hT XX
  have hsz : ls.size = (kC K).maxLocals := by rw [C.hml]; exact hlo.1.trans hL
  have htr : (kE K).platform.stackTraces = false := by
    rw [XX.admits.platform]
    exact C.ok.1
  obtain ⟨U, hst, hrun, hend, hW, hsame, ce, hce, hoc⟩ := XX.ctorThrowS C.hx htr C.hown hfit hnames (bg_atoms C hat) (fun x hx => by cases hx) f1 f2 (a := H.size) (by rw [hT]; simp) hS.1 (msg := .ref q) rfl (g := F0 (kM K) (p0 + 3 + 1 + 2) ls [.ref q, .ref H.size, .ref H.size]) rfl hsz rfl rfl (rest := []) rfl (by rw [C.hb]; exact e3) (by rw [C.hb]; exact e4) (fun x hx => by
    rw [Array.isEmpty_iff.mp hex.1] at hx
    cases hx) hR (by show 2 * 0 + 1 + (13 * (names.length + 1) + 42) ≤ _; omega) (hlocks := C.hlk)
  have hk1 : ∀ (a : Nat) (cell : Cell), (kS K).heap[a]? = some cell → U.heap[a]? = some cell := fun a cell h => bg_keep hsame h
  have hk2 : ∀ (a : Nat) (cell : Cell), (kS K).heap[a]? = some cell → T.heap[a]? = some cell := fun a cell h => bg_keep XX.same h
  refine ⟨U, hst, .threw H.size, hrun, hend, .inr X, w, ⟨H.size, ce, rfl, hce, hoc.cls, hoc.vm⟩, hp, ?_, ?_, [], fun _ => rfl, ⟨hW, hsame.mono hmc hms⟩, fun q hq => by cases hq⟩
  · refine hP.kept (fun k x hx => ?_)
    obtain ⟨hk, rfl⟩ := bgL_get hx
    have hlt := (hP0 k _ (bgL_at hk)).lt
    have hlt2 : kAd K k < (kS K).heap.size := hlt
    have hsome : (kS K).heap[kAd K k]? = some (kS K).heap[kAd K k] := Array.getElem?_eq_getElem hlt2
    have h1 := hk1 _ _ hsome
    have h2 := hk2 _ _ hsome
    rw [hT, Array.getElem?_push, if_neg (by have := hS.1; omega)] at h2
    show U.heap[kAd K k]? = H[kAd K k]?
    rw [h1, h2]
  · refine ⟨hsame.2.1, fun a ha _ => ?_⟩
    have hsome : (kS K).heap[a]? = some (kS K).heap[a] := Array.getElem?_eq_getElem ha
    rw [hk1 _ _ hsome, hsome]
end BGT
