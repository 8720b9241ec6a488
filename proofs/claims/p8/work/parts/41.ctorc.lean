section CT2
variable {K : bgK} {own : String} {cc : ByteArray} {nL : Nat} {rt : Option FieldType} {n z : Nat} {Q : State → Prop} {xs : List va_E} {pc pc' : Nat} {L : List (Option bgV)} {st : List bgV}
theorem c_iconst (C : bgCx K own cc nL rt) {k : Int} (hd : bgd cc pc (.iconst k) 1 pc') (kk : cX K n z Q xs pc' L (bi k :: st)) : cX K n z Q xs pc L st := by
  obtain ⟨h1, rfl⟩ := hd
  intro H locs ls hP hS hl
  exact lv_iconst C.hx C.hb h1 rfl (kk H locs ls hP hS hl)
theorem c_bipush (C : bgCx K own cc nL rt) {k : Int} (hd : bgd cc pc (.bipush k) 2 pc') (hv : (Int8.ofInt k).toInt32 = Int32.ofInt k) (kk : cX K n z Q xs pc' L (bi k :: st)) : cX K n z Q xs pc L st := by
  obtain ⟨h1, rfl⟩ := hd
  intro H locs ls hP hS hl
  exact lv_bipush C.hx C.hb h1 hv (kk H locs ls hP hS hl)
theorem c_sipush (C : bgCx K own cc nL rt) {k : Int} (hd : bgd cc pc (.sipush k) 3 pc') (hv : (Int16.ofInt k).toInt32 = Int32.ofInt k) (kk : cX K n z Q xs pc' L (bi k :: st)) : cX K n z Q xs pc L st := by
  obtain ⟨h1, rfl⟩ := hd
  intro H locs ls hP hS hl
  exact lv_sipush C.hx C.hb h1 hv (kk H locs ls hP hS hl)
theorem c_iload_n (C : bgCx K own cc nL rt) {k : Fin 4} {i : Nat} {v : Int} (hd : bgd cc pc (.iload_n k) 1 pc') (hi : (k : Nat) = i) (hv : L[i]? = some (some (bi v))) (kk : cX K n z Q xs pc' L (bi v :: st)) : cX K n z Q xs pc L st := by
  obtain ⟨h1, rfl⟩ := hd
  intro H locs ls hP hS hl
  exact lv_iload_n C.hx C.hb h1 hi (hl.2.2 i _ hv).1 (kk H locs ls hP hS hl)
theorem c_aload_n (C : bgCx K own cc nL rt) {k : Fin 4} {i : Nat} {v : Nat} (hd : bgd cc pc (.aload_n k) 1 pc') (hi : (k : Nat) = i) (hv : L[i]? = some (some (br v))) (kk : cX K n z Q xs pc' L (br v :: st)) : cX K n z Q xs pc L st := by
  obtain ⟨h1, rfl⟩ := hd
  intro H locs ls hP hS hl
  exact lv_aload_n C.hx C.hb h1 hi (hl.2.2 i _ hv).1 (kk H locs ls hP hS hl)
theorem c_istore_n (C : bgCx K own cc nL rt) {k : Fin 4} {i : Nat} {v : Int} (hd : bgd cc pc (.istore_n k) 1 pc') (hi : (k : Nat) = i) (hL : i < L.length) (kk : cX K n z Q xs pc' (L.set i (some (bi v))) st) : cX K n z Q xs pc L (bi v :: st) := by
  obtain ⟨h1, rfl⟩ := hd
  intro H locs ls hP hS hl
  exact lv_istore_n C.hx C.hb h1 hi hl.has hL rfl (fun ls' h' => kk H locs ls' hP hS (hl.set hL (v := bi v) rfl h'))
theorem c_astore_n (C : bgCx K own cc nL rt) {k : Fin 4} {i : Nat} {v : Nat} (hd : bgd cc pc (.astore_n k) 1 pc') (hi : (k : Nat) = i) (hL : i < L.length) (kk : cX K n z Q xs pc' (L.set i (some (br v))) st) : cX K n z Q xs pc L (br v :: st) := by
  obtain ⟨h1, rfl⟩ := hd
  intro H locs ls hP hS hl
  exact lv_astore_n C.hx C.hb h1 hi hl.has hL rfl (fun ls' h' => kk H locs ls' hP hS (hl.set hL (v := br v) rfl h'))
theorem c_iinc (C : bgCx K own cc nL rt) {i : Nat} {c v : Int} (hd : bgd cc pc (.iinc i c) 3 pc') (hv : L[i]? = some (some (bi v))) (kk : cX K n z Q xs pc' (L.set i (some (bi (v + c)))) st) : cX K n z Q xs pc L st := by
  obtain ⟨h1, rfl⟩ := hd
  intro H locs ls hP hS hl
  have hL : i < L.length := (List.getElem?_eq_some_iff.mp hv).1
  obtain ⟨j, hj⟩ := List.getElem?_of_mem (bgAs_mem (ad := kAd K) (L := L) (q := (i, bgC (kAd K) (bi v))) |>.mpr ⟨bi v, hv, rfl⟩)
  exact lv_iinc (k := j) C.hx C.hb h1 hl.has hj (v := Int32.ofInt (v + c)) (by rw [Int32.ofInt_add]) hL rfl (fun ls' h' => kk H locs ls' hP hS (hl.set hL (v := bi (v + c)) rfl h'))
theorem c_dup (C : bgCx K own cc nL rt) {a : bgV} (hd : bgd cc pc .dup 1 pc') (ha : (bgC (kAd K) a).category = 1) (kk : cX K n z Q xs pc' L (a :: a :: st)) : cX K n z Q xs pc L (a :: st) := by
  obtain ⟨h1, rfl⟩ := hd
  intro H locs ls hP hS hl
  exact lv_dup C.hx C.hb h1 ha (kk H locs ls hP hS hl)
theorem c_goto (C : bgCx K own cc nL rt) {off : Int} {l pc'' : Nat} (hd : bgd cc pc (.goto off) 3 pc'') (ht : (pc : Int) + off = (l : Int)) (kk : cX K n z Q xs l L st) : cX K n z Q xs pc L st := by
  obtain ⟨h1, -⟩ := hd
  intro H locs ls hP hS hl
  exact lv_goto C.hx C.hb h1 ht (kk H locs ls hP hS hl)
theorem c_icmp_lt (C : bgCx K own cc nL rt) {a b off : Int} {tgt : Nat} (hd : bgd cc pc (.if_icmp .lt off) 3 pc') (ht : (pc : Int) + off = (tgt : Int)) (ha : bgr a) (hb : bgr b) (k1 : a < b → cX K n z Q xs tgt L st) (k2 : ¬ a < b → cX K n z Q xs pc' L st) : cX K n z Q xs pc L (bi b :: bi a :: st) := by
  obtain ⟨h1, rfl⟩ := hd
  intro H locs ls hP hS hl
  exact lv_icmp_lt C.hx C.hb h1 ht (fun q => k1 ((bgr_lt ha hb).mp q) H locs ls hP hS hl) (fun q => k2 (fun e => q ((bgr_lt ha hb).mpr e)) H locs ls hP hS hl)
theorem c_icmp_ge (C : bgCx K own cc nL rt) {a b off : Int} {tgt : Nat} (hd : bgd cc pc (.if_icmp .ge off) 3 pc') (ht : (pc : Int) + off = (tgt : Int)) (ha : bgr a) (hb : bgr b) (k1 : b ≤ a → cX K n z Q xs tgt L st) (k2 : ¬ b ≤ a → cX K n z Q xs pc' L st) : cX K n z Q xs pc L (bi b :: bi a :: st) := by
  obtain ⟨h1, rfl⟩ := hd
  intro H locs ls hP hS hl
  exact lv_icmp_ge C.hx C.hb h1 ht (fun q => k1 ((bgr_le hb ha).mp q) H locs ls hP hS hl) (fun q => k2 (fun e => q ((bgr_le hb ha).mpr e)) H locs ls hP hS hl)
end CT2
/-! contracts of the constructors: from the world xs to the world ys; they return -/
def cS (G : bgGl) (xs : List va_E) (U : State) : Prop := va_P G.2.2.2.1 bgCl (cE G.2.1 xs) U.heap ∧ U.heap.size = G.2.2.2.2.heap.size + xs.length ∧ bgB G U
def cO (G : bgGl) (c0 z0 : Nat) (ys : List va_E) (st : State) (o : Outcome) (t : State) : Prop := o = .returned none ∧ va_P G.2.2.2.1 bgCl (cE G.2.1 ys) t.heap ∧ va_F (bgA G) st t ∧ bgFe G false st t c0 z0
def cQ (K : bgK) (c0 z0 : Nat) (ys : List va_E) : State → Prop := fun t => ∃ o, t.status = .running ∧ Ended t (kB K) o ∧ cO K.1 c0 z0 ys (kS K) o t
def cM (G : bgGl) (c0 z0 : Nat) (y : MethodName) (cw : Cond) (rm : Room) (av : List bgV) (xs ys : List va_E) : Prop :=
  MetFree G.1 y (headSpec [cw] rm) (va_Pc (av.map (bgC G.2.1)) (cS G xs)) (fun _ _ _ _ _ => True) (fun _ st o t => cO G c0 z0 ys st o t)
theorem c_met {G : bgGl} {c0 z0 : Nat} {y : MethodName} {cc : ByteArray} {nL : Nat} {rt : Option FieldType} {rm : Room} {av : List bgV} {xs ys : List va_E} (hG : bgOk G) (hA : cAd G) (hy : plainName y.cls = true) (hc : ∀ v ∈ av, (bgC G.2.1 v).category = 1) (hn : av.length ≤ nL)
    (body : ∀ K : bgK, K.1 = G → kR K = rm → cK K xs.length → (kMe K).name = y.name → bgCx K y.cls cc nL rt → cX K 0 0 (cQ K c0 z0 ys) xs 0 (av.map some ++ List.replicate (nL - av.length) none) []) : cM G c0 z0 y (.code y cc nL rt) rm av xs ys := by
  refine MetFree.of_bodyS (code := cc) (maxLocals := nL) (ret := rt) hy ?_ ?_
  · intro args s m h hn
    obtain ⟨meth, c, h1, h2, h3, h4, h5, h6, -, -⟩ := Cond.code_spec hn (atoms_spec (ws := [Cond.code y cc nL rt]) h _ List.mem_cons_self)
    exact ⟨meth, c, h1, h2, h3, h4, h5, h6⟩
  · intro p e s m args below meth c s₁ B hml hP _
    obtain ⟨rfl, hS⟩ := hP
    have hh0 : s₁.heap = s.heap := by rw [B.state]; rfl
    obtain ⟨hP0, hsz, hW0, hz0, hq0⟩ := id hS
    have hnm : meth.name = y.name := (name_of_methodNamed B.named B.method).1
    have C : bgCx (G, p, e, rm, s, m, (av.map (bgC G.2.1)).toArray, below, meth, c) y.cls cc nL rt := ⟨B.exec, B.bytes, hml, findClass_of_methodNamed B.named, B.returns, B.notSynchronized, hG, ⟨hW0, hz0, hq0⟩, fun x hx => bg_word (List.mem_filter.mp hx).2 hW0 (hG.2.2.2.1 x (List.mem_filter.mp hx).1)⟩
    have k1 := body (G, p, e, rm, s, m, (av.map (bgC G.2.1)).toArray, below, meth, c) rfl rfl ⟨hA, hsz⟩ hnm C s.heap [] _ hP0 va_S.rf (bgLoc.entry av nL hc hn)
    have k2 : W p G.1 e rm s m (av.map (bgC G.2.1)).toArray below meth c s.heap [] 0 0 (cQ (G, p, e, rm, s, m, (av.map (bgC G.2.1)).toArray, below, meth, c) c0 z0 ys) (entryFrame m (av.map (bgC G.2.1)).toArray nL) := by
      rw [lg_entry_eq]
      exact k1
    obtain ⟨t, a1, o, b1, b2, b3⟩ := k2 s₁ hh0 (Stand.of_body B)
    exact ⟨t, o, a1, b1, b2, b3⟩
section CT3
variable {K : bgK} {own : String} {cc : ByteArray} {nL : Nat} {rt : Option FieldType} {n z c0 z0 k0 : Nat} {Q : State → Prop} {xs ys : List va_E} {pc pc' : Nat} {L : List (Option bgV)} {stk st av : List bgV} {y : MethodName} {cw : Cond} {nY : Nat} {rm : Room}
theorem c_ret (C : bgCx K own cc nL rt) (hd : bgd cc pc .return_ 1 pc') (hrt : rt = none) (hn : n ≤ c0) (hz : z ≤ z0) : cX K n z (cQ K c0 z0 xs) xs pc L [] := by
  obtain ⟨h1, -⟩ := hd
  intro H locs ls hP hS hlo T hT X
  obtain ⟨t, a, b⟩ := W.vret (Qc := fun _ _ o t => o = .returned none ∧ t.heap = H) (free := fun q => ∃ l ∈ locs, l.base = q) C.hx C.hb (C.hr.trans hrt) (fun t ht _ => ⟨rfl, ht⟩) (fun q hq => ⟨q, hq, rfl⟩) h1 (hlocks := C.hlk) T hT X
  refine ⟨t, a, ?_⟩
  obtain ⟨o, h1, h2, ⟨rfl, ht⟩, L, hF, hL⟩ := b
  refine ⟨_, h1, h2, rfl, by rw [ht]; exact hP, hS.F ht, L, fun hp => (by cases hp), ⟨hF.2.1, hF.2.2.mono hn hz⟩, fun q hq => ?_⟩
  obtain ⟨l, hl, e⟩ := hL q hq
  have := hS.2.2 l hl
  rw [e] at this
  exact this
/-- the step into a call -/
def cInv (K : bgK) (y : MethodName) (cw : Cond) (nY : Nat) (xs : List va_E) (pc : Nat) (L : List (Option bgV)) (stk av st : List bgV) : Prop :=
  ∀ (H : Heap) (locs : List Loc) (ls : Array Slot), va_P (kD K) bgCl (cE (kAd K) xs) H → va_S (bgA K.1) (kS K).heap H locs → bgLoc (kAd K) ls L → ∀ (n z : Nat) (T : State), T.heap = H →
    Stand (kP K) (kL K) (kE K) (kR K) (kS K) (kM K) (kA K) (kB K) (kMe K) (kC K) T locs n z →
    ∃ (vm₁ : Vm) (mk : MethodId) (ig : Instr), Stand (kP K) (kL K) (kE K) (kR K) (kS K) (kM K) (kA K) (kB K) (kMe K) (kC K) (T.setVm vm₁) locs n z ∧ decode (kC K).code pc = .ok (ig, 3) ∧
      (T.setVm vm₁).methodNamed? y = some mk ∧ cw.before (av.map (bgC (kAd K))).toArray (T.setVm vm₁) = true ∧ (Cond.initialized y.cls).before (av.map (bgC (kAd K))).toArray (T.setVm vm₁) = true ∧
      (∃ (me : Method) (cY : Code), (T.setVm vm₁).vm.method? mk = some me ∧ me.code = some cY ∧ cY.maxLocals = nY) ∧
      ∀ target, (∀ acts, Steps (kP K).tables (kE K) (kB K) (doInvoke (kE K) ((T.setVm vm₁).setTop (F0 (kM K) pc ls (st.map (bgC (kAd K))))) acts mk (av.map (bgC (kAd K))).toArray).1 target) →
        Steps (kP K).tables (kE K) (kB K) (T.setTop (F0 (kM K) pc ls (stk.map (bgC (kAd K))))) target
theorem c_invI (C : bgCx K own cc nL rt) {bytes : ByteArray} {idx nA k : Nat} (hy1 : y.name = "<init>") (hl : Cond.methodLink own idx y ∈ bgTs) (hin : Cond.instanceMethod y ∈ bgTs) (hco : Cond.code y bytes nY none ∈ bgTs) (hini : Cond.initialized y.cls ∈ bgTs)
    (hy : y.cls ≠ "java/lang/invoke/MethodHandle" ∧ y.cls ≠ "java/lang/invoke/VarHandle") (ha : (parseMethodDescriptor y.desc).map (fun d => d.parameters.length) = some nA) (hA : nA = av.length) (hd : bgd cc pc (.invokespecial idx) 3 pc') (hst : stk = av.reverse ++ br k :: st) :
    cInv K y (.code y bytes nY none) nY xs pc L stk (br k :: av) st := by
  obtain ⟨h1, -⟩ := hd
  subst hst
  intro H locs ls hP hS hlo n z U hU X
  have hpl : (kE K).platform.magicAccessors = ({} : Platform).magicAccessors := by rw [X.admits.platform]
  have hlen : ∀ sig, parseMethodDescriptor y.desc = some sig → (av.map (bgC (kAd K))).length = sig.parameters.length := by
    intro sig h
    rw [h] at ha
    rw [List.length_map, ← hA]
    exact (Option.some.inj ha).symm
  obtain ⟨mk, methM, cM, kP, vm₁, hnamed, hmethM, hcodeM, -, hlocalsM, -, hkP, -, hW₁, hstep₁⟩ := Steps.initColdArgs (e := kE K) X.here C.hx X.warmed hpl C.hown hy1 hy (C.hts _ hl) (C.hts _ hin) (C.hts _ hco) (f := F0 (kM K) pc ls ((av.reverse ++ br k :: st).map (bgC (kAd K)))) rfl (a := kAd K k) (argsL := av.map (bgC (kAd K))) (rest := st.map (bgC (kAd K))) hlen (by rw [List.map_append, List.map_reverse]; rfl) (by rw [C.hb]; exact h1)
  have X₁ := X.noted hW₁
  have hm1 : (U.setVm vm₁).vm.method? mk = some methM := by rw [X₁.warmed.alike.method?]; exact hmethM
  exact ⟨vm₁, mk, _, X₁, by rw [C.hb]; exact h1, X₁.named hnamed, bg_word1 C hco X₁.warmed _, bg_word1 C hini X₁.warmed _, ⟨methM, cM, hm1, hcodeM, hlocalsM⟩, hstep₁⟩
theorem c_invIN (C : bgCx K own cc nL rt) {bytes : ByteArray} {idx nA k : Nat} {host : String} (hy1 : y.name = "<init>") (hl : Cond.methodLinkNest own idx y host ∈ bgTs) (hin : Cond.instanceMethod y ∈ bgTs) (hco : Cond.code y bytes nY none ∈ bgTs) (hini : Cond.initialized y.cls ∈ bgTs)
    (hy : y.cls ≠ "java/lang/invoke/MethodHandle" ∧ y.cls ≠ "java/lang/invoke/VarHandle") (ha : (parseMethodDescriptor y.desc).map (fun d => d.parameters.length) = some nA) (hA : nA = av.length) (hd : bgd cc pc (.invokespecial idx) 3 pc') (hst : stk = av.reverse ++ br k :: st) :
    cInv K y (.code y bytes nY none) nY xs pc L stk (br k :: av) st := by
  obtain ⟨h1, -⟩ := hd
  subst hst
  intro H locs ls hP hS hlo n z U hU X
  have hpl : (kE K).platform.magicAccessors = ({} : Platform).magicAccessors := by rw [X.admits.platform]
  have hlen : ∀ sig, parseMethodDescriptor y.desc = some sig → (av.map (bgC (kAd K))).length = sig.parameters.length := by
    intro sig h
    rw [h] at ha
    rw [List.length_map, ← hA]
    exact (Option.some.inj ha).symm
  obtain ⟨mk, methM, cM, kP, vm₁, hnamed, hmethM, hcodeM, -, hlocalsM, -, hkP, -, hW₁, hstep₁⟩ := Steps.initColdArgsNest (e := kE K) X.here C.hx X.warmed hpl C.hown hy1 hy (C.hts _ hl) (C.hts _ hin) (C.hts _ hco) (f := F0 (kM K) pc ls ((av.reverse ++ br k :: st).map (bgC (kAd K)))) rfl (a := kAd K k) (argsL := av.map (bgC (kAd K))) (rest := st.map (bgC (kAd K))) hlen (by rw [List.map_append, List.map_reverse]; rfl) (by rw [C.hb]; exact h1)
  have X₁ := X.noted hW₁
  have hm1 : (U.setVm vm₁).vm.method? mk = some methM := by rw [X₁.warmed.alike.method?]; exact hmethM
  exact ⟨vm₁, mk, _, X₁, by rw [C.hb]; exact h1, X₁.named hnamed, bg_word1 C hco X₁.warmed _, bg_word1 C hini X₁.warmed _, ⟨methM, cM, hm1, hcodeM, hlocalsM⟩, hstep₁⟩
theorem c_invV (C : bgCx K own cc nL rt) {bytes : ByteArray} {k ci idx N : Nat} {rY : Option FieldType} {C0 : String} {T : u_T} {ty : Nat → FieldType} (F : bgCF ci C0 T ty N) {fs : List Value} (hk : xs[k]? = some (.inr (ci, fs))) (hl : Cond.methodLink own idx y ∈ bgTs) (hin : Cond.instanceMethod y ∈ bgTs) (hse : Cond.selects C0 y y ∈ bgTs) (hco : Cond.code y bytes nY rY ∈ bgTs) (hini : Cond.initialized y.cls ∈ bgTs)
    (hy : y.cls ≠ "java/lang/invoke/MethodHandle" ∧ y.cls ≠ "java/lang/invoke/VarHandle") {nA : Nat} (ha : (parseMethodDescriptor y.desc).map (fun d => d.parameters.length) = some nA) (hA : nA = av.length) (hd : bgd cc pc (.invokevirtual idx) 3 pc') (hst : stk = av.reverse ++ br k :: st) :
    cInv K y (.code y bytes nY rY) nY xs pc L stk (br k :: av) st := by
  obtain ⟨h1, -⟩ := hd
  subst hst
  intro H locs ls hP hS hlo n z U hU X
  obtain ⟨mk, methM, hnamed, hmethM, hstM, habM⟩ := Cond.instanceMethod_spec (C.hts _ hin)
  obtain ⟨methM', cM, hmethM', hcM, -, hlM, -, -, -, hsigM⟩ := Cond.code_spec hnamed (C.hts _ hco)
  cases hmethM.symm.trans hmethM'
  obtain ⟨c2, r2, m2, q1, q2, q3, q4, kP, hkP, hkPi⟩ := Cond.selects_spec (C.hts _ hse)
  obtain ⟨cellB, hcB, hoB, hclB⟩ := va_recv C.hK hP F.1 (cE_at hk)
  cases hclB.symm.trans q1
  cases (State.methodFound?_of_named hnamed hy).symm.trans q2
  cases hnamed.symm.trans q3
  have hselP : selectMethod (kE K).platform (kS K).vm cellB.cls mk = .method mk := by rw [Launch.admits_selectMethod X.admits]; exact q4
  have hlen : (av.map (bgC (kAd K))).length = methM.sig.parameters.length := by
    rw [hsigM] at ha
    rw [List.length_map, ← hA]
    exact (Option.some.inj ha).symm
  obtain ⟨vm₁, X₁, hstep₁⟩ := X.invokevirtual C.hx C.hown (C.hts _ hl) hnamed hmethM hstM hkP hkPi hy (a := kAd K k) (cell := cellB) (by rw [hU]; exact hcB)
    (fun z h => by rw [h] at hoB; cases hoB) hselP hmethM habM hkP hkPi (g := F0 (kM K) pc ls ((av.reverse ++ br k :: st).map (bgC (kAd K)))) rfl (argsL := av.map (bgC (kAd K))) (rest := st.map (bgC (kAd K))) hlen (by rw [List.map_append, List.map_reverse]; rfl) (by rw [C.hb]; exact h1)
  have hm1 : (U.setVm vm₁).vm.method? mk = some methM := by rw [X₁.warmed.alike.method?]; exact hmethM
  exact ⟨vm₁, mk, _, X₁, by rw [C.hb]; exact h1, X₁.named hnamed, bg_word1 C hco X₁.warmed _, bg_word1 C hini X₁.warmed _, ⟨methM, cM, hm1, hcM, hlM⟩, hstep₁⟩
set_option maxHeartbeats 1000000 in
theorem c_call (C : bgCx K own cc nL rt) (hk : cK K k0) (hnk : n + k0 = xs.length) (hle : xs.length ≤ bgNO) (M : cM K.1 c0 z0 y cw rm av xs ys) (I : cInv K y cw nY xs pc L stk av st) (hL : L.length = nL) (hrm : rm.frames + 1 ≤ (kR K).frames ∧ 8 + (nY + 11) + rm.locals ≤ (kR K).locals) (hcs : n + rm.cells ≤ (kR K).cells ∧ z + rm.slots ≤ (kR K).slots) (hst : ((st.map (bgC (kAd K))).map fun v => v.category).sum ≤ 8)
    (hpc : pc + 3 = pc') (kk : cX K (n + c0) (z + z0) Q ys pc' L st) : cX K n z Q xs pc L stk := by
  subst hpc
  intro H locs ls hP hS hlo T hT X0
  obtain ⟨vm₁, mk, ig, X, hdg, hn, hcw, hini, ⟨me, cY, hmY, hcY, hlY⟩, hstep⟩ := I H locs ls hP hS hlo n z T hT X0
  have hsz := c_size hk hnk hle hP hS hT X0
  have hnow : cS K.1 xs (T.setVm vm₁) := by
    obtain ⟨hW0, hz0, hq0⟩ := C.hs
    refine ⟨by rw [show (T.setVm vm₁).heap = T.heap from rfl, hT]; exact hP, by rw [show (T.setVm vm₁).heap = T.heap from rfl, hT]; exact hsz, State.WarmedH.trans hW0 X.warmed, by rw [show (T.setVm vm₁).heap = T.heap from rfl, hT]; exact Nat.le_trans hz0 hS.1, fun q hq => ?_⟩
    rw [show (T.setVm vm₁).heap = T.heap from rfl, hT, hS.2.1 q (Nat.lt_of_lt_of_le hq hz0) (fun h => Nat.not_le.mpr hq h)]
    exact hq0 q hq
  generalize hUe : T.setVm vm₁ = U at X hn hcw hini hmY hstep hnow
  have hUH : U.heap = H := by rw [← hUe]; exact hT
  generalize hae : (av.map (bgC (kAd K))).toArray = a at hcw hini hstep
  generalize hge : F0 (kM K) pc ls (st.map (bgC (kAd K))) = g at hstep
  have hgm : g.method = kM K := by rw [← hge]
  have hgp : g.pc = pc := by rw [← hge]
  have hsize : g.locals.size = (kC K).maxLocals := by rw [← hge, C.hml]; exact hlo.1.trans hL
  have hW : 2 * g.monitorRoom + (g.stack.map fun v => v.category).sum ≤ 8 := by rw [← hge]; exact lv_room hst
  obtain ⟨kY, hkY, -⟩ := className_of_methodNamed hn
  have hinitY : kY.init = .initialized := Cond.initialized_spec (findClass_of_methodNamed hn) hkY hini
  have h : At U g.method (kC K) (kB K) := by rw [hgm]; exact X.here
  have hdg' : decode (kC K).code g.pc = .ok (ig, 3) := by rw [hgp]; exact hdg
  have happ : (headSpec [cw] rm).appliesLoose y (kE K).platform (U.calling g mk a) = true :=
    Spec.appliesLoose_calling (g := g) h hdg' hn hkY hinitY
      (X.room_calling (g := g) (R' := rm) hsize hmY hcY hrm.1 (by rw [hlY]; omega) hcs.1 hcs.2) (atoms_intro fun x hx => by
        rw [List.mem_singleton.mp hx]
        exact hcw)
  obtain ⟨mid, hmid⟩ := h.above
  have hfr : (U.setTop g).frames = (.java g :: mid) ++ (kB K) := by rw [State.frames_setTop' g h.top, hmid]; rfl
  obtain ⟨o, s₂, hsteps, -, hend, hq⟩ := Steps.callFree M (kP K) X.admits X.cas X.clock (acts := []) hfr happ ⟨hae.symm, hnow⟩ trivial
  have hq' : cO K.1 c0 z0 ys (U.calling g mk a) o s₂ := hq
  rw [State.frames_setTop' g h.top] at hend
  obtain ⟨hrs, hP2, hF2, Lc, -, ⟨hW₂, e2, q2, q3, q4, q5, q6⟩, hLc⟩ := hq'
  have e3 : s₂ = ({ (U.calling g mk a).setFrames s₂.frames with heap := s₂.heap, slotsUsed := s₂.slotsUsed } : State).setVm s₂.vm := by
    have : s₂ = ({ s₂ with vm := (U.calling g mk a).vm } : State).setVm s₂.vm := rfl
    rw [e2] at this
    exact this
  have hW' : U.WarmedH s₂.vm := hW₂
  obtain ⟨g₀, hg0⟩ := Option.isSome_iff_exists.mp h.top
  obtain ⟨rr, hr⟩ := State.topJava?_eq_some.mp hg0
  have hsame : U.sameButNew ({ U with heap := s₂.heap, slotsUsed := s₂.slotsUsed } : State) Lc c0 z0 := by
    refine ⟨?_, q2, q3, q4, q5, q6⟩
    obtain ⟨t, ht, -⟩ := State.frames_cons hr
    show ({ U with heap := s₂.heap, slotsUsed := s₂.slotsUsed } : State) = { U.setFrames U.frames with heap := s₂.heap, slotsUsed := s₂.slotsUsed }
    rw [State.setFrames_self ht]
  have X2 : Stand (kP K) (kL K) (kE K) (kR K) (kS K) (kM K) (kA K) (kB K) (kMe K) (kC K) (({ U with heap := s₂.heap, slotsUsed := s₂.slotsUsed } : State).setVm s₂.vm) (locs ++ Lc) (n + c0) (z + z0) :=
    ⟨X.admits, X.cas, X.clock, X.frames, X.room, X.hears, X.method, X.code, (X.here.setHeapUsed s₂.heap s₂.slotsUsed).setVm hW'.alike, X.tail, State.WarmedH.trans X.warmed hW', X.limits, X.bytes, X.same.trans (hsame.setVm (kS K).vm)⟩
  have hr' : (({ U with heap := s₂.heap, slotsUsed := s₂.slotsUsed } : State).setVm s₂.vm).frames = .java g₀ :: rr := hr
  have hS2 : va_S (bgA K.1) (kS K).heap s₂.heap (locs ++ Lc) := by
    have hFz : U.heap.size ≤ s₂.heap.size := hF2.1
    have hFq : ∀ q : Nat, q < U.heap.size → ¬ bgA K.1 q → s₂.heap[q]? = U.heap[q]? := hF2.2
    rw [hUH] at hFz hFq
    refine ⟨Nat.le_trans hS.1 hFz, fun q h1 h2 => (hFq q (Nat.lt_of_lt_of_le h1 hS.1) h2).trans (hS.2.1 q h1 h2), fun q hq => ?_⟩
    rcases List.mem_append.mp hq with h | h
    · exact hS.2.2 q h
    · exact hLc q h
  have hfin : ∀ tg, Steps (kP K).tables (kE K) (kB K) s₂ tg → Steps (kP K).tables (kE K) (kB K) (T.setTop (F0 (kM K) pc ls (stk.map (bgC (kAd K))))) tg := fun tg hh => hstep tg (fun acts => by
    rw [doInvoke_state]
    exact hsteps.trans hh)
  have retd : ∀ v : Option Value, o = .returned v → s₂ = (({ U with heap := s₂.heap, slotsUsed := s₂.slotsUsed } : State).setVm s₂.vm).setTop { g with pc := g.pc + 3, stack := v.toList ++ g.stack } := by
    intro v hv
    subst hv
    obtain ⟨c₂, i₂, len₂, hc₂, hd₂, hf₂⟩ := hend
    have hcc : c₂ = kC K := by
      have h1 : s₂.code? g.method = U.code? g.method := by
        rw [State.code?_eq, State.code?_eq, hW'.alike.method?]
      exact Option.some.inj (hc₂.symm.trans (h1.trans h.code))
    subst hcc
    have hlen : len₂ = 3 := by rw [hdg'] at hd₂; cases hd₂; rfl
    subst hlen
    refine e3.trans ?_
    rw [hf₂, State.calling_eq h.top, State.setFrames_setFrames, State.setTop_of_frames _ hr', hr]
    rfl
  have hk2 := kk s₂.heap (locs ++ Lc) ls hP2 hS2 hlo (({ U with heap := s₂.heap, slotsUsed := s₂.slotsUsed } : State).setVm s₂.vm) rfl X2
  obtain ⟨t, a1, b1⟩ := hk2
  refine ⟨t, hfin t ?_, b1⟩
  have e4 := retd none hrs
  rw [e4, ← hge]
  exact a1
end CT3
