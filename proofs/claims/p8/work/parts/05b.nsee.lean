/-! a throw of a class whose constructor stands at another index of the pool -/
def bgOwnT (own : String) (ic : Nat) (X : String) : List Cond :=
  [.methodLink own ic (Bundle.initS X), .instantiable X 6, .selects X Bundle.tFill0 Bundle.tFill0, .selects X Bundle.tFill Bundle.tFill,
   .lays X Bundle.tN "cause" "Ljava/lang/Throwable;", .lays X Bundle.tN "stackTrace" Bundle.steD, .lays X Bundle.tN "suppressedExceptions" Bundle.listD, .lays X Bundle.tN "detailMessage" "Ljava/lang/String;",
   bgUn, bgSe, .fieldLink Bundle.tN 198 Bundle.tN "backtrace" "Ljava/lang/Object;", .lays Bundle.tN Bundle.tN "backtrace" "Ljava/lang/Object;", .lays X Bundle.tN "backtrace" "Ljava/lang/Object;"]
def bgOwn (own : String) (ic : Nat) (X Y : String) (ix : Nat) (bs : ByteArray) (names : List String) : List Cond :=
  Bundle.throwableAtoms ++ (Bundle.throwableSAtoms ++ ((Bundle.passSAtoms X Y ix bs ++ Bundle.chainSAtoms Y names) ++ bgOwnT own ic X))
def bgAtL (l : List Cond) : Prop := ∀ a ∈ l, a ∈ bgTs ∨ (a ∈ lw_tbl ∧ ∃ o n d, a = Cond.laysStatic o n d) ∨ a = bgUn ∨ a = bgSe
theorem bg_atLOf {l : List Cond} (is : List (Option Nat)) (h : (l.zip is).all bgChk = true) (hl : l.length = is.length) : bgAtL l := by
  intro a ha
  obtain ⟨k, hk⟩ := List.getElem?_of_mem ha
  have hlt : k < is.length := by rw [← hl]; exact (List.getElem?_eq_some_iff.mp hk).1
  have hz : (l.zip is)[k]? = some (a, is[k]) := by
    rw [List.getElem?_zip_eq_some]
    exact ⟨hk, List.getElem?_eq_getElem hlt⟩
  have h1 := List.all_eq_true.mp h _ (List.mem_of_getElem? hz)
  generalize is[k] = o at h1
  cases o with
  | none =>
    simp only [bgChk, Bool.or_eq_true, decide_eq_true_eq] at h1
    exact Or.inr (Or.inr h1)
  | some i =>
    simp only [bgChk, Bool.and_eq_true, Bool.or_eq_true, decide_eq_true_eq] at h1
    rcases h1.2 with h2 | h2
    · exact Or.inl (bg_tw i h1.1 h2)
    · refine Or.inr (Or.inl ⟨List.mem_of_getElem? h1.1, ?_⟩)
      cases a with
      | laysStatic o n d => exact ⟨o, n, d, rfl⟩
      | _ => cases h2
section BGN
variable {K : bgK} {own : String} {cc : ByteArray} {nL : Nat} {rt : Option FieldType} {bb pu : Bool} {n z c0 z0 : Nat} {w : bgW} {L : List (Option bgV)} {post : bgRes → bgW → Prop}
theorem bg_atomsL (C : bgCx K own cc nL rt) {l : List Cond} (h : bgAtL l) : ∀ a ∈ l, a.before (kA K) (kS K) = true := by
  intro a ha
  obtain ⟨hW0, -, hq0⟩ := C.hs
  rcases h a ha with h | ⟨h, o, n, d, rfl⟩ | rfl | rfl
  · exact C.hts a h
  · exact bg_laysStatic hW0 hq0 (C.ok.2.2.2.1 _ h)
  · exact bg_isRef hW0 hq0 (C.ok.2.2.2.1 _ bgUn_lays) C.ok.2.2.2.2.1
  · exact bg_isRef hW0 hq0 (C.ok.2.2.2.1 _ bgSe_lays) C.ok.2.2.2.2.2.1
end BGN
set_option maxHeartbeats 1000000 in
theorem bg_ctorN {p : Program} {l : Launch} {e : Env} {R : Room} {s : State} {m₀ : MethodId} {args : Array Value} {below : List Frame} {meth : Method} {c : Code} {V : State} {nc ns : Nat}
    (XX : Stand p l e R s m₀ args below meth c V [] nc ns) (hexec : p.tables.exec = Jvm.exec) (htr : e.platform.stackTraces = false) {own X Y : String} {ix ic : Nat} {bs : ByteArray} {names : List String}
    (hown : s.vm.findClass own = some m₀.cls) (hX : Bundle.fit X = true) (hY : Bundle.fit Y = true) (hnames : ∀ n ∈ names, Bundle.fit n = true)
    (e0 : decode bs 0 = .ok (.aload_n 0, 1)) (e1 : decode bs 1 = .ok (.aload_n 1, 1)) (e2 : decode bs 2 = .ok (.invokespecial ix, 3)) (e5 : decode bs 5 = .ok (.return_, 1))
    (h : ∀ a ∈ bgOwn own ic X Y ix bs names, a.before args s = true)
    {a : Addr} {cX : ClassId} {kX : Class} (hfX : s.vm.findClass X = some cX) (hkX : s.vm.classes[cX]? = some kX) (hcell : V.heap[a]? = some (freshCell cX kX)) (hnew : s.heap.size ≤ a)
    {msg : Value} (hmsg : msg.isRef = true) {g : JFrame} (hg : g.method = m₀) (hsize : g.locals.size = c.maxLocals) (hlocked : g.locked = none) (hentered : g.entered = []) {rest : List Value} (hstack : g.stack = msg :: .ref a :: .ref a :: rest)
    (hd6 : decode c.code g.pc = .ok (.invokespecial ic, 3)) (hd9 : decode c.code (g.pc + 3) = .ok (.athrow, 1)) (hout : ∀ x ∈ c.exceptionTable.toList, covers x (g.pc + 3) = false)
    (hRf : names.length + 4 < R.frames) (hRl : 2 * g.monitorRoom + ((Value.ref a :: rest).map fun v => v.category).sum + (13 * (names.length + 2) + 42) ≤ R.locals) (hlk : meth.locks = false) :
    ∃ U : State, Steps p.tables e below (V.setTop g) U ∧ U.status = .running ∧ Ended U below (.threw a) ∧ s.WarmedH U.vm ∧ s.sameButNew ({ U with vm := s.vm } : State) [] nc ns ∧
      ∃ ce, U.heap[a]? = some ce ∧ s.vm.findClass X = some ce.cls ∧ ce.vm = .none := by
  have k1 : e.platform.frameOwnsMonitors = true := by rw [XX.admits.platform]
  have k2 : e.platform.finalization = false := by rw [XX.admits.platform]
  have hpl : e.platform.magicAccessors = ({} : Platform).magicAccessors := by rw [XX.admits.platform]
  have h1 : ∀ x ∈ Bundle.throwableAtoms, x.before args s = true := fun x hx => h x (List.mem_append_left _ hx)
  have h2 : ∀ x ∈ Bundle.throwableSAtoms, x.before args s = true := fun x hx => h x (List.mem_append_right _ (List.mem_append_left _ hx))
  have h3 : ∀ x ∈ Bundle.passSAtoms X Y ix bs, x.before args s = true := fun x hx => h x (List.mem_append_right _ (List.mem_append_right _ (List.mem_append_left _ (List.mem_append_left _ hx))))
  have h4 : ∀ x ∈ Bundle.chainSAtoms Y names, x.before args s = true := fun x hx => h x (List.mem_append_right _ (List.mem_append_right _ (List.mem_append_left _ (List.mem_append_right _ hx))))
  have h5 : ∀ x, x ∈ bgOwnT own ic X → x.before args s = true := fun x hx => h x (List.mem_append_right _ (List.mem_append_right _ (List.mem_append_right _ hx)))
  obtain ⟨T, Z0, LL, -, Y0⟩ := ThrowableC.of_atoms (args := args) k1 k2 hpl h1
  obtain ⟨Z, M, LZ, LM, hnZ⟩ := Init0T.ofS_atoms (args := args) hpl LL Y0 h2
  obtain ⟨P2, Ps, hlen, L2, hPs, hP2, hl2, hls⟩ := Bundle.chainS (args := args) hpl hnZ names Y hY hnames h4
  obtain ⟨P1, L1, hP1, hS1⟩ := PassC.ofS_atoms (args := args) (s := s) hpl (X := X) (Y := Y) (Bundle.fit_spec hX).1 (Bundle.fit_spec hY).2 e0 e1 e2 e5 h3
  have hsup : P1.sup = P2.m := Option.some.inj (hS1.symm.trans hP2)
  have hfd : s.vm.findClass X = some P1.m.cls := findClass_of_methodNamed hP1
  cases Option.some.inj (hfX.symm.trans hfd)
  obtain ⟨c1, kX', hc1, hk, hord, -, -, -⟩ := Cond.instantiable_spec (h5 (.instantiable X 6) (by simp [bgOwnT]))
  cases Option.some.inj (hc1.symm.trans hfd)
  cases Option.some.inj (hkX.symm.trans hk)
  have sel0 : selectMethod e.platform s.vm P1.m.cls T.fill0 = .method T.fill0 := by
    obtain ⟨c2, r2, m2, q1, q2, q3, q4, -⟩ := Cond.selects_spec (h5 (.selects X Bundle.tFill0 Bundle.tFill0) (by simp [bgOwnT]))
    cases Option.some.inj (q1.symm.trans hfd)
    cases Option.some.inj (q2.symm.trans (State.methodFound?_of_named Y0.fill0 (by decide)))
    cases Option.some.inj (q3.symm.trans Y0.fill0)
    rw [Launch.admits_selectMethod XX.admits]; exact q4
  have selF : selectMethod e.platform s.vm P1.m.cls T.fill = .method T.fill := by
    obtain ⟨c2, r2, m2, q1, q2, q3, q4, -⟩ := Cond.selects_spec (h5 (.selects X Bundle.tFill Bundle.tFill) (by simp [bgOwnT]))
    cases Option.some.inj (q1.symm.trans hfd)
    cases Option.some.inj (q2.symm.trans (State.methodFound?_of_named Y0.fill (by decide)))
    cases Option.some.inj (q3.symm.trans Y0.fill)
    rw [Launch.admits_selectMethod XX.admits]; exact q4
  obtain ⟨cS0, hcS0, hiss⟩ := Y0.statics
  obtain ⟨u0, hu0⟩ := Cond.staticRefV Y0.unassigned LL.unassignedStatic LL.statics hcS0 hiss (h5 bgUn (by simp [bgOwnT]))
  obtain ⟨sen, hsen⟩ := Cond.staticRefV Y0.sentinel LL.sentinelStatic LL.statics hcS0 hiss (h5 bgSe (by simp [bgOwnT]))
  obtain ⟨ci198, i198, fB, hk198, hg198, ha198, hsB, -, hnB, htB, hffB⟩ := Cond.ownField (t := .object "java/lang/Object") Y0.found LL.cls (by decide +kernel) (h5 (.fieldLink Bundle.tN 198 Bundle.tN "backtrace" "Ljava/lang/Object;") (by simp [bgOwnT])) (h5 (.lays Bundle.tN Bundle.tN "backtrace" "Ljava/lang/Object;") (by simp [bgOwnT])) e.platform hpl
  obtain ⟨cS, hcS', heS, -, hkeep⟩ := XX.same.2.2.2.2.2 T.aS cS0 hcS0
  have hknS : cS.vm ≠ .unknown := by
    rw [heS]; intro hu
    rw [show cS0.vm = .unknown from hu] at hiss
    cases hiss
  have hneS : T.aS ≠ a := Nat.ne_of_lt (Nat.lt_of_lt_of_le (Array.getElem?_eq_some_iff.mp hcS0).1 hnew)
  obtain ⟨iM, hffM⟩ := Y0.msg
  obtain ⟨tyC, dC, hdC, hdnC⟩ := Cond.laysAt hfd hk Y0.cause (h5 (.lays X Bundle.tN "cause" "Ljava/lang/Throwable;") (by simp [bgOwnT]))
  obtain ⟨tyS, dS, hdS, hdnS⟩ := Cond.laysAt hfd hk Y0.stack (h5 (.lays X Bundle.tN "stackTrace" Bundle.steD) (by simp [bgOwnT]))
  obtain ⟨tyP, dP, hdP, hdnP⟩ := Cond.laysAt hfd hk Y0.supp (h5 (.lays X Bundle.tN "suppressedExceptions" Bundle.listD) (by simp [bgOwnT]))
  obtain ⟨tyM, dM, hdM, hdnM⟩ := Cond.laysAt hfd hk hffM (h5 (.lays X Bundle.tN "detailMessage" "Ljava/lang/String;") (by simp [bgOwnT]))
  obtain ⟨tyB, dB, hdB, hdnB⟩ := Cond.laysAt hfd hk hffB (h5 (.lays X Bundle.tN "backtrace" "Ljava/lang/Object;") (by simp [bgOwnT]))
  have bC := Cond.laysApart hdB hdC hdnB hdnC (by rw [hnB, Y0.causeName]; decide)
  have bS := Cond.laysApart hdB hdS hdnB hdnS (by rw [hnB, Y0.stackName]; decide)
  have bP := Cond.laysApart hdB hdP hdnB hdnP (by rw [hnB, Y0.suppName]; decide)
  have hskip : SkipFacts T e.platform s (fun u => u) u0 ((preparedCellV T.toThrowableT (freshCell P1.m.cls kX) a u0 sen).withEntry V.cur) :=
    ⟨{ ci198 := ci198, i198 := i198, fBack := fB }, ⟨hk198, hg198, ha198, hsB⟩, by
      have := fresh_default (c := P1.m.cls) tyB
      rw [htB] at this
      simpa [preparedCellV, Cell.setSlot, Cell.withEntry, Array.getElem?_setIfInBounds, bC, bS, bP, bC.symm, bS.symm, bP.symm, defaultValue] using this, fun _ _ => rfl⟩
  obtain ⟨tm, methC, cdC, kC, vm₁, hnC, -, -, -, -, -, -, -, hW₁, st1⟩ := Steps.initColdS (tb := p.tables) (e := e) (below := below) (s := s) (U := V) XX.here hexec XX.warmed hpl hown (t := Bundle.initS X) rfl rfl (Bundle.fit_spec hX).2
    (h5 (.methodLink own ic (Bundle.initS X)) (by simp [bgOwnT])) (h3 (.instanceMethod (Bundle.initS X)) (by simp [Bundle.passSAtoms])) (bytes := bs) (maxL := 2) (h3 (.code (Bundle.initS X) bs 2 none) (by simp [Bundle.passSAtoms]))
    (f := g) hg (a := a) (msg := msg) (rest := .ref a :: rest) hstack hd6
  cases Option.some.inj (hnC.symm.trans hP1)
  have X₁ := XX.noted hW₁
  obtain ⟨vm₂, X₂, st2⟩ := X₁.ctorMessageOffV hexec (g := { g with stack := .ref a :: rest }) hg hsize T LL Z LZ M LM (P1 :: P2 :: Ps)
    (fun P hP => by rcases List.mem_cons.mp hP with rfl | hP; exact L1; rcases List.mem_cons.mp hP with rfl | hP; exact L2; exact hPs P hP) ⟨hsup, hl2, hls⟩ (u0 := u0) (sen := sen) (self := a) hmsg (cell := freshCell P1.m.cls kX) (cellS := cS)
    hcell (fun _ => by simp) (by simp) rfl rfl sel0 selF hcS' hneS hknS (by rw [hkeep _ (fun q => by cases q)]; exact hu0) (by rw [hkeep _ (fun q => by cases q)]; exact hsen)
    (Takes.of_laid hk hord tyC (by rw [Y0.causeType]; rfl)) (Takes.of_laid hk hord tyS (by rw [Y0.stackType]; exact fits_refV_array _ u0)) (Takes.of_laid hk hord tyP (by rw [Y0.suppType]; exact fits_refV_object _ sen))
    (Takes.of_laid hk hord tyM (by rw [Y0.msgType]; exact fits_refV_object _ ⟨msg, hmsg⟩)) Y0.objLocals hskip htr [] hd6
    (by simp only [List.length_cons, hlen]; omega) (by simp only [List.length_cons, hlen]; omega)
  obtain ⟨hwalk, hrun, hended, hWU, hsame⟩ := X₂.athrowLeaves hexec (g := { g with stack := .ref a :: rest, pc := g.pc + 3 }) hg hlocked hentered hout (a := a) (rest := rest) rfl hd9
  have hlt : a < ((V.setVm vm₁).setVm vm₂).heap.size := (Array.getElem?_eq_some_iff.mp hcell).1
  have hU := heapAt_setCell_self (s := (V.setVm vm₁).setVm vm₂) (plainBareV T.toThrowableT (freshCell P1.m.cls kX) a u0 sen msg) hlt
  refine ⟨_, st1 _ (fun acts => ?_), hrun, hended, hWU, hsame.weaken (fun y hy hlt' => ?_) (Nat.le_refl _) (Nat.le_refl _), _, hU, hfd, rfl⟩
  · rw [doInvoke_state]
    exact st2 _ hwalk
  · exfalso
    have hb : y.base = a := by
      simp only [List.nil_append, List.mem_cons, List.not_mem_nil, or_false] at hy
      rcases hy with rfl | rfl | rfl | rfl | rfl <;> rfl
    rw [hb] at hlt'
    exact Nat.not_lt.mpr hnew hlt'
section BGN2
variable {K : bgK} {own : String} {cc : ByteArray} {nL : Nat} {rt : Option FieldType} {bb pu : Bool} {n z c0 z0 : Nat} {w : bgW} {L : List (Option bgV)} {post : bgRes → bgW → Prop}
set_option maxHeartbeats 1000000 in
theorem bg_throwN (C : bgCx K own cc nL rt) {X : Nat} {names : List String} {Y : String} {ix : Nat} {bs : ByteArray} {idx sidx ic p0 p1 p2 p3 p4 p5 : Nat} {tx : String} (hex : bgE0 K) (hbb : bb = true)
    (hd0 : bgd cc p0 (.new idx) 3 p1) (hd1 : bgd cc p1 .dup 1 p2) (hd2 : bgd cc p2 (.ldc sidx) 2 p3) (hd3 : bgd cc p3 (.invokespecial ic) 3 p4) (hd4 : bgd cc p4 .athrow 1 p5)
    (hcl : Cond.classLink own idx (bgXn X) ∈ bgTs) (hins : Cond.instantiable (bgXn X) 6 ∈ bgTs) (hini : Cond.initialized (bgXn X) ∈ bgTs) (hsr : Cond.stringRef own sidx tx ∈ lw_tbl) (hat : bgAtL (bgOwn own ic (bgXn X) Y ix bs names)) (i0 : decode bs 0 = .ok (.aload_n 0, 1)) (i1 : decode bs 1 = .ok (.aload_n 1, 1)) (i2 : decode bs 2 = .ok (.invokespecial ix, 3)) (i5 : decode bs 5 = .ok (.return_, 1))
    (hfit : Bundle.fit (bgXn X) = true) (hfitY : Bundle.fit Y = true) (hnames : ∀ n ∈ names, Bundle.fit n = true) (hR : names.length + 4 < (kR K).frames) (hRl : 13 * (names.length + 2) + 43 ≤ (kR K).locals) (hL : L.length = nL)
    (hc1 : n + 1 ≤ (kR K).cells) (hs1 : z + 6 ≤ (kR K).slots) (hmc : n + 1 ≤ 1) (hms : z + 6 ≤ 6) (hp : post (.inr X) w) : bgX K bb n z (bgQ K pu c0 z0 post) w p0 L [] := by
  obtain ⟨e0, rfl⟩ := hd0
  obtain ⟨e1, rfl⟩ := hd1
  obtain ⟨e2, rfl⟩ := hd2
  obtain ⟨e3, rfl⟩ := hd3
  obtain ⟨e4, -⟩ := hd4
  intro H locs ls hlb hP hS hlo
  have hl0 := hlb hbb
  subst hl0
  obtain ⟨hW0, hz0, hq0⟩ := C.hs
  obtain ⟨w0, hP0⟩ := hex.2
  obtain ⟨q, hq⟩ := bg_strRef (C.ok.2.2.2.1 _ hsr) hW0
  refine W.newc (C := bgXn X) (n := 6) C.hx C.hb C.hown (C.hts _ hcl) (C.hts _ hins) (C.hts _ hini) (g := F0 (kM K) p0 ls []) rfl e0 hc1 hs1 (fun cX kX f1 f2 f3 f4 => ?_)
  refine lv_dup (pc := p0 + 3) (rest := []) (va := .ref H.size) C.hx C.hb e1 rfl ?_
  refine va_ldcS C.hx C.hb C.hown hq e2 ?_
  intro T hT XX
  have hsz : ls.size = (kC K).maxLocals := by rw [C.hml]; exact hlo.1.trans hL
  have htr : (kE K).platform.stackTraces = false := by
    rw [XX.admits.platform]
    exact C.ok.1
  obtain ⟨U, hst, hrun, hend, hW, hsame, ce, hce, hoc, hvm0⟩ := bg_ctorN XX C.hx htr C.hown hfit hfitY hnames i0 i1 i2 i5 (bg_atomsL C hat) f1 f2 (a := H.size) (by rw [hT]; simp) hS.1 (msg := .ref q) rfl (g := F0 (kM K) (p0 + 3 + 1 + 2) ls [.ref q, .ref H.size, .ref H.size]) rfl hsz rfl rfl (rest := []) rfl (by rw [C.hb]; exact e3) (by rw [C.hb]; exact e4) (fun x hx => by
    rw [Array.isEmpty_iff.mp hex.1] at hx
    cases hx) hR (by show 2 * 0 + 1 + (13 * (names.length + 2) + 42) ≤ _; omega) C.hlk
  have hk1 : ∀ (a : Nat) (cell : Cell), (kS K).heap[a]? = some cell → U.heap[a]? = some cell := fun a cell h => bg_keep hsame h
  have hk2 : ∀ (a : Nat) (cell : Cell), (kS K).heap[a]? = some cell → T.heap[a]? = some cell := fun a cell h => bg_keep XX.same h
  refine ⟨U, hst, .threw H.size, hrun, hend, .inr X, w, ⟨H.size, ce, rfl, hce, hoc, hvm0⟩, hp, ?_, ?_, [], fun _ => rfl, ⟨hW, hsame.mono hmc hms⟩, fun q hq => by cases hq⟩
  · refine hP.kept (fun k x hx => ?_)
    obtain ⟨hk, rfl⟩ := bgL_get hx
    have hlt := (hP0 k _ (bgL_at hk)).lt
    have hlt2 : kAd K k < (kS K).heap.size := hlt
    have hsome : (kS K).heap[kAd K k]? = some (kS K).heap[kAd K k] := Array.getElem?_eq_getElem hlt2
    have h1 := hk1 _ _ hsome
    have h2 := hk2 _ _ hsome
    rw [hT, Array.getElem?_push, if_neg (by have := hS.1; omega)] at h2
    show U.heap[kAd K k]? = H[kAd K k]?
    rw [h1, h2]
  · refine ⟨hsame.2.1, fun a ha _ => ?_⟩
    have hsome : (kS K).heap[a]? = some (kS K).heap[a] := Array.getElem?_eq_getElem ha
    rw [hk1 _ _ hsome, hsome]
end BGN2
