/-! ONE WORLD: all objects that the two constructors make, by number; every int of it by its place -/
abbrev bgV : Type := Int ⊕ (Nat ⊕ Int)
abbrev bi (v : Int) : bgV := Sum.inl v
abbrev br (k : Nat) : bgV := Sum.inr (Sum.inl k)
abbrev bl (v : Int) : bgV := Sum.inr (Sum.inr v)
abbrev bgW : Type := Nat → Int → Int
def bgU (w : bgW) (k : Nat) (i v : Int) : bgW := fun k' i' => if k' = k ∧ i' = i then v else w k' i'
def bgC (ad : Nat → Nat) (v : bgV) : Value := match v with
  | .inl x => .int (Int32.ofInt x)
  | .inr (.inl k) => .ref (ad k)
  | .inr (.inr x) => .long (Int64.ofInt x)
def bgVal (ad : Nat → Nat) (w : bgW) (k i : Nat) : Value := match bgRef k i with
  | some j => .ref (ad j)
  | none => .int (Int32.ofInt (w k (i : Int)))
def bgE (cA : Nat → ClassId) (ad : Nat → Nat) (w : bgW) (k : Nat) : va_E := match bgKinds[k]? with
  | some (.inl ci) => .inr (ci, (List.range (bgNs ci)).map (bgVal ad w k))
  | some (.inr (n, t)) => if t = 2 then .inl (cA 2, n, .inr (.inl (fun j => Int64.ofInt (w k (j : Int))))) else .inl (cA t, n, .inl (fun j => Int32.ofInt (w k (j : Int))))
  | none => .inr (0, [])
section BG1
variable {cA : Nat → ClassId} {ad : Nat → Nat} {w w' : bgW} {k n t ci : Nat}
theorem bgE_obj (hk : bgKinds[k]? = some (.inl ci)) : bgE cA ad w k = .inr (ci, (List.range (bgNs ci)).map (bgVal ad w k)) := by
  unfold bgE; rw [hk]
theorem bgE_arr (hk : bgKinds[k]? = some (.inr (n, t))) (ht : t ≠ 2) : bgE cA ad w k = .inl (cA t, n, .inl (fun j => Int32.ofInt (w k (j : Int)))) := by
  unfold bgE; rw [hk]; exact if_neg ht
theorem bgE_lon (hk : bgKinds[k]? = some (.inr (n, 2))) : bgE cA ad w k = .inl (cA 2, n, .inr (.inl (fun j => Int64.ofInt (w k (j : Int))))) := by
  unfold bgE; rw [hk]; exact if_pos rfl
theorem bgE_same (h : ∀ i, w' k i = w k i) : bgE cA ad w' k = bgE cA ad w k := by
  have e : w' k = w k := funext h
  have hv : bgVal ad w' k = bgVal ad w k := by
    funext i
    unfold bgVal
    rw [e]
  unfold bgE
  rw [hv, e]
end BG1
def bgL (cA : Nat → ClassId) (ad : Nat → Nat) (w : bgW) : va_W := (List.range bgNO).map (fun k => (ad k, bgE cA ad w k))
section BG2
variable {cA : Nat → ClassId} {ad : Nat → Nat} {w w' : bgW} {k : Nat} {A : Nat → Prop}
theorem bgL_at (h : k < bgNO) : (bgL cA ad w)[k]? = some (ad k, bgE cA ad w k) := by
  unfold bgL
  rw [List.getElem?_map, List.getElem?_range h]
  rfl
theorem bgL_len : (bgL cA ad w).length = bgNO := by simp [bgL]
theorem bgL_get {q : Nat × va_E} (h : (bgL cA ad w)[k]? = some q) : k < bgNO ∧ q = (ad k, bgE cA ad w k) := by
  have hk : k < bgNO := by
    have := (List.getElem?_eq_some_iff.mp h).1
    rwa [bgL_len] at this
  refine ⟨hk, ?_⟩
  rw [bgL_at hk] at h
  exact (Option.some.inj h).symm
theorem bgL_set (hk : k < bgNO) (h : ∀ k' i, k' ≠ k → w' k' i = w k' i) : (bgL cA ad w).set k (ad k, bgE cA ad w' k) = bgL cA ad w' := by
  apply List.ext_getElem?
  intro j
  by_cases hj : j = k
  · subst hj
    rw [List.getElem?_set_self (by rw [bgL_len]; exact hk), bgL_at hk]
  · rw [List.getElem?_set_ne (fun q => hj q.symm)]
    by_cases hl : j < bgNO
    · rw [bgL_at hl, bgL_at hl, bgE_same (w := w) (w' := w') (fun i => h j i hj)]
    · rw [List.getElem?_eq_none (by rw [bgL_len]; omega), List.getElem?_eq_none (by rw [bgL_len]; omega)]
/-- the addresses are apart, and of a kind -/
def bgDs (A : Nat → Prop) (ad : Nat → Nat) : Prop := (∀ i j, i < bgNO → j < bgNO → ad i = ad j → i = j) ∧ ∀ k, k < bgNO → A (ad k)
theorem bgDs.to (h : bgDs A ad) : va_D A (bgL cA ad w) := by
  refine ⟨fun i j p q hi hj e => ?_, fun k q hk => ?_⟩
  · obtain ⟨h1, rfl⟩ := bgL_get hi
    obtain ⟨h2, rfl⟩ := bgL_get hj
    exact h.1 i j h1 h2 e
  · obtain ⟨h1, rfl⟩ := bgL_get hk
    exact h.2 k h1
end BG2
theorem bgU_ne {w : bgW} {k k' : Nat} {i v : Int} (j : Int) (h : k' ≠ k) : bgU w k i v k' j = w k' j := by
  unfold bgU
  rw [if_neg (fun q => h q.1)]
theorem bgU_nei {w : bgW} {k k' : Nat} {i v j : Int} (h : j ≠ i) : bgU w k i v k' j = w k' j := by
  unfold bgU
  rw [if_neg (fun q => h q.2)]
theorem bgU_eq {w : bgW} {k : Nat} {i v : Int} : bgU w k i v k i = v := by
  unfold bgU
  rw [if_pos ⟨rfl, rfl⟩]
/-! the context of a method's walk: what is the same in the whole run, then what is the walk's own -/
abbrev bgGl : Type := Launch × (Nat → Nat) × (Nat → ClassId) × va_G × State
abbrev bgK : Type := bgGl × (Program × Env × Room × State × MethodId × Array Value × List Frame × Method × Code)
abbrev kL (K : bgK) : Launch := K.1.1
abbrev kAd (K : bgK) : Nat → Nat := K.1.2.1
abbrev kCA (K : bgK) : Nat → ClassId := K.1.2.2.1
abbrev kD (K : bgK) : va_G := K.1.2.2.2.1
abbrev kZ (K : bgK) : State := K.1.2.2.2.2
abbrev kP (K : bgK) : Program := K.2.1
abbrev kE (K : bgK) : Env := K.2.2.1
abbrev kR (K : bgK) : Room := K.2.2.2.1
abbrev kS (K : bgK) : State := K.2.2.2.2.1
abbrev kM (K : bgK) : MethodId := K.2.2.2.2.2.1
abbrev kA (K : bgK) : Array Value := K.2.2.2.2.2.2.1
abbrev kB (K : bgK) : List Frame := K.2.2.2.2.2.2.2.1
abbrev kMe (K : bgK) : Method := K.2.2.2.2.2.2.2.2.1
abbrev kC (K : bgK) : Code := K.2.2.2.2.2.2.2.2.2
abbrev bgA (G : bgGl) : Nat → Prop := fun q => G.2.2.2.2.heap.size ≤ q
abbrev bgT (cA : Nat → ClassId) : List (ClassId × FieldType) := [(cA 0, .int), (cA 1, .boolean), (cA 2, .long)]
/-! locals by their places -/
def bgLoc (ad : Nat → Nat) (ls : Array Slot) (L : List (Option bgV)) : Prop := ls.size = L.length ∧ lv_wf ls ∧ ∀ (i : Nat) (v : bgV), L[i]? = some (some v) → ls[i]? = some (.val (bgC ad v)) ∧ (bgC ad v).category = 1
def bgAs (ad : Nat → Nat) (L : List (Option bgV)) : List (Nat × Value) := (List.range L.length).filterMap (fun i => match L[i]? with
  | some (some v) => some (i, bgC ad v)
  | _ => none)
theorem bgAs_mem {ad : Nat → Nat} {L : List (Option bgV)} {q : Nat × Value} : q ∈ bgAs ad L ↔ ∃ v, L[q.1]? = some (some v) ∧ q.2 = bgC ad v := by
  constructor
  · intro h
    obtain ⟨i, hi, he⟩ := List.mem_filterMap.mp h
    cases hL : L[i]? with
    | none => exact absurd he (by simp [hL])
    | some o =>
      cases o with
      | none => exact absurd he (by simp [hL])
      | some v =>
        have he' : some (i, bgC ad v) = some q := by simpa [hL] using he
        cases he'
        exact ⟨v, hL, rfl⟩
  · rintro ⟨v, h1, h2⟩
    refine List.mem_filterMap.mpr ⟨q.1, List.mem_range.mpr (List.getElem?_eq_some_iff.mp h1).1, ?_⟩
    obtain ⟨a, b⟩ := q
    dsimp only at h1 h2 ⊢
    rw [h1, h2]
theorem bgLoc.has {ad : Nat → Nat} {ls : Array Slot} {L : List (Option bgV)} (h : bgLoc ad ls L) : lv_has ls L.length (bgAs ad L) := by
  refine ⟨h.1, h.2.1, fun q hq => ?_⟩
  obtain ⟨v, h1, h2⟩ := bgAs_mem.mp hq
  rw [h2]
  exact (h.2.2 q.1 v h1).1
theorem bgLoc.set {ad : Nat → Nat} {ls ls' : Array Slot} {L : List (Option bgV)} (h : bgLoc ad ls L) {i : Nat} (hi : i < L.length) {v : bgV} (hc : (bgC ad v).category = 1)
    (h' : lv_has ls' L.length ((i, bgC ad v) :: (bgAs ad L).filter (fun q => !(q.1 == i) && !(q.1 + 1 == i && q.2.category == 2)))) : bgLoc ad ls' (L.set i (some v)) := by
  refine ⟨by rw [List.length_set]; exact h'.1, h'.2.1, fun j u hu => ?_⟩
  by_cases hj : j = i
  · subst hj
    rw [List.getElem?_set_self hi] at hu
    cases hu
    exact ⟨h'.2.2 _ List.mem_cons_self, hc⟩
  · rw [List.getElem?_set_ne (fun q => hj q.symm)] at hu
    obtain ⟨a, b⟩ := h.2.2 j u hu
    refine ⟨h'.2.2 (j, bgC ad u) (List.mem_cons_of_mem _ (List.mem_filter.mpr ⟨bgAs_mem.mpr ⟨u, hu, rfl⟩, ?_⟩)), b⟩
    simp [hj, b]
theorem bg_args_mem : ∀ (vs : List Value) (i j : Nat) (v : Value), (∀ u ∈ vs, u.category = 1) → vs[j]? = some v → (i + j, v) ∈ lv_args i vs
  | [], _, _, _, _, h => by simp at h
  | u :: vs, i, 0, v, hc, h => by
    have e : u = v := by simpa using h
    subst e
    exact List.mem_cons_self
  | u :: vs, i, j + 1, v, hc, h => by
    have h1 : ¬ u.category = 2 := by
      have := hc u List.mem_cons_self
      omega
    have h2 := bg_args_mem vs (i + 1) j v (fun x hx => hc x (List.mem_cons_of_mem _ hx)) (by simpa using h)
    show (i + (j + 1), v) ∈ (i, u) :: lv_args (if u.category = 2 then i + 2 else i + 1) vs
    rw [if_neg h1, show i + (j + 1) = i + 1 + j by omega]
    exact List.mem_cons_of_mem _ h2
theorem bg_sl : ∀ (vs : List Value), (∀ u ∈ vs, u.category = 1) → (lg_sl vs).length = vs.length
  | [], _ => rfl
  | u :: vs, hc => by
    have h1 : ¬ u.category = 2 := by
      have := hc u List.mem_cons_self
      omega
    have ih := bg_sl vs (fun x hx => hc x (List.mem_cons_of_mem _ hx))
    have e : lg_sl (u :: vs) = [Slot.val u] ++ lg_sl vs := by simp [lg_sl, h1]
    rw [e, List.length_append, ih, List.length_cons, List.length_cons, List.length_nil]
    omega
theorem bgLoc.entry {ad : Nat → Nat} (av : List bgV) (n : Nat) (hc : ∀ v ∈ av, (bgC ad v).category = 1) (hn : av.length ≤ n) :
    bgLoc ad ((lg_sl (av.map (bgC ad)) ++ List.replicate (n - (lg_sl (av.map (bgC ad))).length) Slot.unset).toArray) (av.map some ++ List.replicate (n - av.length) none) := by
  have hc' : ∀ u ∈ av.map (bgC ad), u.category = 1 := by
    intro u hu
    obtain ⟨v, hv, rfl⟩ := List.mem_map.mp hu
    exact hc v hv
  have hb := lv_entry (av.map (bgC ad)) (n := n) (by rw [bg_sl _ hc', List.length_map]; exact hn)
  refine ⟨?_, hb.2.1, fun i v hv => ?_⟩
  · rw [hb.1, List.length_append, List.length_map, List.length_replicate]
    omega
  · rcases Nat.lt_or_ge i av.length with hi | hi
    · rw [List.getElem?_append_left (by rw [List.length_map]; exact hi), List.getElem?_map] at hv
      cases ha : av[i]? with
      | none => rw [ha] at hv; cases hv
      | some u =>
        rw [ha] at hv
        cases hv
        have hm := bg_args_mem (av.map (bgC ad)) 0 i (bgC ad v) hc' (by rw [List.getElem?_map, ha]; rfl)
        have h3 := hb.2.2 _ hm
        rw [show (0 + i, bgC ad v).1 = i by simp] at h3
        exact ⟨h3, hc v (List.mem_of_getElem? ha)⟩
    · rw [List.getElem?_append_right (by rw [List.length_map]; exact hi)] at hv
      have := List.eq_of_mem_replicate (List.mem_of_getElem? hv)
      cases this
/-! words of the tables, as they hold later in the run -/
def bgOkW (w : Cond) : Bool := (w.onTables && w.keeps) || match w with
  | .arrayClass _ => true
  | .methodLinkNest .. => true
  | .declares _ => true
  | .castable .. => true
  | _ => false
theorem bg_word {w : Cond} (hk : bgOkW w = true) {A A' : Array Value} {s U : State} (hW : s.WarmedH U.vm) (h : w.before A s = true) : w.before A' U = true := by
  by_cases hg : (w.onTables && w.keeps) = true
  · exact word_at hW (Or.inl hg) h
  · have hk2 := hk
    unfold bgOkW at hk2
    rw [Bool.not_eq_true] at hg
    rw [hg, Bool.false_or] at hk2
    cases w with
    | arrayClass ty => exact word_at hW (Or.inr ⟨ty, rfl⟩) h
    | methodLinkNest a i x hh => exact va_Nw.use rfl (va_Nw.warmM hW (va_Nw.of rfl h))
    | declares x => exact va_Nw.use rfl (va_Nw.warmD hW (va_Nw.of rfl h))
    | castable a b => exact va_Nw.use rfl (va_Nw.warmC hW (va_Nw.of rfl h))
    | _ => cases hk2
def bgTs : List Cond := lw_tbl.filter bgOkW
theorem bg_tw {w : Cond} (n : Nat) (h : lw_tbl[n]? = some w) (hk : bgOkW w = true) : w ∈ bgTs := List.mem_filter.mpr ⟨List.mem_of_getElem? h, hk⟩
/-- a static's words, as they hold later -/
theorem bg_laysStatic {A A' : Array Value} {s U : State} {o n d : String} (hW : s.WarmedH U.vm) (hh : ∀ q, q < s.heap.size → U.heap[q]? = s.heap[q]?) (h : (Cond.laysStatic o n d).before A s = true) : (Cond.laysStatic o n d).before A' U = true := by
  obtain ⟨c, k, i, f, a, cell, h1, h2, h3, h4, h5, h6, h7, h8, h9⟩ := Cond.laysStatic_spec h
  obtain ⟨k', hi', he⟩ := State.fieldFound?_setVm hW.alike h2
  have hi2 : U.fieldFound? o n d = some (c, k', i, f) := hi'
  have hc2 : U.vm.findClass o = some c := by rw [hW.alike.findClass]; exact h1
  have hs2 : k'.statics = some a := by rw [he]; exact h4
  have ht2 : k'.staticTypes[f.slot]? = some f.type := by rw [he]; exact h9
  have hc5 : U.heap[a]? = some cell := by rw [hh a (Array.getElem?_eq_some_iff.mp h5).1]; exact h5
  simp [Cond.before, Cond.holds, Cond.value, hi2, hc2, hs2, hc5, h3, h6, h7, h8, ht2]
theorem bg_isRef {A A' : Array Value} {s U : State} {o n d : String} (hW : s.WarmedH U.vm) (hh : ∀ q, q < s.heap.size → U.heap[q]? = s.heap[q]?) (hl : (Cond.laysStatic o n d).before A s = true) (h : (Cond.isRef (.static o n d)).before A s = true) : (Cond.isRef (.static o n d)).before A' U = true := by
  obtain ⟨c, k, i, f, a, cell, h1, h2, h3, h4, h5, h6, h7, h8, h9⟩ := Cond.laysStatic_spec hl
  cases hv : (Term.static o n d).eval A s none [] s with
  | none => simp [Cond.before, Cond.holds, Cond.value, hv] at h
  | some v =>
    obtain ⟨-, a', cell', ha', hcell', -, hslot⟩ := Term.static_spec h2 hv
    cases h4.symm.trans ha'
    cases h5.symm.trans hcell'
    obtain ⟨k', hi', he⟩ := State.fieldFound?_setVm hW.alike h2
    have hi2 : U.fieldFound? o n d = some (c, k', i, f) := hi'
    have hs2 : k'.statics = some a := by rw [he]; exact h4
    have hc5 : U.heap[a]? = some cell := by rw [hh a (Array.getElem?_eq_some_iff.mp h5).1]; exact h5
    have hv2 : (Term.static o n d).eval A' U none [] U = some v := by
      simp [Term.eval, State.fieldNamed?, hi2, h3, hs2, hc5, h6, hslot]
    simp only [Cond.before, Cond.holds, Cond.value, hv, hv2] at h ⊢
    exact h
/-! what a state of the run is -/
/-- what every walk knows of the run before it: the tables' state has been warmed alone, what lay there at the law's entry lies there still -/
def bgB (G : bgGl) (U : State) : Prop := G.2.2.2.2.WarmedH U.vm ∧ G.2.2.2.2.heap.size ≤ U.heap.size ∧ ∀ q, q < G.2.2.2.2.heap.size → U.heap[q]? = G.2.2.2.2.heap[q]?
def bgS (G : bgGl) (w : bgW) (U : State) : Prop := va_P G.2.2.2.1 bgCl (bgL G.2.2.1 G.2.1 w) U.heap ∧ G.2.2.2.2.WarmedH U.vm ∧ G.2.2.2.2.heap.size ≤ U.heap.size ∧ ∀ q, q < G.2.2.2.2.heap.size → U.heap[q]? = G.2.2.2.2.heap[q]?
abbrev bgUn : Cond := .isRef (.static "java/lang/Throwable" "UNASSIGNED_STACK" "[Ljava/lang/StackTraceElement;")
abbrev bgSe : Cond := .isRef (.static "java/lang/Throwable" "SUPPRESSED_SENTINEL" "Ljava/util/List;")
/-- what the run's start gives -/
def bgOk (G : bgGl) : Prop := G.1.stackTraces = false ∧ bgDs (bgA G) G.2.1 ∧ va_K G.2.2.2.1 bgCl (bgT G.2.2.1) G.2.2.2.2 ∧ (∀ w ∈ lw_tbl, w.before #[] G.2.2.2.2 = true) ∧ bgUn.before #[] G.2.2.2.2 = true ∧ bgSe.before #[] G.2.2.2.2 = true ∧ ∀ q ∈ bgNC, va_Nc q.1 q.2 G.2.2.2.2
theorem bgS.calling {G : bgGl} {w : bgW} {U : State} {g : JFrame} {mk : MethodId} {a : Array Value} (h : bgS G w U) : bgS G w (U.calling g mk a) := h
def bgCx (K : bgK) (own : String) (cc : ByteArray) (nL : Nat) (rt : Option FieldType) : Prop :=
  (kP K).tables.exec = Jvm.exec ∧ (kC K).code = cc ∧ (kC K).maxLocals = nL ∧ (kS K).vm.findClass own = some (kM K).cls ∧ (kMe K).sig.returnType = rt ∧ (kMe K).locks = false ∧ bgOk K.1 ∧ bgB K.1 (kS K) ∧ ∀ w ∈ bgTs, w.before (kA K) (kS K) = true
section BG3
variable {K : bgK} {own : String} {cc : ByteArray} {nL : Nat} {rt : Option FieldType}
theorem bgCx.hx (C : bgCx K own cc nL rt) : (kP K).tables.exec = Jvm.exec := C.1
theorem bgCx.hb (C : bgCx K own cc nL rt) : (kC K).code = cc := C.2.1
theorem bgCx.hml (C : bgCx K own cc nL rt) : (kC K).maxLocals = nL := C.2.2.1
theorem bgCx.hown (C : bgCx K own cc nL rt) : (kS K).vm.findClass own = some (kM K).cls := C.2.2.2.1
theorem bgCx.hr (C : bgCx K own cc nL rt) : (kMe K).sig.returnType = rt := C.2.2.2.2.1
theorem bgCx.hlk (C : bgCx K own cc nL rt) : (kMe K).locks = false := C.2.2.2.2.2.1
theorem bgCx.ok (C : bgCx K own cc nL rt) : bgOk K.1 := C.2.2.2.2.2.2.1
theorem bgCx.hs (C : bgCx K own cc nL rt) : bgB K.1 (kS K) := C.2.2.2.2.2.2.2.1
theorem bgCx.hts (C : bgCx K own cc nL rt) : ∀ w ∈ bgTs, w.before (kA K) (kS K) = true := C.2.2.2.2.2.2.2.2
theorem bgCx.hK (C : bgCx K own cc nL rt) : va_K (kD K) bgCl (bgT (kCA K)) (kS K) := by
  obtain ⟨hW, -⟩ := C.hs
  exact va_K.moved hW.alike C.ok.2.2.1
theorem bgCx.hD (C : bgCx K own cc nL rt) {w : bgW} : va_D (bgA K.1) (bgL (kCA K) (kAd K) w) := C.ok.2.1.to
end BG3
/-! THE JUDGEMENT ('b': nothing that was there at the method's start has been written): at pc, with these locals and this stack, in the world w, the machine comes to Q -/
def bgX (K : bgK) (b : Bool) (n z : Nat) (Q : State → Prop) (w : bgW) (pc : Nat) (L : List (Option bgV)) (st : List bgV) : Prop :=
  ∀ (H : Heap) (locs : List Loc) (ls : Array Slot), (b = true → locs = []) → va_P (kD K) bgCl (bgL (kCA K) (kAd K) w) H → va_S (bgA K.1) (kS K).heap H locs → bgLoc (kAd K) ls L →
    W (kP K) (kL K) (kE K) (kR K) (kS K) (kM K) (kA K) (kB K) (kMe K) (kC K) H locs n z Q (F0 (kM K) pc ls (st.map (bgC (kAd K))))
abbrev bgd (cc : ByteArray) (pc : Nat) (i : Instr) (n pc' : Nat) : Prop := decode cc pc = .ok (i, n) ∧ pc + n = pc'
abbrev bgr (a : Int) : Prop := -2147483648 ≤ a ∧ a ≤ 2147483647
theorem bgr_i {a : Int} (h : bgr a) : (Int32.ofInt a).toInt = a := Int32.toInt_ofInt_of_le (by omega) (by omega)
theorem bgr_eq {a b : Int} (ha : bgr a) (hb : bgr b) : Int32.ofInt a = Int32.ofInt b ↔ a = b := by
  rw [← Int32.toInt_inj, bgr_i ha, bgr_i hb]
theorem bgr_lt {a b : Int} (ha : bgr a) (hb : bgr b) : Int32.ofInt a < Int32.ofInt b ↔ a < b := by
  rw [Int32.lt_iff_toInt_lt, bgr_i ha, bgr_i hb]
theorem bgr_le {a b : Int} (ha : bgr a) (hb : bgr b) : Int32.ofInt a ≤ Int32.ofInt b ↔ a ≤ b := by
  rw [Int32.le_iff_toInt_le, bgr_i ha, bgr_i hb]
theorem bgr_0 : bgr 0 := by omega
theorem bgr_z : Int32.ofInt 0 = 0 := rfl
theorem bgr_nat {a : Int} (h0 : 0 ≤ a) (h : a ≤ 2147483647) : (Int32.ofInt a).toNatClampNeg = a.toNat := by
  show (Int32.ofInt a).toInt.toNat = a.toNat
  rw [bgr_i ⟨by omega, h⟩]
theorem bgr_in {a : Int} {n : Nat} (h0 : 0 ≤ a) (h1 : a < n) (hn : n ≤ 100000) : vp_in (Int32.ofInt a) n := by
  intro q
  rcases q with q | q
  · rw [← bgr_z, bgr_lt ⟨by omega, by omega⟩ bgr_0] at q
    omega
  · rw [bgr_nat h0 (by omega)] at q
    omega
section BGR
variable {K : bgK} {own : String} {cc : ByteArray} {nL : Nat} {rt : Option FieldType} {bb : Bool} {n z : Nat} {Q : State → Prop} {w : bgW} {pc pc' : Nat} {L : List (Option bgV)} {st : List bgV}
theorem bg_iconst (C : bgCx K own cc nL rt) {k : Int} (hd : bgd cc pc (.iconst k) 1 pc') (kk : bgX K bb n z Q w pc' L (bi k :: st)) : bgX K bb n z Q w pc L st := by
  obtain ⟨h1, rfl⟩ := hd
  intro H locs ls hlb hP hS hl
  exact lv_iconst C.hx C.hb h1 rfl (kk H locs ls hlb hP hS hl)
theorem bg_bipush (C : bgCx K own cc nL rt) {k : Int} (hd : bgd cc pc (.bipush k) 2 pc') (hv : (Int8.ofInt k).toInt32 = Int32.ofInt k) (kk : bgX K bb n z Q w pc' L (bi k :: st)) : bgX K bb n z Q w pc L st := by
  obtain ⟨h1, rfl⟩ := hd
  intro H locs ls hlb hP hS hl
  exact lv_bipush C.hx C.hb h1 hv (kk H locs ls hlb hP hS hl)
theorem bg_sipush (C : bgCx K own cc nL rt) {k : Int} (hd : bgd cc pc (.sipush k) 3 pc') (hv : (Int16.ofInt k).toInt32 = Int32.ofInt k) (kk : bgX K bb n z Q w pc' L (bi k :: st)) : bgX K bb n z Q w pc L st := by
  obtain ⟨h1, rfl⟩ := hd
  intro H locs ls hlb hP hS hl
  exact lv_sipush C.hx C.hb h1 hv (kk H locs ls hlb hP hS hl)
theorem bg_lconst (C : bgCx K own cc nL rt) {k : Fin 2} {v : Int} (hd : bgd cc pc (.lconst k) 1 pc') (hv : Int64.ofNat (k : Nat) = Int64.ofInt v) (kk : bgX K bb n z Q w pc' L (bl v :: st)) : bgX K bb n z Q w pc L st := by
  obtain ⟨h1, rfl⟩ := hd
  intro H locs ls hlb hP hS hl
  exact lv_lconst C.hx C.hb h1 hv (kk H locs ls hlb hP hS hl)
theorem bg_iload_n (C : bgCx K own cc nL rt) {k : Fin 4} {i : Nat} {v : Int} (hd : bgd cc pc (.iload_n k) 1 pc') (hi : (k : Nat) = i) (hv : L[i]? = some (some (bi v))) (kk : bgX K bb n z Q w pc' L (bi v :: st)) : bgX K bb n z Q w pc L st := by
  obtain ⟨h1, rfl⟩ := hd
  intro H locs ls hlb hP hS hl
  exact lv_iload_n C.hx C.hb h1 hi (hl.2.2 i _ hv).1 (kk H locs ls hlb hP hS hl)
theorem bg_iload (C : bgCx K own cc nL rt) {i : Nat} {v : Int} (hd : bgd cc pc (.iload i) 2 pc') (hv : L[i]? = some (some (bi v))) (kk : bgX K bb n z Q w pc' L (bi v :: st)) : bgX K bb n z Q w pc L st := by
  obtain ⟨h1, rfl⟩ := hd
  intro H locs ls hlb hP hS hl
  exact lv_iload C.hx C.hb h1 (hl.2.2 i _ hv).1 (kk H locs ls hlb hP hS hl)
theorem bg_aload_n (C : bgCx K own cc nL rt) {k : Fin 4} {i : Nat} {v : Nat} (hd : bgd cc pc (.aload_n k) 1 pc') (hi : (k : Nat) = i) (hv : L[i]? = some (some (br v))) (kk : bgX K bb n z Q w pc' L (br v :: st)) : bgX K bb n z Q w pc L st := by
  obtain ⟨h1, rfl⟩ := hd
  intro H locs ls hlb hP hS hl
  exact lv_aload_n C.hx C.hb h1 hi (hl.2.2 i _ hv).1 (kk H locs ls hlb hP hS hl)
theorem bg_aload (C : bgCx K own cc nL rt) {i : Nat} {v : Nat} (hd : bgd cc pc (.aload i) 2 pc') (hv : L[i]? = some (some (br v))) (kk : bgX K bb n z Q w pc' L (br v :: st)) : bgX K bb n z Q w pc L st := by
  obtain ⟨h1, rfl⟩ := hd
  intro H locs ls hlb hP hS hl
  exact lv_aload C.hx C.hb h1 (hl.2.2 i _ hv).1 (kk H locs ls hlb hP hS hl)
theorem bg_istore_n (C : bgCx K own cc nL rt) {k : Fin 4} {i : Nat} {v : Int} (hd : bgd cc pc (.istore_n k) 1 pc') (hi : (k : Nat) = i) (hL : i < L.length) (kk : bgX K bb n z Q w pc' (L.set i (some (bi v))) st) : bgX K bb n z Q w pc L (bi v :: st) := by
  obtain ⟨h1, rfl⟩ := hd
  intro H locs ls hlb hP hS hl
  exact lv_istore_n C.hx C.hb h1 hi hl.has hL rfl (fun ls' h' => kk H locs ls' hlb hP hS (hl.set hL (v := bi v) rfl h'))
theorem bg_istore (C : bgCx K own cc nL rt) {i : Nat} {v : Int} (hd : bgd cc pc (.istore i) 2 pc') (hL : i < L.length) (kk : bgX K bb n z Q w pc' (L.set i (some (bi v))) st) : bgX K bb n z Q w pc L (bi v :: st) := by
  obtain ⟨h1, rfl⟩ := hd
  intro H locs ls hlb hP hS hl
  exact lv_istore C.hx C.hb h1 hl.has hL rfl (fun ls' h' => kk H locs ls' hlb hP hS (hl.set hL (v := bi v) rfl h'))
theorem bg_astore_n (C : bgCx K own cc nL rt) {k : Fin 4} {i : Nat} {v : Nat} (hd : bgd cc pc (.astore_n k) 1 pc') (hi : (k : Nat) = i) (hL : i < L.length) (kk : bgX K bb n z Q w pc' (L.set i (some (br v))) st) : bgX K bb n z Q w pc L (br v :: st) := by
  obtain ⟨h1, rfl⟩ := hd
  intro H locs ls hlb hP hS hl
  exact lv_astore_n C.hx C.hb h1 hi hl.has hL rfl (fun ls' h' => kk H locs ls' hlb hP hS (hl.set hL (v := br v) rfl h'))
theorem bg_astore (C : bgCx K own cc nL rt) {i : Nat} {v : Nat} (hd : bgd cc pc (.astore i) 2 pc') (hL : i < L.length) (kk : bgX K bb n z Q w pc' (L.set i (some (br v))) st) : bgX K bb n z Q w pc L (br v :: st) := by
  obtain ⟨h1, rfl⟩ := hd
  intro H locs ls hlb hP hS hl
  exact lv_astore C.hx C.hb h1 hl.has hL rfl (fun ls' h' => kk H locs ls' hlb hP hS (hl.set hL (v := br v) rfl h'))
theorem bg_iinc (C : bgCx K own cc nL rt) {i : Nat} {c v : Int} (hd : bgd cc pc (.iinc i c) 3 pc') (hv : L[i]? = some (some (bi v))) (kk : bgX K bb n z Q w pc' (L.set i (some (bi (v + c)))) st) : bgX K bb n z Q w pc L st := by
  obtain ⟨h1, rfl⟩ := hd
  intro H locs ls hlb hP hS hl
  have hL : i < L.length := (List.getElem?_eq_some_iff.mp hv).1
  obtain ⟨j, hj⟩ := List.getElem?_of_mem (bgAs_mem (ad := kAd K) (L := L) (q := (i, bgC (kAd K) (bi v))) |>.mpr ⟨bi v, hv, rfl⟩)
  exact lv_iinc (k := j) C.hx C.hb h1 hl.has hj (v := Int32.ofInt (v + c)) (by rw [Int32.ofInt_add]) hL rfl (fun ls' h' => kk H locs ls' hlb hP hS (hl.set hL (v := bi (v + c)) rfl h'))
theorem bg_iadd (C : bgCx K own cc nL rt) {a b : Int} (hd : bgd cc pc .iadd 1 pc') (kk : bgX K bb n z Q w pc' L (bi (a + b) :: st)) : bgX K bb n z Q w pc L (bi b :: bi a :: st) := by
  obtain ⟨h1, rfl⟩ := hd
  intro H locs ls hlb hP hS hl
  have k1 := kk H locs ls hlb hP hS hl
  refine lv_iadd C.hx C.hb h1 ?_
  rw [← Int32.ofInt_add]
  exact k1
theorem bg_isub (C : bgCx K own cc nL rt) {a b : Int} (hd : bgd cc pc .isub 1 pc') (kk : bgX K bb n z Q w pc' L (bi (a - b) :: st)) : bgX K bb n z Q w pc L (bi b :: bi a :: st) := by
  obtain ⟨h1, rfl⟩ := hd
  intro H locs ls hlb hP hS hl
  have k1 := kk H locs ls hlb hP hS hl
  refine lv_isub C.hx C.hb h1 ?_
  rw [← Int32.ofInt_sub]
  exact k1
theorem bg_imul (C : bgCx K own cc nL rt) {a b : Int} (hd : bgd cc pc .imul 1 pc') (kk : bgX K bb n z Q w pc' L (bi (a * b) :: st)) : bgX K bb n z Q w pc L (bi b :: bi a :: st) := by
  obtain ⟨h1, rfl⟩ := hd
  intro H locs ls hlb hP hS hl
  have k1 := kk H locs ls hlb hP hS hl
  refine lv_imul C.hx C.hb h1 ?_
  rw [← Int32.ofInt_mul]
  exact k1
theorem bg_idiv (C : bgCx K own cc nL rt) {a b : Int} (hd : bgd cc pc .idiv 1 pc') (ha : 0 ≤ a) (ha2 : a ≤ 2147483647) (hb : 0 < b) (hb2 : b ≤ 2147483647) (kk : bgX K bb n z Q w pc' L (bi (a / b) :: st)) : bgX K bb n z Q w pc L (bi b :: bi a :: st) := by
  obtain ⟨h1, rfl⟩ := hd
  intro H locs ls hlb hP hS hl
  have k1 := kk H locs ls hlb hP hS hl
  have e : Int32.ofInt a / Int32.ofInt b = Int32.ofInt (a / b) := by
    have hle : a / b ≤ a := Int.ediv_le_self b ha
    have hge : 0 ≤ a / b := Int.ediv_nonneg ha (by omega)
    apply Int32.toInt_inj.mp
    rw [Int32.toInt_div_of_ne_right _ _ (by
      intro q
      have := congrArg Int32.toInt q
      rw [bgr_i ⟨by omega, by omega⟩] at this
      have h3 : Int32.toInt (-1) = -1 := rfl
      omega), bgr_i ⟨by omega, by omega⟩, bgr_i ⟨by omega, by omega⟩, bgr_i ⟨by omega, by omega⟩, Int.tdiv_eq_ediv_of_nonneg ha]
  refine lv_idiv C.hx C.hb h1 (by
    intro q
    rw [← bgr_z, bgr_eq ⟨by omega, by omega⟩ bgr_0] at q
    omega) ?_
  rw [e]
  exact k1
theorem bg_i2l (C : bgCx K own cc nL rt) {a : Int} (hd : bgd cc pc .i2l 1 pc') (kk : ∀ v : Int, bgX K bb n z Q w pc' L (bl v :: st)) : bgX K bb n z Q w pc L (bi a :: st) := by
  obtain ⟨h1, rfl⟩ := hd
  intro H locs ls hlb hP hS hl
  exact lv_i2l C.hx C.hb h1 (v := Int64.ofInt (Int32.ofInt a).toInt) (by rw [Int64.ofInt_int32ToInt]) (kk (Int32.ofInt a).toInt H locs ls hlb hP hS hl)
theorem bg_dup (C : bgCx K own cc nL rt) {a : bgV} (hd : bgd cc pc .dup 1 pc') (ha : (bgC (kAd K) a).category = 1) (kk : bgX K bb n z Q w pc' L (a :: a :: st)) : bgX K bb n z Q w pc L (a :: st) := by
  obtain ⟨h1, rfl⟩ := hd
  intro H locs ls hlb hP hS hl
  exact lv_dup C.hx C.hb h1 ha (kk H locs ls hlb hP hS hl)
theorem bg_pop (C : bgCx K own cc nL rt) {a : bgV} (hd : bgd cc pc .pop 1 pc') (ha : (bgC (kAd K) a).category = 1) (kk : bgX K bb n z Q w pc' L st) : bgX K bb n z Q w pc L (a :: st) := by
  obtain ⟨h1, rfl⟩ := hd
  intro H locs ls hlb hP hS hl
  exact lv_pop C.hx C.hb h1 ha (kk H locs ls hlb hP hS hl)
theorem bg_dup_x1 (C : bgCx K own cc nL rt) {a b : bgV} (hd : bgd cc pc .dup_x1 1 pc') (ha : (bgC (kAd K) a).category = 1) (hb : (bgC (kAd K) b).category = 1) (kk : bgX K bb n z Q w pc' L (a :: b :: a :: st)) : bgX K bb n z Q w pc L (a :: b :: st) := by
  obtain ⟨h1, rfl⟩ := hd
  intro H locs ls hlb hP hS hl
  exact lv_dup_x1 C.hx C.hb h1 ha hb (kk H locs ls hlb hP hS hl)
theorem bg_dup2 (C : bgCx K own cc nL rt) {a b : bgV} (hd : bgd cc pc .dup2 1 pc') (ha : (bgC (kAd K) a).category = 1) (hb : (bgC (kAd K) b).category = 1) (kk : bgX K bb n z Q w pc' L (a :: b :: a :: b :: st)) : bgX K bb n z Q w pc L (a :: b :: st) := by
  obtain ⟨h1, rfl⟩ := hd
  intro H locs ls hlb hP hS hl
  exact lv_dup2_11 C.hx C.hb h1 ha hb (kk H locs ls hlb hP hS hl)
theorem bg_goto (C : bgCx K own cc nL rt) {off : Int} {l pc'' : Nat} (hd : bgd cc pc (.goto off) 3 pc'') (ht : (pc : Int) + off = (l : Int)) (kk : bgX K bb n z Q w l L st) : bgX K bb n z Q w pc L st := by
  obtain ⟨h1, -⟩ := hd
  intro H locs ls hlb hP hS hl
  exact lv_goto C.hx C.hb h1 ht (kk H locs ls hlb hP hS hl)
theorem bg_icmp_eq (C : bgCx K own cc nL rt) {a b off : Int} {tgt : Nat} (hd : bgd cc pc (.if_icmp .eq off) 3 pc') (ht : (pc : Int) + off = (tgt : Int)) (ha : bgr a) (hb : bgr b) (k1 : a = b → bgX K bb n z Q w tgt L st) (k2 : ¬ a = b → bgX K bb n z Q w pc' L st) : bgX K bb n z Q w pc L (bi b :: bi a :: st) := by
  obtain ⟨h1, rfl⟩ := hd
  intro H locs ls hlb hP hS hl
  exact lv_icmp_eq C.hx C.hb h1 ht (fun q => k1 ((bgr_eq ha hb).mp q) H locs ls hlb hP hS hl) (fun q => k2 (fun e => q ((bgr_eq ha hb).mpr e)) H locs ls hlb hP hS hl)
theorem bg_icmp_eq0 (C : bgCx K own cc nL rt) {a b off : Int} {tgt : Nat} (hd : bgd cc pc (.if_icmp .eq off) 3 pc') (ht : (pc : Int) + off = (tgt : Int)) (k1 : bgX K bb n z Q w tgt L st) (k2 : bgX K bb n z Q w pc' L st) : bgX K bb n z Q w pc L (bi b :: bi a :: st) := by
  obtain ⟨h1, rfl⟩ := hd
  intro H locs ls hlb hP hS hl
  exact lv_icmp_eq C.hx C.hb h1 ht (fun _ => k1 H locs ls hlb hP hS hl) (fun _ => k2 H locs ls hlb hP hS hl)
theorem bg_if_eq (C : bgCx K own cc nL rt) {a off : Int} {tgt : Nat} (hd : bgd cc pc (.ifCond .eq off) 3 pc') (ht : (pc : Int) + off = (tgt : Int)) (ha : bgr a) (k1 : a = 0 → bgX K bb n z Q w tgt L st) (k2 : ¬ a = 0 → bgX K bb n z Q w pc' L st) : bgX K bb n z Q w pc L (bi a :: st) := by
  obtain ⟨h1, rfl⟩ := hd
  intro H locs ls hlb hP hS hl
  exact lv_if_eq C.hx C.hb h1 ht (fun q => k1 ((bgr_eq ha bgr_0).mp q) H locs ls hlb hP hS hl) (fun q => k2 (fun e => q ((bgr_eq ha bgr_0).mpr e)) H locs ls hlb hP hS hl)
theorem bg_if_eq0 (C : bgCx K own cc nL rt) {a off : Int} {tgt : Nat} (hd : bgd cc pc (.ifCond .eq off) 3 pc') (ht : (pc : Int) + off = (tgt : Int)) (k1 : bgX K bb n z Q w tgt L st) (k2 : bgX K bb n z Q w pc' L st) : bgX K bb n z Q w pc L (bi a :: st) := by
  obtain ⟨h1, rfl⟩ := hd
  intro H locs ls hlb hP hS hl
  exact lv_if_eq C.hx C.hb h1 ht (fun _ => k1 H locs ls hlb hP hS hl) (fun _ => k2 H locs ls hlb hP hS hl)
theorem bg_icmp_ne (C : bgCx K own cc nL rt) {a b off : Int} {tgt : Nat} (hd : bgd cc pc (.if_icmp .ne off) 3 pc') (ht : (pc : Int) + off = (tgt : Int)) (ha : bgr a) (hb : bgr b) (k1 : ¬ a = b → bgX K bb n z Q w tgt L st) (k2 : a = b → bgX K bb n z Q w pc' L st) : bgX K bb n z Q w pc L (bi b :: bi a :: st) := by
  obtain ⟨h1, rfl⟩ := hd
  intro H locs ls hlb hP hS hl
  exact lv_icmp_ne C.hx C.hb h1 ht (fun q => k1 (fun e => q ((bgr_eq ha hb).mpr e)) H locs ls hlb hP hS hl) (fun q => k2 ((bgr_eq ha hb).mp q) H locs ls hlb hP hS hl)
theorem bg_icmp_ne0 (C : bgCx K own cc nL rt) {a b off : Int} {tgt : Nat} (hd : bgd cc pc (.if_icmp .ne off) 3 pc') (ht : (pc : Int) + off = (tgt : Int)) (k1 : bgX K bb n z Q w tgt L st) (k2 : bgX K bb n z Q w pc' L st) : bgX K bb n z Q w pc L (bi b :: bi a :: st) := by
  obtain ⟨h1, rfl⟩ := hd
  intro H locs ls hlb hP hS hl
  exact lv_icmp_ne C.hx C.hb h1 ht (fun _ => k1 H locs ls hlb hP hS hl) (fun _ => k2 H locs ls hlb hP hS hl)
theorem bg_if_ne (C : bgCx K own cc nL rt) {a off : Int} {tgt : Nat} (hd : bgd cc pc (.ifCond .ne off) 3 pc') (ht : (pc : Int) + off = (tgt : Int)) (ha : bgr a) (k1 : ¬ a = 0 → bgX K bb n z Q w tgt L st) (k2 : a = 0 → bgX K bb n z Q w pc' L st) : bgX K bb n z Q w pc L (bi a :: st) := by
  obtain ⟨h1, rfl⟩ := hd
  intro H locs ls hlb hP hS hl
  exact lv_if_ne C.hx C.hb h1 ht (fun q => k1 (fun e => q ((bgr_eq ha bgr_0).mpr e)) H locs ls hlb hP hS hl) (fun q => k2 ((bgr_eq ha bgr_0).mp q) H locs ls hlb hP hS hl)
theorem bg_if_ne0 (C : bgCx K own cc nL rt) {a off : Int} {tgt : Nat} (hd : bgd cc pc (.ifCond .ne off) 3 pc') (ht : (pc : Int) + off = (tgt : Int)) (k1 : bgX K bb n z Q w tgt L st) (k2 : bgX K bb n z Q w pc' L st) : bgX K bb n z Q w pc L (bi a :: st) := by
  obtain ⟨h1, rfl⟩ := hd
  intro H locs ls hlb hP hS hl
  exact lv_if_ne C.hx C.hb h1 ht (fun _ => k1 H locs ls hlb hP hS hl) (fun _ => k2 H locs ls hlb hP hS hl)
theorem bg_icmp_lt (C : bgCx K own cc nL rt) {a b off : Int} {tgt : Nat} (hd : bgd cc pc (.if_icmp .lt off) 3 pc') (ht : (pc : Int) + off = (tgt : Int)) (ha : bgr a) (hb : bgr b) (k1 : a < b → bgX K bb n z Q w tgt L st) (k2 : ¬ a < b → bgX K bb n z Q w pc' L st) : bgX K bb n z Q w pc L (bi b :: bi a :: st) := by
  obtain ⟨h1, rfl⟩ := hd
  intro H locs ls hlb hP hS hl
  exact lv_icmp_lt C.hx C.hb h1 ht (fun q => k1 ((bgr_lt ha hb).mp q) H locs ls hlb hP hS hl) (fun q => k2 (fun e => q ((bgr_lt ha hb).mpr e)) H locs ls hlb hP hS hl)
theorem bg_icmp_lt0 (C : bgCx K own cc nL rt) {a b off : Int} {tgt : Nat} (hd : bgd cc pc (.if_icmp .lt off) 3 pc') (ht : (pc : Int) + off = (tgt : Int)) (k1 : bgX K bb n z Q w tgt L st) (k2 : bgX K bb n z Q w pc' L st) : bgX K bb n z Q w pc L (bi b :: bi a :: st) := by
  obtain ⟨h1, rfl⟩ := hd
  intro H locs ls hlb hP hS hl
  exact lv_icmp_lt C.hx C.hb h1 ht (fun _ => k1 H locs ls hlb hP hS hl) (fun _ => k2 H locs ls hlb hP hS hl)
theorem bg_if_lt (C : bgCx K own cc nL rt) {a off : Int} {tgt : Nat} (hd : bgd cc pc (.ifCond .lt off) 3 pc') (ht : (pc : Int) + off = (tgt : Int)) (ha : bgr a) (k1 : a < 0 → bgX K bb n z Q w tgt L st) (k2 : ¬ a < 0 → bgX K bb n z Q w pc' L st) : bgX K bb n z Q w pc L (bi a :: st) := by
  obtain ⟨h1, rfl⟩ := hd
  intro H locs ls hlb hP hS hl
  exact lv_if_lt C.hx C.hb h1 ht (fun q => k1 ((bgr_lt ha bgr_0).mp q) H locs ls hlb hP hS hl) (fun q => k2 (fun e => q ((bgr_lt ha bgr_0).mpr e)) H locs ls hlb hP hS hl)
theorem bg_if_lt0 (C : bgCx K own cc nL rt) {a off : Int} {tgt : Nat} (hd : bgd cc pc (.ifCond .lt off) 3 pc') (ht : (pc : Int) + off = (tgt : Int)) (k1 : bgX K bb n z Q w tgt L st) (k2 : bgX K bb n z Q w pc' L st) : bgX K bb n z Q w pc L (bi a :: st) := by
  obtain ⟨h1, rfl⟩ := hd
  intro H locs ls hlb hP hS hl
  exact lv_if_lt C.hx C.hb h1 ht (fun _ => k1 H locs ls hlb hP hS hl) (fun _ => k2 H locs ls hlb hP hS hl)
theorem bg_icmp_ge (C : bgCx K own cc nL rt) {a b off : Int} {tgt : Nat} (hd : bgd cc pc (.if_icmp .ge off) 3 pc') (ht : (pc : Int) + off = (tgt : Int)) (ha : bgr a) (hb : bgr b) (k1 : b ≤ a → bgX K bb n z Q w tgt L st) (k2 : ¬ b ≤ a → bgX K bb n z Q w pc' L st) : bgX K bb n z Q w pc L (bi b :: bi a :: st) := by
  obtain ⟨h1, rfl⟩ := hd
  intro H locs ls hlb hP hS hl
  exact lv_icmp_ge C.hx C.hb h1 ht (fun q => k1 ((bgr_le hb ha).mp q) H locs ls hlb hP hS hl) (fun q => k2 (fun e => q ((bgr_le hb ha).mpr e)) H locs ls hlb hP hS hl)
theorem bg_icmp_ge0 (C : bgCx K own cc nL rt) {a b off : Int} {tgt : Nat} (hd : bgd cc pc (.if_icmp .ge off) 3 pc') (ht : (pc : Int) + off = (tgt : Int)) (k1 : bgX K bb n z Q w tgt L st) (k2 : bgX K bb n z Q w pc' L st) : bgX K bb n z Q w pc L (bi b :: bi a :: st) := by
  obtain ⟨h1, rfl⟩ := hd
  intro H locs ls hlb hP hS hl
  exact lv_icmp_ge C.hx C.hb h1 ht (fun _ => k1 H locs ls hlb hP hS hl) (fun _ => k2 H locs ls hlb hP hS hl)
theorem bg_if_ge (C : bgCx K own cc nL rt) {a off : Int} {tgt : Nat} (hd : bgd cc pc (.ifCond .ge off) 3 pc') (ht : (pc : Int) + off = (tgt : Int)) (ha : bgr a) (k1 : 0 ≤ a → bgX K bb n z Q w tgt L st) (k2 : ¬ 0 ≤ a → bgX K bb n z Q w pc' L st) : bgX K bb n z Q w pc L (bi a :: st) := by
  obtain ⟨h1, rfl⟩ := hd
  intro H locs ls hlb hP hS hl
  exact lv_if_ge C.hx C.hb h1 ht (fun q => k1 ((bgr_le bgr_0 ha).mp q) H locs ls hlb hP hS hl) (fun q => k2 (fun e => q ((bgr_le bgr_0 ha).mpr e)) H locs ls hlb hP hS hl)
theorem bg_if_ge0 (C : bgCx K own cc nL rt) {a off : Int} {tgt : Nat} (hd : bgd cc pc (.ifCond .ge off) 3 pc') (ht : (pc : Int) + off = (tgt : Int)) (k1 : bgX K bb n z Q w tgt L st) (k2 : bgX K bb n z Q w pc' L st) : bgX K bb n z Q w pc L (bi a :: st) := by
  obtain ⟨h1, rfl⟩ := hd
  intro H locs ls hlb hP hS hl
  exact lv_if_ge C.hx C.hb h1 ht (fun _ => k1 H locs ls hlb hP hS hl) (fun _ => k2 H locs ls hlb hP hS hl)
theorem bg_icmp_gt (C : bgCx K own cc nL rt) {a b off : Int} {tgt : Nat} (hd : bgd cc pc (.if_icmp .gt off) 3 pc') (ht : (pc : Int) + off = (tgt : Int)) (ha : bgr a) (hb : bgr b) (k1 : b < a → bgX K bb n z Q w tgt L st) (k2 : ¬ b < a → bgX K bb n z Q w pc' L st) : bgX K bb n z Q w pc L (bi b :: bi a :: st) := by
  obtain ⟨h1, rfl⟩ := hd
  intro H locs ls hlb hP hS hl
  exact lv_icmp_gt C.hx C.hb h1 ht (fun q => k1 ((bgr_lt hb ha).mp q) H locs ls hlb hP hS hl) (fun q => k2 (fun e => q ((bgr_lt hb ha).mpr e)) H locs ls hlb hP hS hl)
theorem bg_icmp_gt0 (C : bgCx K own cc nL rt) {a b off : Int} {tgt : Nat} (hd : bgd cc pc (.if_icmp .gt off) 3 pc') (ht : (pc : Int) + off = (tgt : Int)) (k1 : bgX K bb n z Q w tgt L st) (k2 : bgX K bb n z Q w pc' L st) : bgX K bb n z Q w pc L (bi b :: bi a :: st) := by
  obtain ⟨h1, rfl⟩ := hd
  intro H locs ls hlb hP hS hl
  exact lv_icmp_gt C.hx C.hb h1 ht (fun _ => k1 H locs ls hlb hP hS hl) (fun _ => k2 H locs ls hlb hP hS hl)
theorem bg_if_gt (C : bgCx K own cc nL rt) {a off : Int} {tgt : Nat} (hd : bgd cc pc (.ifCond .gt off) 3 pc') (ht : (pc : Int) + off = (tgt : Int)) (ha : bgr a) (k1 : 0 < a → bgX K bb n z Q w tgt L st) (k2 : ¬ 0 < a → bgX K bb n z Q w pc' L st) : bgX K bb n z Q w pc L (bi a :: st) := by
  obtain ⟨h1, rfl⟩ := hd
  intro H locs ls hlb hP hS hl
  exact lv_if_gt C.hx C.hb h1 ht (fun q => k1 ((bgr_lt bgr_0 ha).mp q) H locs ls hlb hP hS hl) (fun q => k2 (fun e => q ((bgr_lt bgr_0 ha).mpr e)) H locs ls hlb hP hS hl)
theorem bg_if_gt0 (C : bgCx K own cc nL rt) {a off : Int} {tgt : Nat} (hd : bgd cc pc (.ifCond .gt off) 3 pc') (ht : (pc : Int) + off = (tgt : Int)) (k1 : bgX K bb n z Q w tgt L st) (k2 : bgX K bb n z Q w pc' L st) : bgX K bb n z Q w pc L (bi a :: st) := by
  obtain ⟨h1, rfl⟩ := hd
  intro H locs ls hlb hP hS hl
  exact lv_if_gt C.hx C.hb h1 ht (fun _ => k1 H locs ls hlb hP hS hl) (fun _ => k2 H locs ls hlb hP hS hl)
theorem bg_icmp_le (C : bgCx K own cc nL rt) {a b off : Int} {tgt : Nat} (hd : bgd cc pc (.if_icmp .le off) 3 pc') (ht : (pc : Int) + off = (tgt : Int)) (ha : bgr a) (hb : bgr b) (k1 : a ≤ b → bgX K bb n z Q w tgt L st) (k2 : ¬ a ≤ b → bgX K bb n z Q w pc' L st) : bgX K bb n z Q w pc L (bi b :: bi a :: st) := by
  obtain ⟨h1, rfl⟩ := hd
  intro H locs ls hlb hP hS hl
  exact lv_icmp_le C.hx C.hb h1 ht (fun q => k1 ((bgr_le ha hb).mp q) H locs ls hlb hP hS hl) (fun q => k2 (fun e => q ((bgr_le ha hb).mpr e)) H locs ls hlb hP hS hl)
theorem bg_icmp_le0 (C : bgCx K own cc nL rt) {a b off : Int} {tgt : Nat} (hd : bgd cc pc (.if_icmp .le off) 3 pc') (ht : (pc : Int) + off = (tgt : Int)) (k1 : bgX K bb n z Q w tgt L st) (k2 : bgX K bb n z Q w pc' L st) : bgX K bb n z Q w pc L (bi b :: bi a :: st) := by
  obtain ⟨h1, rfl⟩ := hd
  intro H locs ls hlb hP hS hl
  exact lv_icmp_le C.hx C.hb h1 ht (fun _ => k1 H locs ls hlb hP hS hl) (fun _ => k2 H locs ls hlb hP hS hl)
theorem bg_if_le (C : bgCx K own cc nL rt) {a off : Int} {tgt : Nat} (hd : bgd cc pc (.ifCond .le off) 3 pc') (ht : (pc : Int) + off = (tgt : Int)) (ha : bgr a) (k1 : a ≤ 0 → bgX K bb n z Q w tgt L st) (k2 : ¬ a ≤ 0 → bgX K bb n z Q w pc' L st) : bgX K bb n z Q w pc L (bi a :: st) := by
  obtain ⟨h1, rfl⟩ := hd
  intro H locs ls hlb hP hS hl
  exact lv_if_le C.hx C.hb h1 ht (fun q => k1 ((bgr_le ha bgr_0).mp q) H locs ls hlb hP hS hl) (fun q => k2 (fun e => q ((bgr_le ha bgr_0).mpr e)) H locs ls hlb hP hS hl)
theorem bg_if_le0 (C : bgCx K own cc nL rt) {a off : Int} {tgt : Nat} (hd : bgd cc pc (.ifCond .le off) 3 pc') (ht : (pc : Int) + off = (tgt : Int)) (k1 : bgX K bb n z Q w tgt L st) (k2 : bgX K bb n z Q w pc' L st) : bgX K bb n z Q w pc L (bi a :: st) := by
  obtain ⟨h1, rfl⟩ := hd
  intro H locs ls hlb hP hS hl
  exact lv_if_le C.hx C.hb h1 ht (fun _ => k1 H locs ls hlb hP hS hl) (fun _ => k2 H locs ls hlb hP hS hl)
end BGR
