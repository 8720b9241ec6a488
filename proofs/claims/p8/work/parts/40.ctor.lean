/-! THE TWO CONSTRUCTORS: the world while it is made: its first objects, each at its own place behind what lay there at the law's entry -/
abbrev cE (ad : Nat → Nat) (xs : List va_E) : va_W := xs.mapIdx (fun k e => (ad k, e))
theorem cE_get {ad : Nat → Nat} {xs : List va_E} {k : Nat} : (cE ad xs)[k]? = (xs[k]?).map (fun e => (ad k, e)) := List.getElem?_mapIdx
theorem cE_at {ad : Nat → Nat} {xs : List va_E} {k : Nat} {e : va_E} (h : xs[k]? = some e) : (cE ad xs)[k]? = some (ad k, e) := by rw [cE_get, h]; rfl
theorem cE_len {ad : Nat → Nat} {xs : List va_E} : (cE ad xs).length = xs.length := List.length_mapIdx
theorem cE_of {ad : Nat → Nat} {xs : List va_E} {k : Nat} {q : Nat × va_E} (h : (cE ad xs)[k]? = some q) : k < xs.length ∧ q.1 = ad k := by
  refine ⟨by have := (List.getElem?_eq_some_iff.mp h).1; rwa [cE_len] at this, ?_⟩
  rw [cE_get] at h
  cases hx : xs[k]? with
  | none => rw [hx] at h; cases h
  | some e => rw [hx] at h; cases h; rfl
theorem cE_set {ad : Nat → Nat} {xs : List va_E} {k : Nat} {e : va_E} : (cE ad xs).set k (ad k, e) = cE ad (xs.set k e) := by
  apply List.ext_getElem?
  intro j
  rw [cE_get]
  by_cases hj : k = j
  · subst hj
    by_cases hl : k < xs.length
    · rw [List.getElem?_set_self (by rw [cE_len]; exact hl), List.getElem?_set_self hl]; rfl
    · rw [List.getElem?_eq_none (by rw [List.length_set, cE_len]; omega), List.getElem?_eq_none (by rw [List.length_set]; omega)]; rfl
  · rw [List.getElem?_set_ne hj, List.getElem?_set_ne hj, cE_get]
theorem cE_app {ad : Nat → Nat} {xs : List va_E} {e : va_E} : cE ad xs ++ [(ad xs.length, e)] = cE ad (xs ++ [e]) := by
  simp [cE, List.mapIdx_append]
def cAd (G : bgGl) : Prop := ∀ k, k < bgNO → G.2.1 k = G.2.2.2.2.heap.size + k
theorem cE_D {A : Nat → Prop} {ad : Nat → Nat} {xs : List va_E} (h : bgDs A ad) (hl : xs.length ≤ bgNO) : va_D A (cE ad xs) := by
  refine ⟨fun i j p q hi hj e => ?_, fun k q hk => ?_⟩
  · obtain ⟨h1, h2⟩ := cE_of hi
    obtain ⟨h3, h4⟩ := cE_of hj
    exact h.1 i j (by omega) (by omega) (by rw [← h2, ← h4]; exact e)
  · obtain ⟨h1, h2⟩ := cE_of hk
    rw [h2]
    exact h.2 k (by omega)
/-- the frame began when k0 objects stood -/
def cK (K : bgK) (k0 : Nat) : Prop := cAd K.1 ∧ (kS K).heap.size = (kZ K).heap.size + k0
theorem cK.ad {K : bgK} {k0 k : Nat} (hk : cK K k0) (h : k < bgNO) : kAd K k = (kZ K).heap.size + k := hk.1 k h
def cX (K : bgK) (n z : Nat) (Q : State → Prop) (xs : List va_E) (pc : Nat) (L : List (Option bgV)) (st : List bgV) : Prop :=
  ∀ (H : Heap) (locs : List Loc) (ls : Array Slot), va_P (kD K) bgCl (cE (kAd K) xs) H → va_S (bgA K.1) (kS K).heap H locs → bgLoc (kAd K) ls L →
    W (kP K) (kL K) (kE K) (kR K) (kS K) (kM K) (kA K) (kB K) (kMe K) (kC K) H locs n z Q (F0 (kM K) pc ls (st.map (bgC (kAd K))))
section CT1
variable {K : bgK} {own : String} {cc : ByteArray} {nL : Nat} {rt : Option FieldType} {n z k0 k : Nat} {Q : State → Prop} {xs : List va_E} {pc pc' : Nat} {L : List (Option bgV)} {st : List bgV}
theorem c_size (hk : cK K k0) (hn : n + k0 = xs.length) (hle : xs.length ≤ bgNO) {H : Heap} {locs : List Loc} {T : State} (hP : va_P (kD K) bgCl (cE (kAd K) xs) H) (hS : va_S (bgA K.1) (kS K).heap H locs) (hT : T.heap = H)
    (X : Stand (kP K) (kL K) (kE K) (kR K) (kS K) (kM K) (kA K) (kB K) (kMe K) (kC K) T locs n z) : H.size = (kZ K).heap.size + xs.length := by
  have h1 : T.heap.size ≤ (kS K).heap.size + n := X.same.2.2.1
  rw [hT, hk.2] at h1
  have h2 := hS.1
  rw [hk.2] at h2
  cases hx : xs.length with
  | zero => omega
  | succ j =>
    have hj : j < xs.length := by omega
    have h3 := (hP j _ (cE_at (List.getElem?_eq_getElem hj))).lt
    have h4 : kAd K j < H.size := h3
    rw [hk.ad (by omega)] at h4
    omega
theorem c_q (hk : cK K k0) (hn : n + k0 = xs.length) (hle : xs.length < bgNO) {H : Heap} {locs : List Loc} {T : State} {q : Nat} {e : va_E} (hP : va_P (kD K) bgCl (cE (kAd K) xs ++ [(q, e)]) H) (hD : va_D (bgA K.1) (cE (kAd K) xs ++ [(q, e)])) (hT : T.heap = H)
    (X : Stand (kP K) (kL K) (kE K) (kR K) (kS K) (kM K) (kA K) (kB K) (kMe K) (kC K) T locs (n + 1) z) : q = kAd K xs.length := by
  have h1 : T.heap.size ≤ (kS K).heap.size + (n + 1) := X.same.2.2.1
  rw [hT, hk.2] at h1
  have hlast : (cE (kAd K) xs ++ [(q, e)])[xs.length]? = some (q, e) := by
    rw [List.getElem?_append_right (by rw [cE_len]; exact Nat.le_refl _), cE_len, Nat.sub_self]
    rfl
  have h2 : q < H.size := (hP _ _ hlast).lt
  have h3 : (kZ K).heap.size ≤ q := hD.2 _ _ hlast
  rw [hk.ad hle]
  rcases Nat.lt_trichotomy q ((kZ K).heap.size + xs.length) with h | h | h
  · exfalso
    have hj : q - (kZ K).heap.size < xs.length := by omega
    have hj2 : (cE (kAd K) xs ++ [(q, e)])[q - (kZ K).heap.size]? = some (kAd K (q - (kZ K).heap.size), xs[q - (kZ K).heap.size]) := by
      rw [List.getElem?_append_left (by rw [cE_len]; exact hj)]
      exact cE_at (List.getElem?_eq_getElem hj)
    have := hD.1 _ _ _ _ hj2 hlast (by
      show kAd K (q - (kZ K).heap.size) = q
      rw [hk.ad (by omega)]
      omega)
    omega
  · exact h
  · omega
theorem c_A (C : bgCx K own cc nL rt) : ∀ q, (kS K).heap.size ≤ q → bgA K.1 q := fun _ h => Nat.le_trans C.hs.2.1 h
theorem c_new (C : bgCx K own cc nL rt) {ci N idx : Nat} {C0 : String} {T : u_T} {ty : Nat → FieldType} (F : bgCF ci C0 T ty N) (hk : cK K k0) (hn : n + k0 = xs.length) (hle : xs.length < bgNO) (hkx : xs.length = k) (hcl : Cond.classLink own idx C0 ∈ bgTs) (hins : Cond.instantiable C0 N ∈ bgTs) (hini : Cond.initialized C0 ∈ bgTs)
    {fs : List Value} (hfs : ∀ j, j < N → defaultValue (ty j) = vp_V fs j) (hc : n + 1 ≤ (kR K).cells) (hs : z + N ≤ (kR K).slots) (hd : bgd cc pc (.new idx) 3 pc') (kk : cX K (n + 1) (z + N) Q (xs ++ [.inr (ci, fs)]) pc' L (br k :: st)) : cX K n z Q xs pc L st := by
  obtain ⟨h1, rfl⟩ := hd
  subst hkx
  intro H locs ls hP hS hlo
  refine va_new (ci := ci) (fs := fs) (C := C0) (T := T) (N := N) C.hx C.hb C.hts F.2.2.1 ty F.2.2.2.1 C.hown (C.hts _ hcl) (C.hts _ hins) (C.hts _ hini) C.hK hP (cE_D C.ok.2.1 (Nat.le_of_lt hle)) hS (c_A C) F.1 hfs hc hs h1 (fun q H1 hP1 hD1 hS1 => ?_)
  intro T1 hT1 X1
  have hq := c_q hk hn hle hP1 hD1 hT1 X1
  subst hq
  rw [cE_app] at hP1
  exact kk H1 locs ls hP1 hS1 hlo T1 hT1 X1
theorem c_newa (C : bgCx K own cc nL rt) {atype : ArrayType} {ty : FieldType} (t : Nat) (hty : newarray.typeOf atype = ty) (ht : (bgT (kCA K))[t]? = some (kCA K t, ty)) (hno : ∀ U cA, va_RA U cA ty → U.vm.findClass ("[" ++ ty.toString) = some cA) (hk : cK K k0) (hn : n + k0 = xs.length) (hle : xs.length < bgNO) (hkx : xs.length = k) (harr : Cond.arrayClass ty ∈ bgTs)
    {v : Int} {N' : Nat} {a0 : vp_A} (ha : ∀ cA : ClassId, vp_cell cA a0 = arrV cA N' (fun _ => defaultValue ty)) (hv : ¬ Int32.ofInt v < 0) (hN : (Int32.ofInt v).toNatClampNeg = N') (hby : N' * componentBytes ty ≤ 536870912) (hc : n + 1 ≤ (kR K).cells) (hs : z + N' ≤ (kR K).slots) (hd : bgd cc pc (.newarray atype) 2 pc') (kk : cX K (n + 1) (z + N') Q (xs ++ [.inl (kCA K t, a0)]) pc' L (br k :: st)) : cX K n z Q xs pc L (bi v :: st) := by
  obtain ⟨h1, rfl⟩ := hd
  subst hkx
  intro H locs ls hP hS hlo
  refine va_newa C.hx C.hb (by rw [hty]; exact C.hts _ harr) hty C.hK hP (cE_D C.ok.2.1 (Nat.le_of_lt hle)) hS (c_A C) ha hv hN hby hc hs h1 (fun q cA H1 hK1 hP1 hD1 hS1 => ?_)
  intro T1 hT1 X1
  have hq := c_q hk hn hle hP1 hD1 hT1 X1
  subst hq
  have e1 := hno _ _ (hK1.2 (bgT (kCA K)).length (cA, ty) (by rw [List.getElem?_append_right (Nat.le_refl _), Nat.sub_self]; rfl)).2
  have e2 := hno _ _ (C.hK.2 t _ ht).2
  cases Option.some.inj (e1.symm.trans e2)
  rw [cE_app] at hP1
  exact kk H1 locs ls hP1 hS1 hlo T1 hT1 X1
theorem c_put (C : bgCx K own cc nL rt) {ci N idx : Nat} {C0 : String} {T : u_T} {ty : Nat → FieldType} (F : bgCF ci C0 T ty N) {i : Nat} {v : bgV} {fs : List Value} (hle : xs.length ≤ bgNO) (hx : xs[k]? = some (.inr (ci, fs))) (hi : i < N) (hfin : (T i).2.2.2 = false) (hnar : narrow (ty i) (bgC (kAd K) v) = bgC (kAd K) v) (hfit : fits (ty i) (bgC (kAd K) v) = true) (hl : i < fs.length) (hlk : Cond.fieldLink own idx C0 (T i).2.1 (T i).2.2.1 ∈ bgTs) (hd : bgd cc pc (.putfield idx) 3 pc')
    (kk : cX K n z Q (xs.set k (.inr (ci, fs.set i (bgC (kAd K) v)))) pc' L st) : cX K n z Q xs pc L (v :: br k :: st) := by
  obtain ⟨h1, rfl⟩ := hd
  intro H locs ls hP hS hlo
  refine va_put (C := C0) (T := T) (N := N) (ref := C0) (index := idx) C.hx C.hb C.hts F.2.2.1 ty F.2.2.2.1 F.2.2.2.2.1 C.hown C.hK hP (cE_D C.ok.2.1 hle) hS k (cE_at hx) F.1 i hi (C.hts _ hlk) (fun x h => by rw [F.2.2.2.2.2 i hi] at h; exact h) hfin (F.2.2.2.1 i hi) hnar hfit hl h1 (fun H1 locs1 hP1 hD1 hS1 => ?_)
  rw [cE_set] at hP1
  exact kk H1 locs1 ls hP1 hS1 hlo
theorem c_putF (C : bgCx K own cc nL rt) {ci N idx : Nat} {C0 : String} {T : u_T} {ty : Nat → FieldType} (F : bgCF ci C0 T ty N) {i : Nat} {v : bgV} {fs : List Value} (hle : xs.length ≤ bgNO) (hin : (kMe K).name = "<init>") (hown : C0 = own) (hx : xs[k]? = some (.inr (ci, fs))) (hi : i < N) (hfin : (T i).2.2.2 = true) (hnar : narrow (ty i) (bgC (kAd K) v) = bgC (kAd K) v) (hfit : fits (ty i) (bgC (kAd K) v) = true) (hl : i < fs.length) (hlk : Cond.fieldLink own idx C0 (T i).2.1 (T i).2.2.1 ∈ bgTs) (hd : bgd cc pc (.putfield idx) 3 pc')
    (kk : cX K n z Q (xs.set k (.inr (ci, fs.set i (bgC (kAd K) v)))) pc' L st) : cX K n z Q xs pc L (v :: br k :: st) := by
  obtain ⟨h1, rfl⟩ := hd
  intro H locs ls hP hS hlo
  refine va_putF (C := C0) (T := T) (N := N) (ref := C0) (index := idx) C.hx C.hb C.hts F.2.2.1 ty F.2.2.2.1 F.2.2.2.2.1 C.hown C.hK hP (cE_D C.ok.2.1 hle) hS k (cE_at hx) F.1 i hi (C.hts _ hlk) (fun x h => by rw [F.2.2.2.2.2 i hi] at h; exact h) hfin hin ((F.2.2.2.2.2 i hi).trans hown) (F.2.2.2.1 i hi) hnar hfit hl h1 (fun H1 locs1 hP1 hD1 hS1 => ?_)
  rw [cE_set] at hP1
  exact kk H1 locs1 ls hP1 hS1 hlo
theorem c_getr (C : bgCx K own cc nL rt) {ci N idx : Nat} {C0 : String} {T : u_T} {ty : Nat → FieldType} (F : bgCF ci C0 T ty N) {i j : Nat} {fs : List Value} (hx : xs[k]? = some (.inr (ci, fs))) (hi : i < N) (hv : fs[i]? = some (.ref (kAd K j))) (hlk : Cond.fieldLink own idx C0 (T i).2.1 (T i).2.2.1 ∈ bgTs) (hd : bgd cc pc (.getfield idx) 3 pc')
    (kk : cX K n z Q xs pc' L (br j :: st)) : cX K n z Q xs pc L (br k :: st) := by
  obtain ⟨h1, rfl⟩ := hd
  intro H locs ls hP hS hlo
  exact va_get (C := C0) (T := T) (N := N) (ref := C0) (index := idx) C.hx C.hb C.hts F.2.2.1 C.hown C.hK hP k (cE_at hx) F.1 i hi (C.hts _ hlk) (fun x h => by rw [F.2.2.2.2.2 i hi] at h; exact h) hv h1 (kk H locs ls hP hS hlo)
theorem c_iast (C : bgCx K own cc nL rt) {len : Nat} {f : Nat → Int32} {i v : Int} (hle : xs.length ≤ bgNO) (hx : xs[k]? = some (.inl (kCA K 0, len, .inl f))) (h0 : 0 ≤ i) (h2 : i < (len : Int)) (h3 : len ≤ 100000) (hd : bgd cc pc .iastore 1 pc')
    (kk : cX K n z Q (xs.set k (.inl (kCA K 0, len, .inl (upd f i.toNat (Int32.ofInt v))))) pc' L st) : cX K n z Q xs pc L (bi v :: bi i :: br k :: st) := by
  obtain ⟨h1, rfl⟩ := hd
  intro H locs ls hP hS hlo
  refine va_iast C.hx C.hb C.hK hP (cE_D C.ok.2.1 hle) hS k 0 (cE_at hx) rfl (bgr_in h0 h2 h3) h1 (fun H1 locs1 hP1 hD1 hS1 => ?_)
  rw [cE_set, bgr_nat h0 (by omega)] at hP1
  exact kk H1 locs1 ls hP1 hS1 hlo
theorem c_objInit (C : bgCx K own cc nL rt) {idx : Nat} (hl : Cond.methodLink own idx Lib.objectInit ∈ bgTs) (hi : Cond.instanceMethod Lib.objectInit ∈ bgTs) (hc : Cond.code Lib.objectInit ⟨#[0xb1]⟩ 1 none ∈ bgTs) (hL : L.length = nL) (hf : 1 ≤ (kR K).frames) (hst : ((st.map (bgC (kAd K))).map fun v => v.category).sum ≤ 8) (hlo : 20 ≤ (kR K).locals) (hd : bgd cc pc (.invokespecial idx) 3 pc')
    (kk : cX K n z Q xs pc' L st) : cX K n z Q xs pc L (br k :: st) := by
  obtain ⟨h1, rfl⟩ := hd
  intro H locs ls hP hS hl2
  refine W.objInit C.hx C.hb C.hown (C.hts _ hl) (C.hts _ hi) (C.hts _ hc) (g := F0 (kM K) pc ls ((br k :: st).map (bgC (kAd K)))) rfl (by rw [C.hml]; exact hl2.1.trans hL) rfl h1 hf (by show 2 * 0 + _ + 12 ≤ _; omega) ?_
  exact kk H locs ls hP hS hl2
end CT1
