/-! names for what the walks want often -/
theorem bg_cat {ad : Nat → Nat} {av : List bgV} (h : av.all (fun v => match v with | .inr (.inr _) => false | _ => true) = true) : ∀ v ∈ av, (bgC ad v).category = 1 := by
  intro v hv
  have h1 := List.all_eq_true.mp h v hv
  match v, h1 with
  | .inl _, _ => rfl
  | .inr (.inl _), _ => rfl
theorem bg_in {ws : List Cond} (is : List Nat) (h : is.map (fun i => lw_tbl[i]?) = ws.map some) (hk : ws.all bgOkW = true) : ∀ w ∈ ws, w ∈ bgTs := by
  intro w hw
  obtain ⟨k, hk2⟩ := List.getElem?_of_mem hw
  have h1 : (is.map (fun i => lw_tbl[i]?))[k]? = some (some w) := by rw [h, List.getElem?_map, hk2]; rfl
  rw [List.getElem?_map] at h1
  cases hi : is[k]? with
  | none => rw [hi] at h1; cases h1
  | some i =>
    rw [hi] at h1
    exact bg_tw i (Option.some.inj h1) (List.all_eq_true.mp hk w hw)
def bgIsLS (w : Cond) : Bool := match w with
  | .laysStatic .. => true
  | _ => false
def bgChk (q : Cond × Option Nat) : Bool := match q.2 with
  | some i => decide (lw_tbl[i]? = some q.1) && (bgOkW q.1 || bgIsLS q.1)
  | none => decide (q.1 = bgUn) || decide (q.1 = bgSe)
theorem bg_atOf {own X : String} {ic : Nat} {names : List String} (is : List (Option Nat)) (h : ((Bundle.ownAtoms own ic X names).zip is).all bgChk = true) (hl : (Bundle.ownAtoms own ic X names).length = is.length) : bgAt own ic X names := by
  intro a ha
  obtain ⟨k, hk⟩ := List.getElem?_of_mem ha
  have hlt : k < is.length := by rw [← hl]; exact (List.getElem?_eq_some_iff.mp hk).1
  have hz : ((Bundle.ownAtoms own ic X names).zip is)[k]? = some (a, is[k]) := by
    rw [List.getElem?_zip_eq_some]
    exact ⟨hk, List.getElem?_eq_getElem hlt⟩
  have h1 := List.all_eq_true.mp h _ (List.mem_of_getElem? hz)
  generalize is[k] = o at h1
  cases o with
  | none =>
    simp only [bgChk, Bool.or_eq_true, decide_eq_true_eq] at h1
    exact Or.inr (Or.inr h1)
  | some i =>
    simp only [bgChk, Bool.and_eq_true, Bool.or_eq_true, decide_eq_true_eq] at h1
    rcases h1.2 with h2 | h2
    · exact Or.inl (bg_tw i h1.1 h2)
    · refine Or.inr (Or.inl ⟨List.mem_of_getElem? h1.1, ?_⟩)
      cases a with
      | laysStatic o n d => exact ⟨o, n, d, rfl⟩
      | _ => cases h2
section BGS
variable {K : bgK} {own : String} {cc : ByteArray} {nL : Nat} {rt : Option FieldType} {bb : Bool} {n z : Nat} {Q : State → Prop} {w : bgW} {pc : Nat} {L : List (Option bgV)} {st : List bgV} {a k dflt lo hi off : Int} {offs : Array Int} {len tgt : Nat}
theorem bg_tabOut (C : bgCx K own cc nL rt) (hd : decode cc pc = .ok (.tableswitch dflt lo hi offs, len)) (hr : bgr a) (h : a < lo ∨ hi < a) (ht : (pc : Int) + dflt = (tgt : Int)) (kk : bgX K bb n z Q w tgt L st) : bgX K bb n z Q w pc L (bi a :: st) := by
  intro H locs ls hlb hP hS hl
  exact lv_tableOut C.hx C.hb hd (by rw [bgr_i hr]; exact h) ht (kk H locs ls hlb hP hS hl)
theorem bg_tabIn (C : bgCx K own cc nL rt) (hd : decode cc pc = .ok (.tableswitch dflt lo hi offs, len)) (e : a = k) (hr : bgr k) (h1 : ¬ k < lo) (h2 : ¬ hi < k) (ho : offs[(k - lo).toNat]? = some off) (ht : (pc : Int) + off = (tgt : Int)) (kk : bgX K bb n z Q w tgt L st) : bgX K bb n z Q w pc L (bi a :: st) := by
  subst e
  intro H locs ls hlb hP hS hl
  exact lv_tableIn C.hx C.hb hd (by rw [bgr_i hr]; exact h1) (by rw [bgr_i hr]; exact h2) (by rw [bgr_i hr]; exact ho) ht (kk H locs ls hlb hP hS hl)
end BGS
/-! the class's side: ranges alone. bgMo: the first number of the reference's objects -/
def bgRg (k : Nat) (i : Int) : Option (Int × Int) := match bgRt[k]? with
  | some (.inl r) => r
  | some (.inr l) => (l[i.toNat]?).join
  | none => none
def bgRgOk (k : Nat) (i v : Int) : Prop := ∀ lo hi, bgRg k i = some (lo, hi) → lo ≤ v ∧ v ≤ hi
def bgN (w : bgW) : Prop := ∀ k i, k < bgMo → bgRgOk k i (w k i)
def bgRel (w0 w : bgW) : Prop := bgN w ∧ ∀ k i, bgMo ≤ k → w k i = w0 k i
theorem bgRel.rfl {w : bgW} (h : bgN w) : bgRel w w := ⟨h, fun _ _ _ => Eq.refl _⟩
theorem bgRel.trans {a b c : bgW} (h1 : bgRel a b) (h2 : bgRel b c) : bgRel a c := ⟨h2.1, fun k i h => (h2.2 k i h).trans (h1.2 k i h)⟩
theorem bgRel.up {w0 w : bgW} {k : Nat} {i v : Int} (h : bgRel w0 w) (hk : k < bgMo) (hv : bgRgOk k i v) : bgRel w0 (bgU w k i v) := by
  refine ⟨fun k' i' hk' => ?_, fun k' i' hk' => ?_⟩
  · by_cases hc : k' = k ∧ i' = i
    · obtain ⟨rfl, rfl⟩ := hc
      rw [bgU_eq]
      exact hv
    · have e : bgU w k i v k' i' = w k' i' := by
        unfold bgU
        rw [if_neg hc]
      rw [e]
      exact h.1 k' i' hk'
  · rw [bgU_ne i' (by omega)]
    exact h.2 k' i' hk'
theorem bgRgOk.of {k : Nat} {i v lo hi : Int} (hr : bgRg k i = some (lo, hi)) (h1 : lo ≤ v) (h2 : v ≤ hi) : bgRgOk k i v := by
  intro lo' hi' h
  rw [hr] at h
  cases h
  exact ⟨h1, h2⟩
theorem bgRgOk.none {k : Nat} {i v : Int} (hr : bgRg k i = none) : bgRgOk k i v := by
  intro lo' hi' h
  rw [hr] at h
  cases h
theorem bgRel.cp {w0 w : bgW} {k1 k0 : Nat} {sp dp m : Int} (h : bgRel w0 w) (hk : k1 < bgMo) (hk0 : k0 < bgMo) (hs : ∀ i j, bgRg k1 i = bgRg k0 j) : bgRel w0 (bgCp w k1 k0 sp dp m) := by
  refine ⟨fun k' i' hk' => ?_, fun k' i' hk' => ?_⟩
  · by_cases hc : k' = k1 ∧ dp ≤ i' ∧ i' < dp + m
    · have e : bgCp w k1 k0 sp dp m k' i' = w k0 (sp + (i' - dp)) := by
        unfold bgCp
        rw [if_pos hc]
      rw [e]
      intro lo hi hr
      rw [hc.1, hs i' (sp + (i' - dp))] at hr
      exact h.1 k0 _ hk0 lo hi hr
    · have e : bgCp w k1 k0 sp dp m k' i' = w k' i' := by
        unfold bgCp
        rw [if_neg hc]
      rw [e]
      exact h.1 k' i' hk'
  · have e : bgCp w k1 k0 sp dp m k' i' = w k' i' := by
      unfold bgCp
      rw [if_neg (fun q => by omega)]
    rw [e]
    exact h.2 k' i' hk'
section BGQ
variable {K : bgK} {own : String} {cc : ByteArray} {nL : Nat} {rt : Option FieldType} {bb : Bool} {n z : Nat} {Q : State → Prop} {w0 w : bgW} {pc pc' : Nat} {L : List (Option bgV)} {st : List bgV} {k ci i idx N len : Nat} {C0 : String} {T : u_T} {ty : Nat → FieldType} {j v lo hi : Int}
theorem bq_geti (C : bgCx K own cc nL rt) (F : bgCF ci C0 T ty N) (hI : bgRel w0 w) (i : Nat) (j : Int) (hj : (i : Int) = j) (hk : bgKinds[k]? = some (.inl ci)) (hiN : i < N) (hr : bgRef k i = none) (hkm : k < bgMo) (hg : bgRg k j = some (lo, hi)) (hl : Cond.fieldLink own idx C0 (T i).2.1 (T i).2.2.1 ∈ bgTs) (hd : bgd cc pc (.getfield idx) 3 pc') (kk : ∀ v, v = w k j → lo ≤ v → v ≤ hi → bgX K bb n z Q w pc' L (bi v :: st)) : bgX K bb n z Q w pc L (br k :: st) :=
  bg_geti C F hj hk hiN hr hl hd (kk _ (Eq.refl _) (hI.1 k j hkm lo _ hg).1 (hI.1 k j hkm lo _ hg).2)
theorem bq_get0 (C : bgCx K own cc nL rt) (F : bgCF ci C0 T ty N) (i : Nat) (j : Int) (hj : (i : Int) = j) (hk : bgKinds[k]? = some (.inl ci)) (hiN : i < N) (hr : bgRef k i = none) (hl : Cond.fieldLink own idx C0 (T i).2.1 (T i).2.2.1 ∈ bgTs) (hd : bgd cc pc (.getfield idx) 3 pc') (kk : ∀ v, v = w k j → bgX K bb n z Q w pc' L (bi v :: st)) : bgX K bb n z Q w pc L (br k :: st) :=
  bg_geti C F hj hk hiN hr hl hd (kk _ (Eq.refl _))
theorem bq_puti (C : bgCx K own cc nL rt) (F : bgCF ci C0 T ty N) (hI : bgRel w0 w) (i : Nat) (j : Int) (hj : (i : Int) = j) (hk : bgKinds[k]? = some (.inl ci)) (hiN : i < N) (hr : bgRef k i = none) (hkm : k < bgMo) (hg : bgRg k j = some (lo, hi)) (h1 : lo ≤ v) (h2 : v ≤ hi) (hfin : (T i).2.2.2 = false) (hty : ty i = .int ∨ (ty i = .boolean ∧ (v = 0 ∨ v = 1))) (hl : Cond.fieldLink own idx C0 (T i).2.1 (T i).2.2.1 ∈ bgTs) (hd : bgd cc pc (.putfield idx) 3 pc') (kk : ∀ w', bgRel w0 w' → w' = bgU w k j v → bgX K false n z Q w' pc' L st) : bgX K bb n z Q w pc L (bi v :: br k :: st) :=
  bg_puti C F hj hk hiN hr hfin hty hl hd (fun w' e => kk w' (by rw [e]; exact hI.up hkm (bgRgOk.of hg h1 h2)) e)
theorem bq_put0 (C : bgCx K own cc nL rt) (F : bgCF ci C0 T ty N) (hI : bgRel w0 w) (i : Nat) (j : Int) (hj : (i : Int) = j) (hk : bgKinds[k]? = some (.inl ci)) (hiN : i < N) (hr : bgRef k i = none) (hkm : k < bgMo) (hg : bgRg k j = none) (hfin : (T i).2.2.2 = false) (hty : ty i = .int) (hl : Cond.fieldLink own idx C0 (T i).2.1 (T i).2.2.1 ∈ bgTs) (hd : bgd cc pc (.putfield idx) 3 pc') (kk : ∀ w', bgRel w0 w' → w' = bgU w k j v → bgX K false n z Q w' pc' L st) : bgX K bb n z Q w pc L (bi v :: br k :: st) :=
  bg_puti C F hj hk hiN hr hfin (Or.inl hty) hl hd (fun w' e => kk w' (by rw [e]; exact hI.up hkm (bgRgOk.none hg)) e)
theorem bq_iald (C : bgCx K own cc nL rt) (hI : bgRel w0 w) (hk : bgKinds[k]? = some (.inr (len, 0))) (hkm : k < bgMo) (hg : bgRg k j = some (lo, hi)) (h0 : 0 ≤ j) (h1 : j < (len : Int)) (hd : bgd cc pc .iaload 1 pc') (kk : ∀ v, v = w k j → lo ≤ v → v ≤ hi → bgX K bb n z Q w pc' L (bi v :: st)) : bgX K bb n z Q w pc L (bi j :: br k :: st) :=
  bg_iald C hk h0 h1 hd (kk _ (Eq.refl _) (hI.1 k j hkm lo _ hg).1 (hI.1 k j hkm lo _ hg).2)
theorem bq_iald0 (C : bgCx K own cc nL rt) (hk : bgKinds[k]? = some (.inr (len, 0))) (h0 : 0 ≤ j) (h1 : j < (len : Int)) (hd : bgd cc pc .iaload 1 pc') (kk : ∀ v, v = w k j → bgX K bb n z Q w pc' L (bi v :: st)) : bgX K bb n z Q w pc L (bi j :: br k :: st) :=
  bg_iald C hk h0 h1 hd (kk _ (Eq.refl _))
theorem bq_iast (C : bgCx K own cc nL rt) (hI : bgRel w0 w) (hk : bgKinds[k]? = some (.inr (len, 0))) (hkm : k < bgMo) (hg : bgRg k j = some (lo, hi)) (h0 : 0 ≤ j) (h1 : j < (len : Int)) (h2 : lo ≤ v) (h3 : v ≤ hi) (hd : bgd cc pc .iastore 1 pc') (kk : ∀ w', bgRel w0 w' → w' = bgU w k j v → bgX K false n z Q w' pc' L st) : bgX K bb n z Q w pc L (bi v :: bi j :: br k :: st) :=
  bg_iast C hk h0 h1 hd (fun w' e => kk w' (by rw [e]; exact hI.up hkm (bgRgOk.of hg h2 h3)) e)
theorem bq_iast0 (C : bgCx K own cc nL rt) (hI : bgRel w0 w) (hk : bgKinds[k]? = some (.inr (len, 0))) (hkm : k < bgMo) (hg : bgRg k j = none) (h0 : 0 ≤ j) (h1 : j < (len : Int)) (hd : bgd cc pc .iastore 1 pc') (kk : ∀ w', bgRel w0 w' → w' = bgU w k j v → bgX K false n z Q w' pc' L st) : bgX K bb n z Q w pc L (bi v :: bi j :: br k :: st) :=
  bg_iast C hk h0 h1 hd (fun w' e => kk w' (by rw [e]; exact hI.up hkm (bgRgOk.none hg)) e)
end BGQ
