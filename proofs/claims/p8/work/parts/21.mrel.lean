def moRt : List (Option (Int × Int) ⊕ List (Option (Int × Int))) := [.inr [some (0, 3), none, none, none, some (0, 1), some (0, 1), some (0, 1), some (0, 20), none, none, some (0, 1), none, none, none, none, none, none, some (0, 51), some (1, 50), some (0, 1), some (0, 63), none, none], .inl (some (-1, 63)), .inl (some (0, 63)), .inl (some (0, 32767)), .inl (some (0, 1)), .inl (some (0, 1)), .inl none, .inl (some (-1, 2064321)), .inl none, .inl none]
/-! the reference's side: ranges, and which places may have changed -/
def moRg (k : Nat) (i : Int) : Option (Int × Int) := match moRt[k - bgMo]? with
  | some (.inl r) => if k < bgMo then none else r
  | some (.inr l) => if k < bgMo then none else (l[i.toNat]?).join
  | none => none
def moRgOk (k : Nat) (i v : Int) : Prop := ∀ lo hi, moRg k i = some (lo, hi) → lo ≤ v ∧ v ≤ hi
def moN (w : bgW) : Prop := ∀ k i, moRgOk k i (w k i)
def bgHit (S : List (Nat × Option Int)) (k : Nat) (i : Int) : Bool := S.any (fun q => q.1 == k && (match q.2 with | none => true | some j => j == i))
def bgFr (S : List (Nat × Option Int)) (w0 w : bgW) : Prop := ∀ k i, bgHit S k i = false → w k i = w0 k i
def moRel (S : List (Nat × Option Int)) (w0 w : bgW) : Prop := moN w ∧ bgFr S w0 w
def bgSb (S' S : List (Nat × Option Int)) : Bool := S'.all (fun q => S.any (fun p => p.1 == q.1 && (p.2 == none || p.2 == q.2)))
theorem bgSb_hit {S' S : List (Nat × Option Int)} (h : bgSb S' S = true) {k : Nat} {i : Int} (hf : bgHit S k i = false) : bgHit S' k i = false := by
  cases hh : bgHit S' k i with
  | false => rfl
  | true =>
    obtain ⟨q, hq, hq2⟩ := List.any_eq_true.mp hh
    obtain ⟨p, hp, hp2⟩ := List.any_eq_true.mp (List.all_eq_true.mp h q hq)
    have : bgHit S k i = true := by
      refine List.any_eq_true.mpr ⟨p, hp, ?_⟩
      obtain ⟨pk, pi⟩ := p
      obtain ⟨qk, qi⟩ := q
      simp only [Bool.and_eq_true, beq_iff_eq, Bool.or_eq_true] at hp2 hq2 ⊢
      refine ⟨hp2.1.trans hq2.1, ?_⟩
      rcases hp2.2 with e | e
      · subst e; rfl
      · subst e; exact hq2.2
    rw [this] at hf
    cases hf
theorem moRel.rfl {S : List (Nat × Option Int)} {w : bgW} (h : moN w) : moRel S w w := ⟨h, fun _ _ _ => Eq.refl _⟩
theorem moRel.trans {S S' : List (Nat × Option Int)} {a b c : bgW} (h1 : moRel S a b) (h2 : moRel S' b c) (hs : bgSb S' S = true) : moRel S a c := ⟨h2.1, fun k i h => (h2.2 k i (bgSb_hit hs h)).trans (h1.2 k i h)⟩
theorem moRel.up {S : List (Nat × Option Int)} {w0 w : bgW} {k : Nat} {i v : Int} (h : moRel S w0 w) (hk : bgHit S k i = true) (hv : moRgOk k i v) : moRel S w0 (bgU w k i v) := by
  refine ⟨fun k' i' => ?_, fun k' i' hf => ?_⟩
  · by_cases hc : k' = k ∧ i' = i
    · obtain ⟨rfl, rfl⟩ := hc
      rw [bgU_eq]
      exact hv
    · have e : bgU w k i v k' i' = w k' i' := by
        unfold bgU
        rw [if_neg hc]
      rw [e]
      exact h.1 k' i'
  · have e : bgU w k i v k' i' = w k' i' := by
      unfold bgU
      rw [if_neg (fun q => by rw [q.1, q.2, hk] at hf; cases hf)]
    rw [e]
    exact h.2 k' i' hf
theorem moRgOk.of {k : Nat} {i v lo hi : Int} (hr : moRg k i = some (lo, hi)) (h1 : lo ≤ v) (h2 : v ≤ hi) : moRgOk k i v := by
  intro lo' hi' h
  rw [hr] at h
  cases h
  exact ⟨h1, h2⟩
theorem moRgOk.none {k : Nat} {i v : Int} (hr : moRg k i = none) : moRgOk k i v := by
  intro lo' hi' h
  rw [hr] at h
  cases h
section BGM
variable {K : bgK} {own : String} {cc : ByteArray} {nL : Nat} {rt : Option FieldType} {bb : Bool} {n z : Nat} {Q : State → Prop} {S : List (Nat × Option Int)} {w0 w : bgW} {pc pc' : Nat} {L : List (Option bgV)} {st : List bgV} {k ci idx N len : Nat} {C0 : String} {T : u_T} {ty : Nat → FieldType} {j v lo hi : Int}
theorem bm_geti (C : bgCx K own cc nL rt) (F : bgCF ci C0 T ty N) (hI : moRel S w0 w) (i : Nat) (j : Int) (hj : (i : Int) = j) (hk : bgKinds[k]? = some (.inl ci)) (hiN : i < N) (hr : bgRef k i = none) (hg : moRg k j = some (lo, hi)) (hl : Cond.fieldLink own idx C0 (T i).2.1 (T i).2.2.1 ∈ bgTs) (hd : bgd cc pc (.getfield idx) 3 pc') (kk : ∀ v, v = w k j → lo ≤ v → v ≤ hi → bgX K bb n z Q w pc' L (bi v :: st)) : bgX K bb n z Q w pc L (br k :: st) :=
  bg_geti C F hj hk hiN hr hl hd (kk _ (Eq.refl _) (hI.1 k j lo _ hg).1 (hI.1 k j lo _ hg).2)
theorem bm_puti (C : bgCx K own cc nL rt) (F : bgCF ci C0 T ty N) (hI : moRel S w0 w) (i : Nat) (j : Int) (hj : (i : Int) = j) (hk : bgKinds[k]? = some (.inl ci)) (hiN : i < N) (hr : bgRef k i = none) (hh : bgHit S k j = true) (hg : moRg k j = some (lo, hi)) (h1 : lo ≤ v) (h2 : v ≤ hi) (hfin : (T i).2.2.2 = false) (hty : ty i = .int ∨ (ty i = .boolean ∧ (v = 0 ∨ v = 1))) (hl : Cond.fieldLink own idx C0 (T i).2.1 (T i).2.2.1 ∈ bgTs) (hd : bgd cc pc (.putfield idx) 3 pc') (kk : ∀ w', moRel S w0 w' → w' = bgU w k j v → bgX K false n z Q w' pc' L st) : bgX K bb n z Q w pc L (bi v :: br k :: st) :=
  bg_puti C F hj hk hiN hr hfin hty hl hd (fun w' e => kk w' (by rw [e]; exact hI.up hh (moRgOk.of hg h1 h2)) e)
theorem bm_put0 (C : bgCx K own cc nL rt) (F : bgCF ci C0 T ty N) (hI : moRel S w0 w) (i : Nat) (j : Int) (hj : (i : Int) = j) (hk : bgKinds[k]? = some (.inl ci)) (hiN : i < N) (hr : bgRef k i = none) (hh : bgHit S k j = true) (hg : moRg k j = none) (hfin : (T i).2.2.2 = false) (hty : ty i = .int) (hl : Cond.fieldLink own idx C0 (T i).2.1 (T i).2.2.1 ∈ bgTs) (hd : bgd cc pc (.putfield idx) 3 pc') (kk : ∀ w', moRel S w0 w' → w' = bgU w k j v → bgX K false n z Q w' pc' L st) : bgX K bb n z Q w pc L (bi v :: br k :: st) :=
  bg_puti C F hj hk hiN hr hfin (Or.inl hty) hl hd (fun w' e => kk w' (by rw [e]; exact hI.up hh (moRgOk.none hg)) e)
theorem bm_iald (C : bgCx K own cc nL rt) (hI : moRel S w0 w) (hk : bgKinds[k]? = some (.inr (len, 0))) (hg : moRg k j = some (lo, hi)) (h0 : 0 ≤ j) (h1 : j < (len : Int)) (hd : bgd cc pc .iaload 1 pc') (kk : ∀ v, v = w k j → lo ≤ v → v ≤ hi → bgX K bb n z Q w pc' L (bi v :: st)) : bgX K bb n z Q w pc L (bi j :: br k :: st) :=
  bg_iald C hk h0 h1 hd (kk _ (Eq.refl _) (hI.1 k j lo _ hg).1 (hI.1 k j lo _ hg).2)
theorem bm_iast (C : bgCx K own cc nL rt) (hI : moRel S w0 w) (hk : bgKinds[k]? = some (.inr (len, 0))) (hh : bgHit S k j = true) (hg : moRg k j = some (lo, hi)) (h0 : 0 ≤ j) (h1 : j < (len : Int)) (h2 : lo ≤ v) (h3 : v ≤ hi) (hd : bgd cc pc .iastore 1 pc') (kk : ∀ w', moRel S w0 w' → w' = bgU w k j v → bgX K false n z Q w' pc' L st) : bgX K bb n z Q w pc L (bi v :: bi j :: br k :: st) :=
  bg_iast C hk h0 h1 hd (fun w' e => kk w' (by rw [e]; exact hI.up hh (moRgOk.of hg h2 h3)) e)
theorem bm_iast0 (C : bgCx K own cc nL rt) (hI : moRel S w0 w) (hk : bgKinds[k]? = some (.inr (len, 0))) (hh : bgHit S k j = true) (hg : moRg k j = none) (h0 : 0 ≤ j) (h1 : j < (len : Int)) (hd : bgd cc pc .iastore 1 pc') (kk : ∀ w', moRel S w0 w' → w' = bgU w k j v → bgX K false n z Q w' pc' L st) : bgX K bb n z Q w pc L (bi v :: bi j :: br k :: st) :=
  bg_iast C hk h0 h1 hd (fun w' e => kk w' (by rw [e]; exact hI.up hh (moRgOk.none hg)) e)
theorem bm_zald (C : bgCx K own cc nL rt) (hI : moRel S w0 w) (hk : bgKinds[k]? = some (.inr (len, 1))) (hg : moRg k j = some (lo, hi)) (h0 : 0 ≤ j) (h1 : j < (len : Int)) (hd : bgd cc pc .baload 1 pc') (kk : ∀ v, v = w k j → lo ≤ v → v ≤ hi → bgX K bb n z Q w pc' L (bi v :: st)) : bgX K bb n z Q w pc L (bi j :: br k :: st) :=
  bg_zald C hk h0 h1 hd (kk _ (Eq.refl _) (hI.1 k j lo _ hg).1 (hI.1 k j lo _ hg).2)
theorem bm_zast (C : bgCx K own cc nL rt) (hI : moRel S w0 w) (hk : bgKinds[k]? = some (.inr (len, 1))) (hh : bgHit S k j = true) (hg : moRg k j = some (lo, hi)) (h0 : 0 ≤ j) (h1 : j < (len : Int)) (h2 : lo ≤ v) (h3 : v ≤ hi) (h4 : v = 0 ∨ v = 1) (hd : bgd cc pc .bastore 1 pc') (kk : ∀ w', moRel S w0 w' → w' = bgU w k j v → bgX K false n z Q w' pc' L st) : bgX K bb n z Q w pc L (bi v :: bi j :: br k :: st) :=
  bg_zast C hk h0 h1 h4 hd (fun w' e => kk w' (by rw [e]; exact hI.up hh (moRgOk.of hg h2 h3)) e)
end BGM
theorem bgU_app (w : bgW) (k : Nat) (i v : Int) (k' : Nat) (i' : Int) : bgU w k i v k' i' = if k' = k ∧ i' = i then v else w k' i' := rfl
theorem bm_vis {w : bgW} {i x : Int} (h1 : 200 ≤ i) (h2 : i < 400) (e : x = w 28 i) (h : x = -1) : ∃ e, 0 ≤ e ∧ e < 200 ∧ w 28 (200 + e) = -1 :=
  ⟨i - 200, by omega, by omega, by rw [show 200 + (i - 200) = i by omega, ← e, h]⟩
theorem bm_copyStep {w0 w w1 w2 w' : bgW} {i a b c : Int} (to fr : Int) (h1 : 0 ≤ i) (h2 : i < 200) (hd : to - fr = 200 ∨ fr - to = 200)
    (hq : ∀ k e, (k = 28 ∨ k = 29 ∨ k = 30) → 0 ≤ e → e < 200 → (e < i → w k (to + e) = w0 k (fr + e)) ∧ w k (fr + e) = w0 k (fr + e))
    (e6 : w' = bgU w2 30 (to + i) c) (e5 : c = w2 30 (fr + i)) (e4 : w2 = bgU w1 29 (to + i) b) (e3 : b = w1 29 (fr + i)) (e2 : w1 = bgU w 28 (to + i) a) (e1 : a = w 28 (fr + i)) :
    ∀ k e, (k = 28 ∨ k = 29 ∨ k = 30) → 0 ≤ e → e < 200 → (e < i + 1 → w' k (to + e) = w0 k (fr + e)) ∧ w' k (fr + e) = w0 k (fr + e) := by
  intro k e hk h0 h3
  have h4 := hq k e hk h0 h3
  subst e6
  subst e4
  subst e2
  rw [bgU_ne _ (by decide), bgU_ne _ (by decide)] at e5
  rw [bgU_ne _ (by decide)] at e3
  refine ⟨fun h6 => ?_, ?_⟩
  · by_cases he : e = i
    · subst he
      rcases hk with rfl | rfl | rfl
      · rw [bgU_ne _ (by decide), bgU_ne _ (by decide), bgU_eq, e1]; exact h4.2
      · rw [bgU_ne _ (by decide), bgU_eq, e3]; exact h4.2
      · rw [bgU_eq, e5]; exact h4.2
    · rw [bgU_nei (by omega), bgU_nei (by omega), bgU_nei (by omega)]
      exact h4.1 (by omega)
  · rw [bgU_nei (by omega), bgU_nei (by omega), bgU_nei (by omega)]
    exact h4.2
