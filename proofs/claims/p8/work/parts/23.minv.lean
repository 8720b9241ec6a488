/-! counting and summing below a bound -/
def bcn (P : Nat → Prop) [DecidablePred P] : Nat → Nat
  | 0 => 0
  | m + 1 => bcn P m + (if P m then 1 else 0)
theorem bcn_le (P : Nat → Prop) [DecidablePred P] : ∀ m, bcn P m ≤ m
  | 0 => Nat.le_refl _
  | m + 1 => by
    have := bcn_le P m
    unfold bcn
    split <;> omega
theorem bcn_mono {P Q : Nat → Prop} [DecidablePred P] [DecidablePred Q] : ∀ m, (∀ i, i < m → P i → Q i) → bcn P m ≤ bcn Q m
  | 0, _ => Nat.le_refl _
  | m + 1, h => by
    have h1 := bcn_mono m (fun i hi => h i (by omega))
    have h2 := h m (by omega)
    unfold bcn
    by_cases hp : P m
    · rw [if_pos hp, if_pos (h2 hp)]
      omega
    · rw [if_neg hp]
      omega
theorem bcn_lt {P Q : Nat → Prop} [DecidablePred P] [DecidablePred Q] : ∀ m j, (∀ i, i < m → P i → Q i) → j < m → ¬ P j → Q j → bcn P m < bcn Q m
  | 0, _, _, hj, _, _ => absurd hj (Nat.not_lt_zero _)
  | m + 1, j, h, hj, hp, hq => by
    by_cases hm : j = m
    · subst hm
      have h1 := bcn_mono j (fun i hi => h i (by omega))
      unfold bcn
      rw [if_neg hp, if_pos hq]
      omega
    · have h1 := bcn_lt m j (fun i hi => h i (by omega)) (by omega) hp hq
      have h2 := h m (by omega)
      unfold bcn
      by_cases hpm : P m
      · rw [if_pos hpm, if_pos (h2 hpm)]
        omega
      · rw [if_neg hpm]
        omega
theorem bcn_not {P : Nat → Prop} [DecidablePred P] {m j : Nat} (hj : j < m) (hp : ¬ P j) : bcn P m < m := by
  have h := bcn_lt (P := P) (Q := fun _ => True) m j (fun _ _ _ => trivial) hj hp trivial
  exact Nat.lt_of_lt_of_le h (bcn_le _ m)
theorem bcn_pos {P : Nat → Prop} [DecidablePred P] {m j : Nat} (hj : j < m) (hp : P j) : 0 < bcn P m := by
  have h := bcn_lt (P := fun _ => False) (Q := P) m j (fun _ _ h => h.elim) hj (fun h => h) hp
  omega
def bsm (f : Nat → Nat) : Nat → Nat
  | 0 => 0
  | m + 1 => bsm f m + f m
theorem bsm_mono {f g : Nat → Nat} : ∀ m, (∀ i, i < m → f i ≤ g i) → bsm f m ≤ bsm g m
  | 0, _ => Nat.le_refl _
  | m + 1, h => by
    have h1 := bsm_mono m (fun i hi => h i (by omega))
    have h2 := h m (by omega)
    unfold bsm
    omega
theorem bsm_lt {f g : Nat → Nat} : ∀ m j, (∀ i, i < m → f i ≤ g i) → j < m → f j < g j → bsm f m < bsm g m
  | 0, _, _, hj, _ => absurd hj (Nat.not_lt_zero _)
  | m + 1, j, h, hj, hl => by
    have h2 := h m (by omega)
    by_cases hm : j = m
    · subst hm
      have h1 := bsm_mono j (fun i hi => h i (by omega))
      unfold bsm
      omega
    · have h1 := bsm_lt m j (fun i hi => h i (by omega)) (by omega) hl
      unfold bsm
      omega
/-! what holds of the reference between calls -/
def bmE (w : bgW) : Prop := ∀ e : Int, 0 ≤ e → e < 400 → w 28 e ≠ -1 → 1 ≤ w 30 e
def bmH (w : bgW) : Prop := ∀ e : Int, 0 ≤ e → e < 200 → w 28 e = w 28 (200 + e) ∧ (w 28 e ≠ -1 → w 29 e = w 29 (200 + e) ∧ w 30 e = w 30 (200 + e))
def bmJ (w : bgW) : Prop := w 27 5 = 0 → w 27 4 = 1 → (w 27 6 = 0 ∨ w 27 7 = 0) → bmH w
def bmTi (w : bgW) : Prop := ∀ v : Int, 0 ≤ v → v < 64 → w 34 v ≠ -1 → v ≠ w 27 20 → ∃ e : Int, 0 ≤ e ∧ e < 200 ∧ w 28 (200 + e) ≠ -1 ∧ w 29 (200 + e) = v ∧ w 34 (w 28 (200 + e)) ≠ -1 ∧ w 34 (w 28 (200 + e)) + w 30 (200 + e) = w 34 v
def bmT (w : bgW) : Prop := w 27 19 = 0 → bmTi w
def bmB (w : bgW) : Prop := w 27 17 ≤ 50 ∧ bmE w ∧ bmJ w ∧ bmT w
section BMI
variable {w w' : bgW}
theorem bmE_of (h28 : ∀ i, w' 28 i = w 28 i) (h30 : ∀ i, w' 30 i = w 30 i) (h : bmE w) : bmE w' := by
  have e28 : w' 28 = w 28 := funext h28
  have e30 : w' 30 = w 30 := funext h30
  unfold bmE
  rw [e28, e30]
  exact h
theorem bmH_of (h28 : ∀ i, w' 28 i = w 28 i) (h29 : ∀ i, w' 29 i = w 29 i) (h30 : ∀ i, w' 30 i = w 30 i) (h : bmH w) : bmH w' := by
  have e28 : w' 28 = w 28 := funext h28
  have e29 : w' 29 = w 29 := funext h29
  have e30 : w' 30 = w 30 := funext h30
  unfold bmH
  rw [e28, e29, e30]
  exact h
theorem bmTi_ofV (h28 : ∀ e, 0 ≤ e → e < 200 → w' 28 (200 + e) = w 28 (200 + e)) (h29 : ∀ e, 0 ≤ e → e < 200 → w' 29 (200 + e) = w 29 (200 + e)) (h30 : ∀ e, 0 ≤ e → e < 200 → w' 30 (200 + e) = w 30 (200 + e)) (h34 : ∀ i, w' 34 i = w 34 i) (h20 : w' 27 20 = w 27 20) (h : bmTi w) : bmTi w' := by
  intro v h0 h1 h2 h3
  rw [h34] at h2
  rw [h20] at h3
  obtain ⟨e, a1, a2, a3, a4, a5, a6⟩ := h v h0 h1 h2 h3
  refine ⟨e, a1, a2, ?_, ?_, ?_, ?_⟩
  · rw [h28 e a1 a2]; exact a3
  · rw [h29 e a1 a2]; exact a4
  · rw [h28 e a1 a2, h34]; exact a5
  · rw [h28 e a1 a2, h30 e a1 a2, h34, h34]; exact a6
theorem bmTi_of (h28 : ∀ i, w' 28 i = w 28 i) (h29 : ∀ i, w' 29 i = w 29 i) (h30 : ∀ i, w' 30 i = w 30 i) (h34 : ∀ i, w' 34 i = w 34 i) (h20 : w' 27 20 = w 27 20) (h : bmTi w) : bmTi w' :=
  bmTi_ofV (fun _ _ _ => h28 _) (fun _ _ _ => h29 _) (fun _ _ _ => h30 _) h34 h20 h
theorem bmTi_vis (h28 : ∀ e, 0 ≤ e → e < 200 → w' 28 (200 + e) = w 28 e) (h29 : ∀ e, 0 ≤ e → e < 200 → w' 29 (200 + e) = w 29 e) (h30 : ∀ e, 0 ≤ e → e < 200 → w' 30 (200 + e) = w 30 e) (h34 : ∀ i, w' 34 i = w 34 i) (h20 : w' 27 20 = w 27 20) (hH : bmH w) (h : bmTi w) : bmTi w' := by
  intro v h0 h1 h2 h3
  rw [h34] at h2
  rw [h20] at h3
  obtain ⟨e, a1, a2, a3, a4, a5, a6⟩ := h v h0 h1 h2 h3
  obtain ⟨b1, b2⟩ := hH e a1 a2
  obtain ⟨b3, b4⟩ := b2 (by rw [b1]; exact a3)
  refine ⟨e, a1, a2, ?_, ?_, ?_, ?_⟩
  · rw [h28 e a1 a2, b1]; exact a3
  · rw [h29 e a1 a2, b3]; exact a4
  · rw [h28 e a1 a2, h34, b1]; exact a5
  · rw [h28 e a1 a2, h30 e a1 a2, h34, h34, b1, b4]; exact a6
theorem bmB_of (h28 : ∀ i, w' 28 i = w 28 i) (h29 : ∀ i, w' 29 i = w 29 i) (h30 : ∀ i, w' 30 i = w 30 i) (h34 : ∀ i, w' 34 i = w 34 i) (h4 : w' 27 4 = w 27 4) (h5 : w' 27 5 = w 27 5) (h6 : w' 27 6 = w 27 6) (h7 : w' 27 7 = w 27 7) (h19 : w' 27 19 = w 27 19) (h20 : w' 27 20 = w 27 20) (hh : w' 27 17 ≤ 50) (h : bmB w) : bmB w' := by
  refine ⟨hh, bmE_of h28 h30 h.2.1, ?_, ?_⟩
  · unfold bmJ
    rw [h4, h5, h6, h7]
    exact fun a b c => bmH_of h28 h29 h30 (h.2.2.1 a b c)
  · unfold bmT
    rw [h19]
    exact fun a => bmTi_of h28 h29 h30 h34 h20 (h.2.2.2 a)
/-- the halves are alike -/
theorem bmB_J (h28 : ∀ i, w' 28 i = w 28 i) (h29 : ∀ i, w' 29 i = w 29 i) (h30 : ∀ i, w' 30 i = w 30 i) (h34 : ∀ i, w' 34 i = w 34 i) (h19 : w' 27 19 = w 27 19) (h20 : w' 27 20 = w 27 20) (hh : w' 27 17 ≤ 50) (hH : bmH w) (h : bmB w) : bmB w' := by
  refine ⟨hh, bmE_of h28 h30 h.2.1, fun _ _ _ => bmH_of h28 h29 h30 hH, ?_⟩
  unfold bmT
  rw [h19]
  exact fun a => bmTi_of h28 h29 h30 h34 h20 (h.2.2.2 a)
/-- the power has failed -/
theorem bmB_dn (h28 : ∀ i, w' 28 i = w 28 i) (h29 : ∀ i, w' 29 i = w 29 i) (h30 : ∀ i, w' 30 i = w 30 i) (h34 : ∀ i, w' 34 i = w 34 i) (h19 : w' 27 19 = w 27 19) (h20 : w' 27 20 = w 27 20) (hh : w' 27 17 ≤ 50) (hd : w' 27 5 = 1) (h : bmB w) : bmB w' := by
  refine ⟨hh, bmE_of h28 h30 h.2.1, fun a => absurd a (by omega), ?_⟩
  unfold bmT
  rw [h19]
  exact fun a => bmTi_of h28 h29 h30 h34 h20 (h.2.2.2 a)
theorem bmB_1 (hE : bmE w) (hh : w 27 17 ≤ 50) (hd : w 27 5 = 1) (hs : w 27 19 = 1) : bmB w := ⟨hh, hE, fun a => absurd a (by omega), fun a => absurd a (by omega)⟩
theorem bmB_2 (hE : bmE w) (hh : w 27 17 ≤ 50) (ho : w 27 6 = 1) (hp : 1 ≤ w 27 7) (hs : w 27 19 = 1) : bmB w := ⟨hh, hE, fun _ _ a => by omega, fun a => absurd a (by omega)⟩
theorem bmB_4 (hE : bmE w) (hh : w 27 17 ≤ 50) (hg : w 27 4 = 0) (hs : w 27 19 = 1) : bmB w := ⟨hh, hE, fun _ a => absurd a (by omega), fun a => absurd a (by omega)⟩
theorem bmB_5 (hE : bmE w) (hH : bmH w) (hh : w 27 17 ≤ 50) (hs : w 27 19 = 1) : bmB w := ⟨hh, hE, fun _ _ _ => hH, fun a => absurd a (by omega)⟩
theorem bmB_clear (hc : ∀ e, 0 ≤ e → e < 400 → w 28 e = -1) (hh : w 27 17 ≤ 50) (hs : w 27 19 = 1) : bmB w :=
  ⟨hh, fun e h0 h1 h2 => absurd (hc e h0 h1) h2, fun _ _ _ e h0 h1 => ⟨by rw [hc e h0 (by omega), hc (200 + e) (by omega) (by omega)], fun h => absurd (hc e h0 (by omega)) h⟩, fun a => absurd a (by omega)⟩
theorem bmE_add {wp w1 wq w2 w0 : bgW} {p f x : Int} (e1 : w1 = bgU wp 28 p f) (a1 : ∀ i, wp 28 i = w0 28 i) (e2 : w2 = bgU wq 30 p x) (a2 : ∀ i, wq 30 i = w0 30 i) (h28 : ∀ i, w' 28 i = w1 28 i) (h30 : ∀ i, w' 30 i = w2 30 i) (hx : 1 ≤ x) (hE : bmE w0) : bmE w' := by
  intro e h0 h1 h2
  rw [h28, e1] at h2
  rw [h30, e2]
  by_cases he : e = p
  · subst he
    rw [bgU_eq]
    exact hx
  · rw [bgU_nei he, a1] at h2
    rw [bgU_nei he, a2]
    exact hE e h0 h1 h2
theorem bmE_rm {wp w1 w0 : bgW} {p : Int} (e1 : w1 = bgU wp 28 p (-1)) (a1 : ∀ i, wp 28 i = w0 28 i) (h28 : ∀ i, w' 28 i = w1 28 i) (h30 : ∀ i, w' 30 i = w0 30 i) (hE : bmE w0) : bmE w' := by
  intro e h0 h1 h2
  rw [h28, e1] at h2
  rw [h30]
  by_cases he : e = p
  · subst he
    rw [bgU_eq] at h2
    exact absurd rfl h2
  · rw [bgU_nei he, a1] at h2
    exact hE e h0 h1 h2
/-- behind copy -/
theorem bmE_cp {w0 : bgW} {to fr : Int} (hd : (to = 0 ∧ fr = 200) ∨ (to = 200 ∧ fr = 0)) (r : ∀ k e, (k = 28 ∨ k = 29 ∨ k = 30) → 0 ≤ e → e < 200 → w k (to + e) = w0 k (fr + e) ∧ w k (fr + e) = w0 k (fr + e)) (hE : bmE w0) : bmE w := by
  have key : ∀ x e, 0 ≤ e → e < 200 → (x = to + e ∨ x = fr + e) → w 28 x ≠ -1 → 1 ≤ w 30 x := by
    intro x e h0 h1 hx h2
    have r1 := r 28 e (Or.inl rfl) h0 h1
    have r2 := r 30 e (Or.inr (Or.inr rfl)) h0 h1
    rcases hx with rfl | rfl
    · rw [r1.1] at h2
      rw [r2.1]
      exact hE (fr + e) (by omega) (by omega) h2
    · rw [r1.2] at h2
      rw [r2.2]
      exact hE (fr + e) (by omega) (by omega) h2
  intro e h0 h1 h2
  by_cases hl : e < 200
  · exact key e e h0 hl (by omega) h2
  · exact key e (e - 200) (by omega) (by omega) (by omega) h2
theorem bmH_cp {w0 : bgW} {to fr : Int} (hd : (to = 0 ∧ fr = 200) ∨ (to = 200 ∧ fr = 0)) (r : ∀ k e, (k = 28 ∨ k = 29 ∨ k = 30) → 0 ≤ e → e < 200 → w k (to + e) = w0 k (fr + e) ∧ w k (fr + e) = w0 k (fr + e)) : bmH w := by
  intro e h0 h1
  have q : ∀ k, (k = 28 ∨ k = 29 ∨ k = 30) → w k e = w k (200 + e) := by
    intro k hk
    have r1 := r k e hk h0 h1
    rcases hd with ⟨rfl, rfl⟩ | ⟨rfl, rfl⟩
    · rw [r1.2, ← r1.1, Int.zero_add]
    · rw [r1.1, ← r1.2, Int.zero_add]
  exact ⟨q 28 (Or.inl rfl), fun _ => ⟨q 29 (Or.inr (Or.inl rfl)), q 30 (Or.inr (Or.inr rfl))⟩⟩
end BMI
