/-! the world behind the two constructors -/
def wI : bgW := fun k i => if k = 1 ∧ i = 0 then (-1) else if k = 2 ∧ i = 3 then 8 else if k = 27 ∧ i = 5 then 1 else if k = 27 ∧ i = 13 then (-1) else if k = 27 ∧ i = 18 then 8 else if k = 27 ∧ i = 19 then 1 else if k = 28 ∧ i < 400 then -1 else 0
abbrev xwf (G : bgGl) (f : Nat → Int32) : List va_E := [.inr (0, [(cr G 1), (cr G 2), (cr G 4), (cr G 14), (cr G 18), (cr G 23), (cn 0), (cn 0), (cn 0)]), .inr (1, [(cn (-1)), (cn 0)]), .inr (2, [(cr G 3), (cn 0), (cn 0), (cn 8)]), ca G 0 50, .inr (3, [(cr G 1), (cr G 2), (cr G 5), (cr G 10), (cn 0), (cn 0)]), .inr (4, [(cr G 6), (cr G 7), (cr G 8), (cr G 9), (cn 0)]), ca G 0 20, ca G 0 20, ca G 0 20, ca G 0 20, .inr (5, [(cr G 11), (cr G 12), (cr G 13), (cn 0)]), ca G 0 200, ca G 0 200, ca G 0 200, .inr (5, [(cr G 15), (cr G 16), (cr G 17), (cn 0)]), ca G 0 200, ca G 0 200, ca G 0 200, .inr (4, [(cr G 19), (cr G 20), (cr G 21), (cr G 22), (cn 0)]), ca G 0 20, ca G 0 20, ca G 0 20, ca G 0 20, .inr (6, [(cr G 24), (cr G 25), (cr G 26), (cn 0)]), ca G 0 64, ca G 0 64, ca G 0 64, .inr (7, [cz, (cr G 28), (cr G 29), (cr G 30), cz, (cn 1), cz, cz, (cr G 31), (cr G 32), cz, cz, cz, (cn (-1)), cz, cz, (cr G 33), cz, (cn 8), (cn 1), cz, (cr G 34), (cr G 35)]), .inl (G.2.2.1 0, 400, .inl f), ca G 0 400, ca G 0 400, ca G 1 50, ca G 1 50, ca G 0 51, ca G 0 64, ca G 0 64, cj G 1]
theorem clF_w : clF 400 = fun j : Nat => Int32.ofInt (wI 28 (j : Int)) := by
  funext j
  have e : wI 28 (j : Int) = if (j : Int) < 400 then -1 else 0 := by simp [wI]
  rw [e]
  unfold clF
  by_cases h : j < 400
  · rw [if_pos h, if_pos (by omega)]
    rfl
  · rw [if_neg h, if_neg (by omega)]
    rfl
theorem wI_0 {k : Nat} {i : Int} (h1 : k ≠ 1) (h2 : k ≠ 2) (h3 : k ≠ 27) (h4 : k ≠ 28) : wI k i = 0 := by
  unfold wI
  repeat rw [if_neg (fun q => by omega)]
theorem wI_ar {k : Nat} (h1 : k ≠ 1) (h2 : k ≠ 2) (h3 : k ≠ 27) (h4 : k ≠ 28) : (fun j : Nat => Int32.ofInt (wI k (j : Int))) = fun _ => 0 := by
  funext j
  rw [wI_0 h1 h2 h3 h4]
  rfl
theorem wI_lo {k : Nat} (h1 : k ≠ 1) (h2 : k ≠ 2) (h3 : k ≠ 27) (h4 : k ≠ 28) : (fun j : Nat => Int64.ofInt (wI k (j : Int))) = fun _ => 0 := by
  funext j
  rw [wI_0 h1 h2 h3 h4]
  rfl
theorem en_0 (G : bgGl) : bgE G.2.2.1 G.2.1 wI 0 = .inr (0, [(cr G 1), (cr G 2), (cr G 4), (cr G 14), (cr G 18), (cr G 23), (cn 0), (cn 0), (cn 0)]) := by
  rw [bgE_obj (ci := 0) rfl]
  rfl
theorem en_1 (G : bgGl) : bgE G.2.2.1 G.2.1 wI 1 = .inr (1, [(cn (-1)), (cn 0)]) := by
  rw [bgE_obj (ci := 1) rfl]
  rfl
theorem en_2 (G : bgGl) : bgE G.2.2.1 G.2.1 wI 2 = .inr (2, [(cr G 3), (cn 0), (cn 0), (cn 8)]) := by
  rw [bgE_obj (ci := 2) rfl]
  rfl
theorem en_3 (G : bgGl) : bgE G.2.2.1 G.2.1 wI 3 = ca G 0 50 := by rw [bgE_arr (n := 50) (t := 0) rfl (by decide), wI_ar (by decide) (by decide) (by decide) (by decide)]
theorem en_4 (G : bgGl) : bgE G.2.2.1 G.2.1 wI 4 = .inr (3, [(cr G 1), (cr G 2), (cr G 5), (cr G 10), (cn 0), (cn 0)]) := by
  rw [bgE_obj (ci := 3) rfl]
  rfl
theorem en_5 (G : bgGl) : bgE G.2.2.1 G.2.1 wI 5 = .inr (4, [(cr G 6), (cr G 7), (cr G 8), (cr G 9), (cn 0)]) := by
  rw [bgE_obj (ci := 4) rfl]
  rfl
theorem en_6 (G : bgGl) : bgE G.2.2.1 G.2.1 wI 6 = ca G 0 20 := by rw [bgE_arr (n := 20) (t := 0) rfl (by decide), wI_ar (by decide) (by decide) (by decide) (by decide)]
theorem en_7 (G : bgGl) : bgE G.2.2.1 G.2.1 wI 7 = ca G 0 20 := by rw [bgE_arr (n := 20) (t := 0) rfl (by decide), wI_ar (by decide) (by decide) (by decide) (by decide)]
theorem en_8 (G : bgGl) : bgE G.2.2.1 G.2.1 wI 8 = ca G 0 20 := by rw [bgE_arr (n := 20) (t := 0) rfl (by decide), wI_ar (by decide) (by decide) (by decide) (by decide)]
theorem en_9 (G : bgGl) : bgE G.2.2.1 G.2.1 wI 9 = ca G 0 20 := by rw [bgE_arr (n := 20) (t := 0) rfl (by decide), wI_ar (by decide) (by decide) (by decide) (by decide)]
theorem en_10 (G : bgGl) : bgE G.2.2.1 G.2.1 wI 10 = .inr (5, [(cr G 11), (cr G 12), (cr G 13), (cn 0)]) := by
  rw [bgE_obj (ci := 5) rfl]
  rfl
theorem en_11 (G : bgGl) : bgE G.2.2.1 G.2.1 wI 11 = ca G 0 200 := by rw [bgE_arr (n := 200) (t := 0) rfl (by decide), wI_ar (by decide) (by decide) (by decide) (by decide)]
theorem en_12 (G : bgGl) : bgE G.2.2.1 G.2.1 wI 12 = ca G 0 200 := by rw [bgE_arr (n := 200) (t := 0) rfl (by decide), wI_ar (by decide) (by decide) (by decide) (by decide)]
theorem en_13 (G : bgGl) : bgE G.2.2.1 G.2.1 wI 13 = ca G 0 200 := by rw [bgE_arr (n := 200) (t := 0) rfl (by decide), wI_ar (by decide) (by decide) (by decide) (by decide)]
theorem en_14 (G : bgGl) : bgE G.2.2.1 G.2.1 wI 14 = .inr (5, [(cr G 15), (cr G 16), (cr G 17), (cn 0)]) := by
  rw [bgE_obj (ci := 5) rfl]
  rfl
theorem en_15 (G : bgGl) : bgE G.2.2.1 G.2.1 wI 15 = ca G 0 200 := by rw [bgE_arr (n := 200) (t := 0) rfl (by decide), wI_ar (by decide) (by decide) (by decide) (by decide)]
theorem en_16 (G : bgGl) : bgE G.2.2.1 G.2.1 wI 16 = ca G 0 200 := by rw [bgE_arr (n := 200) (t := 0) rfl (by decide), wI_ar (by decide) (by decide) (by decide) (by decide)]
theorem en_17 (G : bgGl) : bgE G.2.2.1 G.2.1 wI 17 = ca G 0 200 := by rw [bgE_arr (n := 200) (t := 0) rfl (by decide), wI_ar (by decide) (by decide) (by decide) (by decide)]
theorem en_18 (G : bgGl) : bgE G.2.2.1 G.2.1 wI 18 = .inr (4, [(cr G 19), (cr G 20), (cr G 21), (cr G 22), (cn 0)]) := by
  rw [bgE_obj (ci := 4) rfl]
  rfl
theorem en_19 (G : bgGl) : bgE G.2.2.1 G.2.1 wI 19 = ca G 0 20 := by rw [bgE_arr (n := 20) (t := 0) rfl (by decide), wI_ar (by decide) (by decide) (by decide) (by decide)]
theorem en_20 (G : bgGl) : bgE G.2.2.1 G.2.1 wI 20 = ca G 0 20 := by rw [bgE_arr (n := 20) (t := 0) rfl (by decide), wI_ar (by decide) (by decide) (by decide) (by decide)]
theorem en_21 (G : bgGl) : bgE G.2.2.1 G.2.1 wI 21 = ca G 0 20 := by rw [bgE_arr (n := 20) (t := 0) rfl (by decide), wI_ar (by decide) (by decide) (by decide) (by decide)]
theorem en_22 (G : bgGl) : bgE G.2.2.1 G.2.1 wI 22 = ca G 0 20 := by rw [bgE_arr (n := 20) (t := 0) rfl (by decide), wI_ar (by decide) (by decide) (by decide) (by decide)]
theorem en_23 (G : bgGl) : bgE G.2.2.1 G.2.1 wI 23 = .inr (6, [(cr G 24), (cr G 25), (cr G 26), (cn 0)]) := by
  rw [bgE_obj (ci := 6) rfl]
  rfl
theorem en_24 (G : bgGl) : bgE G.2.2.1 G.2.1 wI 24 = ca G 0 64 := by rw [bgE_arr (n := 64) (t := 0) rfl (by decide), wI_ar (by decide) (by decide) (by decide) (by decide)]
theorem en_25 (G : bgGl) : bgE G.2.2.1 G.2.1 wI 25 = ca G 0 64 := by rw [bgE_arr (n := 64) (t := 0) rfl (by decide), wI_ar (by decide) (by decide) (by decide) (by decide)]
theorem en_26 (G : bgGl) : bgE G.2.2.1 G.2.1 wI 26 = ca G 0 64 := by rw [bgE_arr (n := 64) (t := 0) rfl (by decide), wI_ar (by decide) (by decide) (by decide) (by decide)]
theorem en_27 (G : bgGl) : bgE G.2.2.1 G.2.1 wI 27 = .inr (7, [cz, (cr G 28), (cr G 29), (cr G 30), cz, (cn 1), cz, cz, (cr G 31), (cr G 32), cz, cz, cz, (cn (-1)), cz, cz, (cr G 33), cz, (cn 8), (cn 1), cz, (cr G 34), (cr G 35)]) := by
  rw [bgE_obj (ci := 7) rfl]
  rfl
theorem en_28 (G : bgGl) : bgE G.2.2.1 G.2.1 wI 28 = .inl (G.2.2.1 0, 400, .inl (clF 400)) := by rw [bgE_arr (n := 400) (t := 0) rfl (by decide), clF_w]
theorem en_29 (G : bgGl) : bgE G.2.2.1 G.2.1 wI 29 = ca G 0 400 := by rw [bgE_arr (n := 400) (t := 0) rfl (by decide), wI_ar (by decide) (by decide) (by decide) (by decide)]
theorem en_30 (G : bgGl) : bgE G.2.2.1 G.2.1 wI 30 = ca G 0 400 := by rw [bgE_arr (n := 400) (t := 0) rfl (by decide), wI_ar (by decide) (by decide) (by decide) (by decide)]
theorem en_31 (G : bgGl) : bgE G.2.2.1 G.2.1 wI 31 = ca G 1 50 := by rw [bgE_arr (n := 50) (t := 1) rfl (by decide), wI_ar (by decide) (by decide) (by decide) (by decide)]
theorem en_32 (G : bgGl) : bgE G.2.2.1 G.2.1 wI 32 = ca G 1 50 := by rw [bgE_arr (n := 50) (t := 1) rfl (by decide), wI_ar (by decide) (by decide) (by decide) (by decide)]
theorem en_33 (G : bgGl) : bgE G.2.2.1 G.2.1 wI 33 = ca G 0 51 := by rw [bgE_arr (n := 51) (t := 0) rfl (by decide), wI_ar (by decide) (by decide) (by decide) (by decide)]
theorem en_34 (G : bgGl) : bgE G.2.2.1 G.2.1 wI 34 = ca G 0 64 := by rw [bgE_arr (n := 64) (t := 0) rfl (by decide), wI_ar (by decide) (by decide) (by decide) (by decide)]
theorem en_35 (G : bgGl) : bgE G.2.2.1 G.2.1 wI 35 = ca G 0 64 := by rw [bgE_arr (n := 64) (t := 0) rfl (by decide), wI_ar (by decide) (by decide) (by decide) (by decide)]
theorem en_36 (G : bgGl) : bgE G.2.2.1 G.2.1 wI 36 = cj G 1 := by rw [bgE_lon (n := 1) rfl, wI_lo (by decide) (by decide) (by decide) (by decide)]
set_option maxRecDepth 20000 in
set_option maxHeartbeats 4000000 in
theorem xw_P {G : bgGl} {D : va_G} {H : Heap} (hP : va_P D bgCl (cE G.2.1 (xl_93 G)) H) : va_P D bgCl (bgL G.2.2.1 G.2.1 wI) H := by
  intro k q hk
  obtain ⟨hlt, rfl⟩ := bgL_get hk
  have hlt2 : k < 37 := hlt
  rcases (show k = 0 ∨ k = 1 ∨ k = 2 ∨ k = 3 ∨ k = 4 ∨ k = 5 ∨ k = 6 ∨ k = 7 ∨ k = 8 ∨ k = 9 ∨ k = 10 ∨ k = 11 ∨ k = 12 ∨ k = 13 ∨ k = 14 ∨ k = 15 ∨ k = 16 ∨ k = 17 ∨ k = 18 ∨ k = 19 ∨ k = 20 ∨ k = 21 ∨ k = 22 ∨ k = 23 ∨ k = 24 ∨ k = 25 ∨ k = 26 ∨ k = 27 ∨ k = 28 ∨ k = 29 ∨ k = 30 ∨ k = 31 ∨ k = 32 ∨ k = 33 ∨ k = 34 ∨ k = 35 ∨ k = 36 by omega) with rfl | rfl | rfl | rfl | rfl | rfl | rfl | rfl | rfl | rfl | rfl | rfl | rfl | rfl | rfl | rfl | rfl | rfl | rfl | rfl | rfl | rfl | rfl | rfl | rfl | rfl | rfl | rfl | rfl | rfl | rfl | rfl | rfl | rfl | rfl | rfl | rfl
  · rw [en_0]
    exact hP 0 _ (cE_at rfl)
  · rw [en_1]
    exact hP 1 _ (cE_at rfl)
  · rw [en_2]
    exact hP 2 _ (cE_at rfl)
  · rw [en_3]
    exact hP 3 _ (cE_at rfl)
  · rw [en_4]
    exact hP 4 _ (cE_at rfl)
  · rw [en_5]
    exact hP 5 _ (cE_at rfl)
  · rw [en_6]
    exact hP 6 _ (cE_at rfl)
  · rw [en_7]
    exact hP 7 _ (cE_at rfl)
  · rw [en_8]
    exact hP 8 _ (cE_at rfl)
  · rw [en_9]
    exact hP 9 _ (cE_at rfl)
  · rw [en_10]
    exact hP 10 _ (cE_at rfl)
  · rw [en_11]
    exact hP 11 _ (cE_at rfl)
  · rw [en_12]
    exact hP 12 _ (cE_at rfl)
  · rw [en_13]
    exact hP 13 _ (cE_at rfl)
  · rw [en_14]
    exact hP 14 _ (cE_at rfl)
  · rw [en_15]
    exact hP 15 _ (cE_at rfl)
  · rw [en_16]
    exact hP 16 _ (cE_at rfl)
  · rw [en_17]
    exact hP 17 _ (cE_at rfl)
  · rw [en_18]
    exact hP 18 _ (cE_at rfl)
  · rw [en_19]
    exact hP 19 _ (cE_at rfl)
  · rw [en_20]
    exact hP 20 _ (cE_at rfl)
  · rw [en_21]
    exact hP 21 _ (cE_at rfl)
  · rw [en_22]
    exact hP 22 _ (cE_at rfl)
  · rw [en_23]
    exact hP 23 _ (cE_at rfl)
  · rw [en_24]
    exact hP 24 _ (cE_at rfl)
  · rw [en_25]
    exact hP 25 _ (cE_at rfl)
  · rw [en_26]
    exact hP 26 _ (cE_at rfl)
  · rw [en_27]
    exact hP 27 _ (cE_at rfl)
  · rw [en_28]
    exact hP 28 _ (cE_at rfl)
  · rw [en_29]
    exact hP 29 _ (cE_at rfl)
  · rw [en_30]
    exact hP 30 _ (cE_at rfl)
  · rw [en_31]
    exact hP 31 _ (cE_at rfl)
  · rw [en_32]
    exact hP 32 _ (cE_at rfl)
  · rw [en_33]
    exact hP 33 _ (cE_at rfl)
  · rw [en_34]
    exact hP 34 _ (cE_at rfl)
  · rw [en_35]
    exact hP 35 _ (cE_at rfl)
  · rw [en_36]
    exact hP 36 _ (cE_at rfl)
def wIck (k : Nat) (i : Int) (r : Option (Int × Int)) : Bool := match r with
  | some q => decide (q.1 ≤ wI k i) && decide (wI k i ≤ q.2)
  | none => true
theorem wIck_of {k : Nat} {i lo hi : Int} {r : Option (Int × Int)} (h : wIck k i r = true) (e : r = some (lo, hi)) : lo ≤ wI k i ∧ wI k i ≤ hi := by
  subst e
  simpa [wIck] using h
/-- behind the fields' places there is 0, and no range -/
theorem wI_out {k : Nat} {i : Int} (hk : k ≠ 28) (h : i < 0 ∨ 30 ≤ i) : wI k i = 0 := by
  unfold wI
  repeat rw [if_neg (fun q => by omega)]
set_option maxRecDepth 20000 in
theorem wI_in1 : ∀ (k : Fin 27) (j : Fin 30), wIck k.val (j.val : Int) (bgRg k.val (j.val : Int)) = true := by decide +kernel
set_option maxRecDepth 20000 in
theorem wI_in2 : ∀ (k : Fin 10) (j : Fin 30), wIck (k.val + 27) (j.val : Int) (moRg (k.val + 27) (j.val : Int)) = true := by decide +kernel
def wIz (r : Option (Int × Int)) : Bool := match r with
  | some q => decide (q.1 ≤ 0) && decide (0 ≤ q.2)
  | none => true
def wIzl (x : Option (Int × Int) ⊕ List (Option (Int × Int))) : Bool := match x with
  | .inl r => wIz r
  | .inr l => wIz ((l[0]?).join) && decide (l.length ≤ 30)
theorem wI_z1 : bgRt.all wIzl = true := by decide +kernel
theorem wI_z2 : moRt.all wIzl = true := by decide +kernel
theorem wIz_of {lo hi : Int} {r : Option (Int × Int)} (h : wIz r = true) (e : r = some (lo, hi)) : lo ≤ 0 ∧ 0 ≤ hi := by
  subst e
  simpa [wIz] using h
theorem wIzl_of {lo hi i : Int} {x : Option (Int × Int) ⊕ List (Option (Int × Int))} (hx : wIzl x = true) (hi0 : i < 0 ∨ 30 ≤ i) (e : (match x with | .inl r => r | .inr l => (l[i.toNat]?).join) = some (lo, hi)) : lo ≤ 0 ∧ 0 ≤ hi := by
  cases x with
  | inl r => exact wIz_of hx e
  | inr l =>
    simp only [wIzl, Bool.and_eq_true, decide_eq_true_eq] at hx
    rcases hi0 with h | h
    · have e2 : i.toNat = 0 := by omega
      rw [e2] at e
      exact wIz_of hx.1 e
    · have e2 : l[i.toNat]? = none := List.getElem?_eq_none (by omega)
      simp only [e2] at e
      cases e
theorem bgN_wI : bgN wI := by
  intro k i hk lo hi h
  by_cases hi0 : 0 ≤ i ∧ i < 30
  · have e : i = ((⟨i.toNat, by omega⟩ : Fin 30).val : Int) := by
      show i = (i.toNat : Int)
      omega
    rw [e] at h ⊢
    exact wIck_of (wI_in1 ⟨k, hk⟩ ⟨i.toNat, by omega⟩) h
  · have h27 : bgMo = 27 := rfl
    rw [wI_out (by omega) (by omega)]
    unfold bgRg at h
    cases hx : bgRt[k]? with
    | none => rw [hx] at h; cases h
    | some x =>
      rw [hx] at h
      refine wIzl_of (x := x) (i := i) (List.all_eq_true.mp wI_z1 x (List.mem_of_getElem? hx)) (by omega) ?_
      cases x <;> exact h
theorem moN_wI : moN wI := by
  intro k i lo hi h
  have h27 : bgMo = 27 := rfl
  by_cases hk1 : k < bgMo
  · rw [moRg_lo hk1] at h
    cases h
  by_cases hk2 : 37 ≤ k
  · rw [moRg_hi (by omega)] at h
    cases h
  by_cases hi0 : 0 ≤ i ∧ i < 30
  · have e : i = ((⟨i.toNat, by omega⟩ : Fin 30).val : Int) := by
      show i = (i.toNat : Int)
      omega
    have ek : k = (⟨k - 27, by omega⟩ : Fin 10).val + 27 := by
      show k = k - 27 + 27
      omega
    rw [e, ek] at h ⊢
    exact wIck_of (wI_in2 ⟨k - 27, by omega⟩ ⟨i.toNat, by omega⟩) h
  · by_cases h28 : k = 28
    · subst h28
      have e1 : moRg 28 i = some (-1, 63) := rfl
      rw [e1] at h
      cases h
      have e2 : wI 28 i = if i < 400 then -1 else 0 := by simp [wI]
      rw [e2]
      by_cases hc : i < 400
      · rw [if_pos hc]; omega
      · rw [if_neg hc]; omega
    · rw [wI_out h28 (by omega)]
      unfold moRg at h
      cases hx : moRt[k - bgMo]? with
      | none => rw [hx] at h; cases h
      | some x =>
        rw [hx] at h
        refine wIzl_of (x := x) (i := i) (List.all_eq_true.mp wI_z2 x (List.mem_of_getElem? hx)) (by omega) ?_
        cases x with
        | inl r => exact (if_neg hk1).symm.trans h
        | inr l => exact (if_neg hk1).symm.trans h
theorem lwOk_wI : lwOk wI := by
  refine ⟨bgN_wI, moN_wI, bmB_clear (fun e h0 h1 => ?_) (by decide) (by decide)⟩
  have e2 : wI 28 e = if e < 400 then -1 else 0 := by simp [wI]
  rw [e2, if_pos h1]
