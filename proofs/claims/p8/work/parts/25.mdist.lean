/-! run: distances that fall -/
def bmF (w : bgW) : Nat := bcn (fun u => w 34 (u : Int) ≠ -1) 64
def bmPh (w : bgW) : Nat := bsm (fun u => (if w 34 (u : Int) = -1 then 2064322 else w 34 (u : Int)).toNat) 64
def bmD (x : Int) (w : bgW) : Prop := w 34 x = 0 ∧ (∀ v : Int, 0 ≤ v → v < 64 → w 34 v ≠ -1 → w 34 v ≤ 32767 * ((bmF w : Int) - 1)) ∧ (∀ v : Int, 0 ≤ v → v < 64 → -1 ≤ w 34 v) ∧
  ∀ v : Int, 0 ≤ v → v < 64 → w 34 v ≠ -1 → v ≠ x → ∃ e : Int, 0 ≤ e ∧ e < 200 ∧ 0 ≤ w 28 (200 + e) ∧ w 28 (200 + e) < 64 ∧ w 29 (200 + e) = v ∧ w 34 (w 28 (200 + e)) ≠ -1 ∧ w 34 (w 28 (200 + e)) + w 30 (200 + e) ≤ w 34 v
def bmNR (w : bgW) (e : Int) : Prop := w 28 e = -1 ∨ w 34 (w 28 e) = -1 ∨ (w 34 (w 29 e) ≠ -1 ∧ w 34 (w 29 e) ≤ w 34 (w 28 e) + w 30 e)
theorem bmD_init {w : bgW} {x : Int} (hx : 0 ≤ x) (hx2 : x < 64) (h : ∀ v, 0 ≤ v → v < 64 → w 34 v = if v = x then 0 else -1) : bmD x w := by
  have hf : 0 < bmF w := bcn_pos (j := x.toNat) (by omega) (by
    have e : ((x.toNat : Nat) : Int) = x := by omega
    rw [e, h x hx hx2, if_pos rfl]
    decide)
  refine ⟨by rw [h x hx hx2, if_pos rfl], fun v h0 h1 h2 => ?_, fun v h0 h1 => ?_, fun v h0 h1 h2 h3 => ?_⟩
  · rw [h v h0 h1] at h2 ⊢
    by_cases hv : v = x
    · rw [if_pos hv]; omega
    · rw [if_neg hv] at h2; exact absurd rfl h2
  · rw [h v h0 h1]
    split <;> omega
  · rw [h v h0 h1, if_neg h3] at h2
    exact absurd rfl h2
theorem bmRelax {w : bgW} {x e : Int} (hD : bmD x w) (hx : 0 ≤ x) (hx2 : x ≤ 63) (he : 200 ≤ e) (he2 : e < 400) (r1 : 0 ≤ w 28 e) (r2 : w 28 e ≤ 63) (r3 : 0 ≤ w 29 e) (r4 : w 29 e ≤ 63) (r5 : 1 ≤ w 30 e) (r6 : w 30 e ≤ 32767) (h1 : w 34 (w 28 e) ≠ -1) (h2 : w 34 (w 29 e) = -1 ∨ w 34 (w 28 e) + w 30 e < w 34 (w 29 e)) :
    w 34 (w 28 e) + w 30 e ≤ 2064321 ∧ bmD x (bgU w 34 (w 29 e) (w 34 (w 28 e) + w 30 e)) ∧ bmPh (bgU w 34 (w 29 e) (w 34 (w 28 e) + w 30 e)) < bmPh w := by
  obtain ⟨d1, d2, d3, d4⟩ := hD
  generalize hu : w 28 e = u at *
  generalize ht : w 29 e = t at *
  generalize hd : w 34 u + w 30 e = d at *
  have g1 := d3 u r1 (by omega)
  have g2 := d3 t r3 (by omega)
  have hub := d2 u r1 (by omega) h1
  have hut : u ≠ t := by
    intro q
    subst q
    omega
  have htx : t ≠ x := by
    intro q
    subst q
    omega
  have o : ∀ k i, (k ≠ 34 ∨ i ≠ t) → bgU w 34 t d k i = w k i := by
    intro k i h
    rcases h with h | h
    · exact bgU_ne i h
    · exact bgU_nei h
  have n : bgU w 34 t d 34 t = d := bgU_eq
  have hd1 : d ≠ -1 := by omega
  have ct : ((t.toNat : Nat) : Int) = t := by omega
  have hm : bmF w ≤ bmF (bgU w 34 t d) := bcn_mono 64 (fun i hi hp => by
    by_cases q : (i : Int) = t
    · show bgU w 34 t d 34 (i : Int) ≠ -1
      rw [q, n]; exact hd1
    · show bgU w 34 t d 34 (i : Int) ≠ -1
      rw [o 34 _ (Or.inr q)]; exact hp)
  have hs : w 34 t = -1 → bmF w < bmF (bgU w 34 t d) := fun q => bcn_lt 64 t.toNat (fun i hi hp => by
    by_cases q : (i : Int) = t
    · show bgU w 34 t d 34 (i : Int) ≠ -1
      rw [q, n]; exact hd1
    · show bgU w 34 t d 34 (i : Int) ≠ -1
      rw [o 34 _ (Or.inr q)]; exact hp) (by omega) (fun hp => by
        have hp' : w 34 ((t.toNat : Nat) : Int) ≠ -1 := hp
        rw [ct] at hp'
        exact hp' q) (by
        show bgU w 34 t d 34 ((t.toNat : Nat) : Int) ≠ -1
        rw [ct, n]; exact hd1)
  have h64 : bmF (bgU w 34 t d) ≤ 64 := bcn_le _ 64
  have hdb : d ≤ 32767 * ((bmF (bgU w 34 t d) : Int) - 1) := by
    rcases h2 with q | q
    · have := hs q
      omega
    · have := d2 t r3 (by omega) (by omega)
      omega
  refine ⟨by omega, ⟨?_, fun v h0 h3 h4 => ?_, fun v h0 h3 => ?_, fun v h0 h3 h4 h5 => ?_⟩, ?_⟩
  · rw [o 34 x (Or.inr (fun q => htx q.symm))]; exact d1
  · by_cases q : v = t
    · subst q
      rw [n]; exact hdb
    · rw [o 34 v (Or.inr q)] at h4 ⊢
      have := d2 v h0 h3 h4
      omega
  · by_cases q : v = t
    · subst q
      rw [n]; omega
    · rw [o 34 v (Or.inr q)]; exact d3 v h0 h3
  · by_cases q : v = t
    · subst q
      refine ⟨e - 200, by omega, by omega, ?_, ?_, ?_, ?_, ?_⟩
      · rw [o 28 _ (Or.inl (by decide)), show 200 + (e - 200) = e by omega, hu]; exact r1
      · rw [o 28 _ (Or.inl (by decide)), show 200 + (e - 200) = e by omega, hu]; omega
      · rw [o 29 _ (Or.inl (by decide)), show 200 + (e - 200) = e by omega, ht]
      · rw [o 28 _ (Or.inl (by decide)), show 200 + (e - 200) = e by omega, hu, o 34 u (Or.inr hut)]; exact h1
      · rw [o 28 _ (Or.inl (by decide)), show 200 + (e - 200) = e by omega, hu, o 34 u (Or.inr hut), o 30 _ (Or.inl (by decide)), n, hd]
        exact Int.le_refl _
    · rw [o 34 v (Or.inr q)] at h4
      obtain ⟨f, a1, a2, a3, a4, a5, a6, a7⟩ := d4 v h0 h3 h4 h5
      have key : bgU w 34 t d 34 (w 28 (200 + f)) ≠ -1 ∧ bgU w 34 t d 34 (w 28 (200 + f)) ≤ w 34 (w 28 (200 + f)) := by
        by_cases q2 : w 28 (200 + f) = t
        · rw [q2, n]
          rw [q2] at a6
          exact ⟨hd1, by omega⟩
        · rw [o 34 _ (Or.inr q2)]
          exact ⟨a6, Int.le_refl _⟩
      refine ⟨f, a1, a2, ?_, ?_, ?_, ?_, ?_⟩
      · rw [o 28 _ (Or.inl (by decide))]; exact a3
      · rw [o 28 _ (Or.inl (by decide))]; exact a4
      · rw [o 29 _ (Or.inl (by decide))]; exact a5
      · rw [o 28 _ (Or.inl (by decide))]; exact key.1
      · rw [o 28 _ (Or.inl (by decide)), o 30 _ (Or.inl (by decide)), o 34 v (Or.inr q)]
        omega
  · refine bsm_lt 64 t.toNat (fun i hi => ?_) (by omega) ?_
    · by_cases q : (i : Int) = t
      · rw [q, n, if_neg hd1]
        split <;> omega
      · rw [o 34 _ (Or.inr q)]
        exact Nat.le_refl _
    · rw [ct, n, if_neg hd1]
      split <;> omega
theorem bmTi_fin {w : bgW} {x : Int} (hD : bmD x w) (hs : w 27 20 = x) (hN : ∀ e, 200 ≤ e → e < 400 → bmNR w e) : bmTi w := by
  intro v h0 h1 h2 h3
  rw [hs] at h3
  obtain ⟨e, a1, a2, a3, a4, a5, a6, a7⟩ := hD.2.2.2 v h0 h1 h2 h3
  refine ⟨e, a1, a2, by omega, a5, a6, ?_⟩
  rcases hN (200 + e) (by omega) (by omega) with q | q | q
  · omega
  · exact absurd q a6
  · rw [a5] at q
    omega
/-! way: vertices that are nearer -/
def bmCt (w : bgW) (y : Int) : Nat := bcn (fun u => w 34 (u : Int) ≠ -1 ∧ w 34 (u : Int) < w 34 y) 64
theorem bmCt_le {w : bgW} {y : Int} (h0 : 0 ≤ y) (h1 : y ≤ 63) : bmCt w y ≤ 63 := by
  have h := bcn_not (P := fun u : Nat => w 34 (u : Int) ≠ -1 ∧ w 34 (u : Int) < w 34 y) (m := 64) (j := y.toNat) (by omega) (by
    have e : ((y.toNat : Nat) : Int) = y := by omega
    rw [e]
    exact fun q => absurd q.2 (by omega))
  have : bmCt w y < 64 := h
  omega
theorem bmCt_lt {w : bgW} {y v : Int} (hE : bmE w) (hv : 0 ≤ v) (hv2 : v ≤ 199) (h1 : w 28 (200 + v) ≠ -1) (h2 : 0 ≤ w 28 (200 + v)) (h3 : w 28 (200 + v) ≤ 63) (h4 : w 34 (w 28 (200 + v)) ≠ -1) (h5 : w 34 (w 28 (200 + v)) + w 30 (200 + v) = w 34 y) : bmCt w (w 28 (200 + v)) < bmCt w y := by
  have he := hE (200 + v) (by omega) (by omega) h1
  generalize w 28 (200 + v) = u at *
  have e : ((u.toNat : Nat) : Int) = u := by omega
  refine bcn_lt 64 u.toNat (fun i _ hp => ⟨hp.1, by have := hp.2; omega⟩) (by omega) ?_ ?_
  · rw [e]
    exact fun q => absurd q.2 (by omega)
  · rw [e]
    exact ⟨h4, by omega⟩
theorem bmWay2 {w0 w : bgW} {y v y' n : Int} (hE : bmE w0) (q : v = -1 ∨ (0 ≤ v ∧ w0 28 (200 + v) ≠ -1 ∧ w0 34 (w0 28 (200 + v)) ≠ -1 ∧ w0 34 (w0 28 (200 + v)) + w0 30 (200 + v) = w0 34 y)) (h28 : ∀ i, w 28 i = w0 28 i) (e : y' = w 28 (200 + v)) (hv : v ≤ 199) (hn : ¬ v = -1) (hy : -1 ≤ y' ∧ y' ≤ 63) (hb : n + (bmCt w0 y : Int) ≤ 63) : n + 1 + (bmCt w0 y' : Int) ≤ 63 := by
  obtain ⟨a1, a2, a3, a4⟩ := q.resolve_left hn
  rw [h28] at e
  subst e
  have := bmCt_lt hE a1 hv a2 (by omega) (by omega) a3 a4
  omega
theorem bmWay3 {w0 : bgW} {y : Int} (h : ¬ y = -1) : (if (-1 : Int) = -1 then 0 else bmCt w0 (-1) + 1) < (if y = -1 then 0 else bmCt w0 y + 1) := by
  rw [if_pos rfl, if_neg h]
  omega
theorem bmWay4 {w0 w : bgW} {y v y' : Int} (hE : bmE w0) (q : v = -1 ∨ (0 ≤ v ∧ w0 28 (200 + v) ≠ -1 ∧ w0 34 (w0 28 (200 + v)) ≠ -1 ∧ w0 34 (w0 28 (200 + v)) + w0 30 (200 + v) = w0 34 y)) (h28 : ∀ i, w 28 i = w0 28 i) (e : y' = w 28 (200 + v)) (hv : v ≤ 199) (hn : ¬ v = -1) (hy : -1 ≤ y' ∧ y' ≤ 63 ∧ ¬ y = -1) : (if y' = -1 then 0 else bmCt w0 y' + 1) < (if y = -1 then 0 else bmCt w0 y + 1) := by
  obtain ⟨a1, a2, a3, a4⟩ := q.resolve_left hn
  rw [h28] at e
  subst e
  have := bmCt_lt hE a1 hv a2 (by omega) (by omega) a3 a4
  rw [if_neg a2, if_neg hy.2.2]
  omega
theorem bmIni {w w' : bgW} {x i d : Int} (q : ∀ v, 0 ≤ v → v < i → w 34 v = if v = x then 0 else -1) (e : w' = bgU w 34 i d) (hd : (i = x ∧ d = 0) ∨ (¬ i = x ∧ d = -1)) : ∀ v, 0 ≤ v → v < i + 1 → w' 34 v = if v = x then 0 else -1 := by
  intro v h0 h1
  subst e
  by_cases hv : v = i
  · subst hv
    rw [bgU_eq]
    rcases hd with ⟨a, b⟩ | ⟨a, b⟩
    · rw [if_pos a, b]
    · rw [if_neg a, b]
  · rw [bgU_nei hv]
    exact q v h0 (by omega)
theorem bmNRs {w : bgW} {m e f : Int} (q : m = 0 → ∀ f, 200 ≤ f → f < e → bmNR w f) (hm : m = 0) (h1 : 200 ≤ f) (h2 : f < e + 1) (h : bmNR w e) : bmNR w f := by
  by_cases hf : f = e
  · rw [hf]; exact h
  · exact q hm f h1 (by omega)
