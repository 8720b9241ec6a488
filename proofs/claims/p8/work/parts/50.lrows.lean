/-! the law's own rows: the script at the number 99, the mask, a helper's call, the end -/
def lwSv (ss : Nat → Int32) (i : Int) : Int := (ss i.toNat).toInt
theorem lwSv_r {ss : Nat → Int32} {i : Int} : -2147483648 ≤ lwSv ss i ∧ lwSv ss i ≤ 2147483647 := by
  have h1 := Int32.le_toInt (ss i.toNat)
  have h2 := Int32.toInt_lt (ss i.toNat)
  unfold lwSv
  omega
theorem lwSv_i {ss : Nat → Int32} {i : Int} : Int32.ofInt (lwSv ss i) = ss i.toNat := Int32.ofInt_toInt _
theorem lw_and15 (x : Int32) : 0 ≤ (x &&& Int32.ofInt 15).toInt ∧ (x &&& Int32.ofInt 15).toInt ≤ 15 := by
  have e : (x &&& Int32.ofInt 15).toInt = (x.toBitVec &&& 15#32).toInt := rfl
  have n1 : (x.toBitVec &&& 15#32).toNat ≤ (15#32).toNat := by
    rw [BitVec.toNat_and]
    exact Nat.and_le_right
  have n2 : (15#32).toNat = 15 := rfl
  rw [e, BitVec.toInt_eq_toNat_of_lt (by omega)]
  omega
section LW1
variable {K : bgK} {own : String} {cc : ByteArray} {nL : Nat} {rt : Option FieldType} {bb pu : Bool} {n z c0 z0 : Nat} {Q : State → Prop} {w : bgW} {pc pc' : Nat} {L : List (Option bgV)} {stk st av : List bgV} {b N : Nat} {ss : Nat → Int32} {y : MethodName} {cw : Cond} {nY : Nat} {rm : Room} {φi : Int → bgW → Prop}
theorem bg_slen (C : bgCx K own cc nL rt) (hX : va_X b N ss (kS K) (kS K).heap) (hb : b < (kS K).heap.size) (hA : ¬ bgA K.1 b) (he : kAd K 99 = b) (hd : bgd cc pc .arraylength 1 pc') (kk : bgX K bb n z Q w pc' L (bi (N : Int) :: st)) : bgX K bb n z Q w pc L (br 99 :: st) := by
  obtain ⟨h1, rfl⟩ := hd
  intro H locs ls hlb hP hS hl
  have k1 := kk H locs ls hlb hP hS hl
  show W (kP K) (kL K) (kE K) (kR K) (kS K) (kM K) (kA K) (kB K) (kMe K) (kC K) H locs n z Q (F0 (kM K) pc ls (.ref (kAd K 99) :: st.map (bgC (kAd K))))
  rw [he]
  refine va_slen C.hx C.hb hX hb hA hS h1 ?_
  have e : Int32.ofNat N = Int32.ofInt (N : Int) := by rw [Int32.ofInt_eq_ofNat]
  rw [e]
  exact k1
theorem bg_sld (C : bgCx K own cc nL rt) (hX : va_X b N ss (kS K) (kS K).heap) (hb : b < (kS K).heap.size) (hA : ¬ bgA K.1 b) (he : kAd K 99 = b) {i : Int} (h0 : 0 ≤ i) (h2 : i < (N : Int)) (h3 : N ≤ 2048) (hd : bgd cc pc .iaload 1 pc') (kk : bgX K bb n z Q w pc' L (bi (lwSv ss i) :: st)) : bgX K bb n z Q w pc L (bi i :: br 99 :: st) := by
  obtain ⟨h1, rfl⟩ := hd
  intro H locs ls hlb hP hS hl
  have k1 := kk H locs ls hlb hP hS hl
  show W (kP K) (kL K) (kE K) (kR K) (kS K) (kM K) (kA K) (kB K) (kMe K) (kC K) H locs n z Q (F0 (kM K) pc ls (.int (Int32.ofInt i) :: .ref (kAd K 99) :: st.map (bgC (kAd K))))
  rw [he]
  refine va_sld C.hx C.hb hX hb hA hS (bgr_in h0 h2 (by omega)) h1 ?_
  rw [bgr_nat h0 (by omega), ← lwSv_i (ss := ss) (i := i)]
  exact k1
theorem bg_iand15 (C : bgCx K own cc nL rt) {a : Int} (hd : bgd cc pc .iand 1 pc') (kk : ∀ v : Int, 0 ≤ v → v ≤ 15 → bgX K bb n z Q w pc' L (bi v :: st)) : bgX K bb n z Q w pc L (bi 15 :: bi a :: st) := by
  obtain ⟨h1, rfl⟩ := hd
  intro H locs ls hlb hP hS hl
  have e := lw_and15 (Int32.ofInt a)
  refine lv_iand C.hx C.hb h1 ?_
  have k1 := kk (Int32.ofInt a &&& Int32.ofInt 15).toInt e.1 e.2 H locs ls hlb hP hS hl
  have e2 : (bgC (kAd K) (bi (Int32.ofInt a &&& Int32.ofInt 15).toInt)) = .int (Int32.ofInt a &&& Int32.ofInt 15) := by
    show Value.int (Int32.ofInt _) = _
    rw [Int32.ofInt_toInt]
  rw [List.map_cons, e2] at k1
  exact k1
theorem bg_cic (C : bgCx K own cc nL rt) (M : bgM K.1 pu c0 z0 y cw rm av w (bgPi φi)) (I : bgInv K y cw nY w pc L stk av st) (hL : L.length = nL) (hrm : rm.frames + 1 ≤ (kR K).frames ∧ 8 + (nY + 11) + rm.locals ≤ (kR K).locals) (hcs : n + rm.cells ≤ (kR K).cells ∧ z + rm.slots ≤ (kR K).slots) (hst : ((st.map (bgC (kAd K))).map fun v => v.category).sum ≤ 8) (hpc : pc + 3 = pc')
    (kr : ∀ v w', φi v w' → bgX K (pu && bb) (n + c0) (z + z0) Q w' pc' L (bi v :: st)) : bgX K bb n z Q w pc L stk := by
  subst hpc
  refine bg_call C M I hL hrm hcs hst (fun r w' hp => ?_) (fun X w' hp => ?_)
  · obtain ⟨v, e, h⟩ := hp
    cases e
    exact kr v w' h
  · obtain ⟨v, e, -⟩ := hp
    cases e
end LW1
/-! what holds between the law's calls -/
def lwOk (w : bgW) : Prop := bgN w ∧ moN w ∧ bmB w
theorem moRg_lo {k : Nat} {i : Int} (h : k < bgMo) : moRg k i = none := by
  unfold moRg
  cases moRt[k - bgMo]? with
  | none => rfl
  | some x =>
    cases x with
    | inl r => exact if_pos h
    | inr l => exact if_pos h
theorem moRg_hi {k : Nat} {i : Int} (h : 36 ≤ k) : moRg k i = none := by
  by_cases e : k = 36
  · subst e
    rfl
  · have hl : moRt[k - bgMo]? = none := List.getElem?_eq_none (by
      have h1 : moRt.length = 10 := by decide
      have h2 : bgMo = 27 := rfl
      omega)
    unfold moRg
    rw [hl]
theorem lwOk.rel {w w' : bgW} (h : lwOk w) (hr : lwRel w w') : lwOk w' := by
  have hm : bgMo = 27 := rfl
  refine ⟨hr.1, fun k i => ?_, bmB_of (fun i => hr.2 28 i (by decide) (by decide)) (fun i => hr.2 29 i (by decide) (by decide)) (fun i => hr.2 30 i (by decide) (by decide)) (fun i => hr.2 34 i (by decide) (by decide)) (hr.2 27 4 (by decide) (by decide)) (hr.2 27 5 (by decide) (by decide)) (hr.2 27 6 (by decide) (by decide)) (hr.2 27 7 (by decide) (by decide)) (hr.2 27 19 (by decide) (by decide)) (hr.2 27 20 (by decide) (by decide)) (by rw [hr.2 27 17 (by decide) (by decide)]; exact h.2.2.1) h.2.2⟩
  by_cases hk : k < bgMo
  · exact moRgOk.none (moRg_lo hk)
  · by_cases hk2 : k < 36
    · rw [hr.2 k i (by omega) hk2]
      exact h.2.1 k i
    · exact moRgOk.none (moRg_hi (by omega))
theorem lwOk.cls {w w' : bgW} (h : lwOk w) (hr : bgRel w w') : lwOk w' := h.rel (lwRel.of hr)
theorem lwOk.mod {S : List (Nat × Option Int)} {w w' : bgW} (h : lwOk w) (hr : moRel S w w') (hb : bmB w') (hS : S.all (fun q => decide (27 ≤ q.1)) = true) : lwOk w' := by
  refine ⟨fun k i hk => ?_, hr.1, hb⟩
  have hm : bgMo = 27 := rfl
  have hf : bgHit S k i = false := by
    cases hh : bgHit S k i with
    | false => rfl
    | true =>
      obtain ⟨q, hq, hq2⟩ := List.any_eq_true.mp hh
      have h1 := List.all_eq_true.mp hS q hq
      simp only [decide_eq_true_eq] at h1
      simp only [Bool.and_eq_true, beq_iff_eq] at hq2
      omega
  rw [hr.2 k i hf]
  exact h.1 k i hk
