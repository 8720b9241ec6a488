/-! a class of the world, by its number -/
def bgCF (ci : Nat) (C0 : String) (T : u_T) (ty : Nat → FieldType) (N : Nat) : Prop := bgCl[ci]? = some (C0, T, N) ∧ bgNs ci = N ∧ (∀ w ∈ u_ws C0 T N, w ∈ bgTs) ∧ (∀ k, k < N → parseFieldDescriptor (T k).2.2.1 = some (ty k)) ∧ (∀ a, a < N → ∀ b, b < N → a ≠ b → (T a).2.1 ≠ (T b).2.1) ∧ ∀ k, k < N → (T k).1 = C0
theorem bgK_lt {k : Nat} {x : Nat ⊕ (Nat × Nat)} (h : bgKinds[k]? = some x) : k < bgNO := by
  have := (List.getElem?_eq_some_iff.mp h).1
  rwa [bgKinds_len] at this
theorem bg_len {k n t : Nat} (h : bgKinds[k]? = some (.inr (n, t))) : n ≤ 1000 := bgKinds_ok n t (List.mem_of_getElem? h)
section BGF
variable {K : bgK} {own : String} {cc : ByteArray} {nL : Nat} {rt : Option FieldType} {bb : Bool} {n z : Nat} {Q : State → Prop} {w : bgW} {pc pc' : Nat} {L : List (Option bgV)} {st : List bgV} {k ci i idx N : Nat} {C0 : String} {T : u_T} {ty : Nat → FieldType}
theorem bg_objAt {cA : Nat → ClassId} {ad : Nat → Nat} (hk : bgKinds[k]? = some (.inl ci)) : (bgL cA ad w)[k]? = some (ad k, .inr (ci, (List.range (bgNs ci)).map (bgVal ad w k))) := by
  rw [bgL_at (bgK_lt hk), bgE_obj hk]
theorem bg_geti (C : bgCx K own cc nL rt) (F : bgCF ci C0 T ty N) {j : Int} (hj : (i : Int) = j) (hk : bgKinds[k]? = some (.inl ci)) (hi : i < N) (hr : bgRef k i = none) (hl : Cond.fieldLink own idx C0 (T i).2.1 (T i).2.2.1 ∈ bgTs) (hd : bgd cc pc (.getfield idx) 3 pc') (kk : bgX K bb n z Q w pc' L (bi (w k j) :: st)) : bgX K bb n z Q w pc L (br k :: st) := by
  obtain ⟨h1, rfl⟩ := hd
  subst hj
  intro H locs ls hlb hP hS hlo
  have hv : ((List.range (bgNs ci)).map (bgVal (kAd K) w k))[i]? = some (Value.int (Int32.ofInt (w k (i : Int)))) := by
    rw [List.getElem?_map, List.getElem?_range (by rw [F.2.1]; exact hi)]
    show some (bgVal (kAd K) w k i) = _
    unfold bgVal
    rw [hr]
  exact va_get (C := C0) (T := T) (N := N) (ref := C0) (index := idx) C.hx C.hb C.hts F.2.2.1 C.hown C.hK hP k (bg_objAt hk) F.1 i hi (C.hts _ hl) (fun x h => by rw [F.2.2.2.2.2 i hi] at h; exact h) hv h1 (kk H locs ls hlb hP hS hlo)
theorem bg_getr (C : bgCx K own cc nL rt) (F : bgCF ci C0 T ty N) {j : Nat} (hk : bgKinds[k]? = some (.inl ci)) (hi : i < N) (hr : bgRef k i = some j) (hl : Cond.fieldLink own idx C0 (T i).2.1 (T i).2.2.1 ∈ bgTs) (hd : bgd cc pc (.getfield idx) 3 pc') (kk : bgX K bb n z Q w pc' L (br j :: st)) : bgX K bb n z Q w pc L (br k :: st) := by
  obtain ⟨h1, rfl⟩ := hd
  intro H locs ls hlb hP hS hlo
  have hv : ((List.range (bgNs ci)).map (bgVal (kAd K) w k))[i]? = some (Value.ref (kAd K j)) := by
    rw [List.getElem?_map, List.getElem?_range (by rw [F.2.1]; exact hi)]
    show some (bgVal (kAd K) w k i) = _
    unfold bgVal
    rw [hr]
  exact va_get (C := C0) (T := T) (N := N) (ref := C0) (index := idx) C.hx C.hb C.hts F.2.2.1 C.hown C.hK hP k (bg_objAt hk) F.1 i hi (C.hts _ hl) (fun x h => by rw [F.2.2.2.2.2 i hi] at h; exact h) hv h1 (kk H locs ls hlb hP hS hlo)
theorem bg_setObj {ad : Nat → Nat} {v : Int} (hr : bgRef k i = none) (hi : i < bgNs ci) : ((List.range (bgNs ci)).map (bgVal ad w k)).set i (.int (Int32.ofInt v)) = (List.range (bgNs ci)).map (bgVal ad (bgU w k (i : Int) v) k) := by
  apply List.ext_getElem?
  intro j
  by_cases hj : j = i
  · subst hj
    rw [List.getElem?_set_self (by rw [List.length_map, List.length_range]; exact hi), List.getElem?_map, List.getElem?_range hi]
    show _ = some (bgVal ad (bgU w k (j : Int) v) k j)
    unfold bgVal
    rw [hr, bgU_eq]
  · rw [List.getElem?_set_ne (fun q => hj q.symm), List.getElem?_map, List.getElem?_map]
    have e : bgVal ad (bgU w k (i : Int) v) k j = bgVal ad w k j := by
      unfold bgVal
      rw [bgU_nei (by omega)]
    cases hx : (List.range (bgNs ci))[j]? with
    | none => rfl
    | some x =>
      have hxj : x = j := by
        have h2 := List.getElem?_eq_some_iff.mp hx
        obtain ⟨h3, h4⟩ := h2
        rw [List.getElem_range] at h4
        exact h4.symm
      subst hxj
      show some (bgVal ad w k x) = some (bgVal ad (bgU w k (i : Int) v) k x)
      rw [e]
theorem bg_puti (C : bgCx K own cc nL rt) (F : bgCF ci C0 T ty N) {j v : Int} (hj : (i : Int) = j) (hk : bgKinds[k]? = some (.inl ci)) (hi : i < N) (hr : bgRef k i = none) (hfin : (T i).2.2.2 = false) (hty : ty i = .int ∨ (ty i = .boolean ∧ (v = 0 ∨ v = 1))) (hl : Cond.fieldLink own idx C0 (T i).2.1 (T i).2.2.1 ∈ bgTs) (hd : bgd cc pc (.putfield idx) 3 pc') (kk : ∀ w', w' = bgU w k j v → bgX K false n z Q w' pc' L st) : bgX K bb n z Q w pc L (bi v :: br k :: st) := by
  obtain ⟨h1, rfl⟩ := hd
  subst hj
  intro H locs ls hlb hP hS hlo
  have hnar : narrow (ty i) (.int (Int32.ofInt v)) = .int (Int32.ofInt v) ∧ fits (ty i) (.int (Int32.ofInt v)) = true := by
    rcases hty with h | ⟨h, hv | hv⟩
    · rw [h]; exact ⟨rfl, rfl⟩
    · rw [h, hv]; exact ⟨rfl, rfl⟩
    · rw [h, hv]; exact ⟨rfl, rfl⟩
  refine va_put (C := C0) (T := T) (N := N) (ref := C0) (index := idx) C.hx C.hb C.hts F.2.2.1 ty F.2.2.2.1 F.2.2.2.2.1 C.hown C.hK hP C.hD hS k (bg_objAt hk) F.1 i hi (C.hts _ hl) (fun x h => by rw [F.2.2.2.2.2 i hi] at h; exact h) hfin (F.2.2.2.1 i hi) hnar.1 hnar.2 (by rw [List.length_map, List.length_range, F.2.1]; exact hi) h1 (fun H1 locs1 hP1 hD1 hS1 => ?_)
  have e : (bgL (kCA K) (kAd K) w).set k (kAd K k, .inr (ci, ((List.range (bgNs ci)).map (bgVal (kAd K) w k)).set i (bgC (kAd K) (bi v)))) = bgL (kCA K) (kAd K) (bgU w k (i : Int) v) := by
    rw [show bgC (kAd K) (bi v) = Value.int (Int32.ofInt v) from rfl, bg_setObj hr (by rw [F.2.1]; exact hi), ← bgE_obj (cA := kCA K) hk]
    exact bgL_set (bgK_lt hk) (fun k' i' h => bgU_ne i' h)
  rw [e] at hP1
  exact kk _ rfl H1 locs1 ls (fun h => by cases h) hP1 hS1 hlo
end BGF
section BGA
variable {K : bgK} {own : String} {cc : ByteArray} {nL : Nat} {rt : Option FieldType} {bb : Bool} {n z : Nat} {Q : State → Prop} {w : bgW} {pc pc' : Nat} {L : List (Option bgV)} {st : List bgV} {k len : Nat} {i v : Int}
theorem bg_clampI (h0 : 0 ≤ i) (h1 : i ≤ 2147483647) : (((Int32.ofInt i).toNatClampNeg : Nat) : Int) = i := by
  rw [bgr_nat h0 h1]
  omega
theorem bg_iald (C : bgCx K own cc nL rt) (hk : bgKinds[k]? = some (.inr (len, 0))) (h0 : 0 ≤ i) (h1 : i < (len : Int)) (hd : bgd cc pc .iaload 1 pc') (kk : bgX K bb n z Q w pc' L (bi (w k i) :: st)) : bgX K bb n z Q w pc L (bi i :: br k :: st) := by
  obtain ⟨h2, rfl⟩ := hd
  intro H locs ls hlb hP hS hlo
  have hle := bg_len hk
  have he : (bgL (kCA K) (kAd K) w)[k]? = some (kAd K k, .inl (kCA K 0, len, .inl (fun j => Int32.ofInt (w k (j : Int))))) := by rw [bgL_at (bgK_lt hk), bgE_arr hk (by decide)]
  have k1 := kk H locs ls hlb hP hS hlo
  refine va_iald C.hx C.hb C.hK hP k 0 he rfl (bgr_in h0 h1 (by omega)) h2 ?_
  rw [bg_clampI h0 (by omega)]
  exact k1
theorem bg_zald (C : bgCx K own cc nL rt) (hk : bgKinds[k]? = some (.inr (len, 1))) (h0 : 0 ≤ i) (h1 : i < (len : Int)) (hd : bgd cc pc .baload 1 pc') (kk : bgX K bb n z Q w pc' L (bi (w k i) :: st)) : bgX K bb n z Q w pc L (bi i :: br k :: st) := by
  obtain ⟨h2, rfl⟩ := hd
  intro H locs ls hlb hP hS hlo
  have hle := bg_len hk
  have he : (bgL (kCA K) (kAd K) w)[k]? = some (kAd K k, .inl (kCA K 1, len, .inl (fun j => Int32.ofInt (w k (j : Int))))) := by rw [bgL_at (bgK_lt hk), bgE_arr hk (by decide)]
  have k1 := kk H locs ls hlb hP hS hlo
  refine va_zald C.hx C.hb C.hK hP k 1 he rfl (bgr_in h0 h1 (by omega)) h2 ?_
  rw [bg_clampI h0 (by omega)]
  exact k1
theorem bg_updA (h0 : 0 ≤ i) (h1 : i ≤ 2147483647) : upd (fun j : Nat => Int32.ofInt (w k (j : Int))) (Int32.ofInt i).toNatClampNeg (Int32.ofInt v) = fun j : Nat => Int32.ofInt (bgU w k i v k (j : Int)) := by
  funext j
  have e := bg_clampI h0 h1
  by_cases hj : j = (Int32.ofInt i).toNatClampNeg
  · subst hj
    rw [e, bgU_eq]
    simp [upd]
  · rw [bgU_nei (by omega)]
    simp [upd, hj]
theorem bg_setArr {cA : Nat → ClassId} {ad : Nat → Nat} {t : Nat} (hk : bgKinds[k]? = some (.inr (len, t))) (ht : t ≠ 2) (h0 : 0 ≤ i) (h1 : i ≤ 2147483647) :
    (bgL cA ad w).set k (ad k, .inl (cA t, len, .inl (upd (fun j : Nat => Int32.ofInt (w k (j : Int))) (Int32.ofInt i).toNatClampNeg (Int32.ofInt v)))) = bgL cA ad (bgU w k i v) := by
  rw [bg_updA h0 h1, ← bgE_arr (cA := cA) (ad := ad) hk ht]
  exact bgL_set (bgK_lt hk) (fun k' i' h => bgU_ne i' h)
theorem bg_iast (C : bgCx K own cc nL rt) (hk : bgKinds[k]? = some (.inr (len, 0))) (h0 : 0 ≤ i) (h1 : i < (len : Int)) (hd : bgd cc pc .iastore 1 pc') (kk : ∀ w', w' = bgU w k i v → bgX K false n z Q w' pc' L st) : bgX K bb n z Q w pc L (bi v :: bi i :: br k :: st) := by
  obtain ⟨h2, rfl⟩ := hd
  intro H locs ls hlb hP hS hlo
  have hle := bg_len hk
  have he : (bgL (kCA K) (kAd K) w)[k]? = some (kAd K k, .inl (kCA K 0, len, .inl (fun j => Int32.ofInt (w k (j : Int))))) := by rw [bgL_at (bgK_lt hk), bgE_arr hk (by decide)]
  refine va_iast C.hx C.hb C.hK hP C.hD hS k 0 he rfl (bgr_in h0 h1 (by omega)) h2 (fun H1 locs1 hP1 hD1 hS1 => ?_)
  rw [bg_setArr hk (by decide) h0 (by omega)] at hP1
  exact kk _ rfl H1 locs1 ls (fun h => by cases h) hP1 hS1 hlo
theorem bg_zast (C : bgCx K own cc nL rt) (hk : bgKinds[k]? = some (.inr (len, 1))) (h0 : 0 ≤ i) (h1 : i < (len : Int)) (hv : v = 0 ∨ v = 1) (hd : bgd cc pc .bastore 1 pc') (kk : ∀ w', w' = bgU w k i v → bgX K false n z Q w' pc' L st) : bgX K bb n z Q w pc L (bi v :: bi i :: br k :: st) := by
  obtain ⟨h2, rfl⟩ := hd
  intro H locs ls hlb hP hS hlo
  have hle := bg_len hk
  have he : (bgL (kCA K) (kAd K) w)[k]? = some (kAd K k, .inl (kCA K 1, len, .inl (fun j => Int32.ofInt (w k (j : Int))))) := by rw [bgL_at (bgK_lt hk), bgE_arr hk (by decide)]
  refine va_zast C.hx C.hb C.hK hP C.hD hS k 1 he rfl (bgr_in h0 h1 (by omega)) h2 (fun H1 locs1 hP1 hD1 hS1 => ?_)
  have hn : vp_nar .boolean (Int32.ofInt v) = Int32.ofInt v := by
    rcases hv with rfl | rfl <;> rfl
  rw [hn, bg_setArr hk (by decide) h0 (by omega)] at hP1
  exact kk _ rfl H1 locs1 ls (fun h => by cases h) hP1 hS1 hlo
theorem bg_last (C : bgCx K own cc nL rt) (hk : bgKinds[k]? = some (.inr (len, 2))) (h0 : 0 ≤ i) (h1 : i < (len : Int)) (hd : bgd cc pc .lastore 1 pc') (kk : ∀ w', w' = bgU w k i v → bgX K false n z Q w' pc' L st) : bgX K bb n z Q w pc L (bl v :: bi i :: br k :: st) := by
  obtain ⟨h2, rfl⟩ := hd
  intro H locs ls hlb hP hS hlo
  have hle := bg_len hk
  have he : (bgL (kCA K) (kAd K) w)[k]? = some (kAd K k, .inl (kCA K 2, len, .inr (.inl (fun j => Int64.ofInt (w k (j : Int)))))) := by rw [bgL_at (bgK_lt hk), bgE_lon hk]
  refine va_last C.hx C.hb C.hK hP C.hD hS k 2 he rfl (bgr_in h0 h1 (by omega)) h2 (fun H1 locs1 hP1 hD1 hS1 => ?_)
  have e := bg_clampI h0 (show i ≤ 2147483647 by omega)
  have eu : vp_updL (fun j : Nat => Int64.ofInt (w k (j : Int))) (Int32.ofInt i).toNatClampNeg (Int64.ofInt v) = fun j : Nat => Int64.ofInt (bgU w k i v k (j : Int)) := by
    funext j
    by_cases hj : j = (Int32.ofInt i).toNatClampNeg
    · subst hj
      rw [e, bgU_eq]
      simp [vp_updL]
    · rw [bgU_nei (by omega)]
      simp [vp_updL, hj]
  rw [eu, ← bgE_lon (cA := kCA K) (ad := kAd K) hk, bgL_set (bgK_lt hk) (fun k' i' h => bgU_ne i' h)] at hP1
  exact kk _ rfl H1 locs1 ls (fun h => by cases h) hP1 hS1 hlo
theorem bg_alen (C : bgCx K own cc nL rt) (hk : bgKinds[k]? = some (.inr (len, 0))) (hv : (len : Int) = v) (hd : bgd cc pc .arraylength 1 pc') (kk : bgX K bb n z Q w pc' L (bi v :: st)) : bgX K bb n z Q w pc L (br k :: st) := by
  obtain ⟨h2, rfl⟩ := hd
  subst hv
  intro H locs ls hlb hP hS hlo
  have he : (bgL (kCA K) (kAd K) w)[k]? = some (kAd K k, .inl (kCA K 0, len, .inl (fun j => Int32.ofInt (w k (j : Int))))) := by rw [bgL_at (bgK_lt hk), bgE_arr hk (by decide)]
  exact va_alen C.hx C.hb C.hK hP k 0 he (ty := .int) rfl (by rw [Int32.ofInt_eq_ofNat]) h2 (kk H locs ls hlb hP hS hlo)
end BGA
def bgCp (w : bgW) (k1 k0 : Nat) (sp dp m : Int) : bgW := fun k' i' => if k' = k1 ∧ dp ≤ i' ∧ i' < dp + m then w k0 (sp + (i' - dp)) else w k' i'
theorem bg_copyi {K : bgK} {own : String} {cc : ByteArray} {nL : Nat} {rt : Option FieldType} {bb : Bool} {n z : Nat} {Q : State → Prop} {w : bgW} {pc pc' : Nat} {L : List (Option bgV)} {st : List bgV} {k0 k1 n0 n1 idx : Nat} {sp dp m : Int} (C : bgCx K own cc nL rt)
    (hl : Cond.methodLink own idx arraycopyName ∈ bgTs) (hnat : Cond.native arraycopyName ∈ bgTs) (hsta : Cond.static arraycopyName ∈ bgTs) (hini : Cond.initialized "java/lang/System" ∈ bgTs)
    (hk0 : bgKinds[k0]? = some (.inr (n0, 0))) (hk1 : bgKinds[k1]? = some (.inr (n1, 0))) (a1 : 0 ≤ sp) (a2 : 0 ≤ dp) (a3 : 0 ≤ m) (a4 : sp + m ≤ (n0 : Int)) (a5 : dp + m ≤ (n1 : Int)) (hL : L.length = nL)
    (hf : 1 ≤ (kR K).frames) (hlo : ((st.map (bgC (kAd K))).map fun v => v.category).sum + (nativeFrameWords "java/lang/System" "arraycopy" 5 + 11) ≤ (kR K).locals) (hd : bgd cc pc (.invokestatic idx) 3 pc')
    (kk : ∀ w', w' = bgCp w k1 k0 sp dp m → bgX K false n z Q w' pc' L st) : bgX K bb n z Q w pc L (bi m :: bi dp :: br k1 :: bi sp :: br k0 :: st) := by
  obtain ⟨h2, rfl⟩ := hd
  intro H locs ls hlb hP hS hlo2
  have hle0 := bg_len hk0
  have hle1 := bg_len hk1
  have he0 : (bgL (kCA K) (kAd K) w)[k0]? = some (kAd K k0, .inl (kCA K 0, n0, .inl (fun j => Int32.ofInt (w k0 (j : Int))))) := by rw [bgL_at (bgK_lt hk0), bgE_arr hk0 (by decide)]
  have he1 : (bgL (kCA K) (kAd K) w)[k1]? = some (kAd K k1, .inl (kCA K 0, n1, .inl (fun j => Int32.ofInt (w k1 (j : Int))))) := by rw [bgL_at (bgK_lt hk1), bgE_arr hk1 (by decide)]
  have nl : ∀ a : Int, 0 ≤ a → a ≤ 2147483647 → ¬ Int32.ofInt a < 0 := by
    intro a h0 h1 q
    rw [← bgr_z, bgr_lt ⟨by omega, by omega⟩ bgr_0] at q
    omega
  have c1 := bgr_nat a1 (show sp ≤ 2147483647 by omega)
  have c2 := bgr_nat a2 (show dp ≤ 2147483647 by omega)
  have c3 := bgr_nat a3 (show m ≤ 2147483647 by omega)
  refine va_copyi (ty := .int) C.hx C.hb (by rw [C.hml, hlo2.1]; exact hL.symm) C.hown (C.hts _ hl) (C.hts _ hnat) (C.hts _ hsta) (C.hts _ hini) C.hK hP C.hD hS k0 k1 0 0 he0 he1 rfl rfl rfl (nl sp a1 (by omega)) (nl dp a2 (by omega)) (nl m a3 (by omega)) (by rw [c1, c3]; omega) (by rw [c2, c3]; omega) (fun _ _ => rfl) hf hlo h2 (fun H1 locs1 hP1 hD1 hS1 => ?_)
  have eu : va_cpy (fun j : Nat => Int32.ofInt (w k0 (j : Int))) (fun j : Nat => Int32.ofInt (w k1 (j : Int))) (Int32.ofInt sp).toNatClampNeg (Int32.ofInt dp).toNatClampNeg (Int32.ofInt m).toNatClampNeg = fun j : Nat => Int32.ofInt (bgCp w k1 k0 sp dp m k1 (j : Int)) := by
    funext j
    rw [c1, c2, c3]
    unfold va_cpy bgCp
    by_cases hj : dp.toNat ≤ j ∧ j < dp.toNat + m.toNat
    · rw [if_pos hj, if_pos ⟨rfl, by omega, by omega⟩]
      have e : ((sp.toNat + (j - dp.toNat) : Nat) : Int) = sp + ((j : Int) - dp) := by omega
      show Int32.ofInt (w k0 ((sp.toNat + (j - dp.toNat) : Nat) : Int)) = _
      rw [e]
    · rw [if_neg hj, if_neg (fun q => hj (by omega))]
  rw [eu, ← bgE_arr (cA := kCA K) (ad := kAd K) hk1 (by decide), bgL_set (bgK_lt hk1) (fun k' i' h => by
    unfold bgCp
    rw [if_neg (fun q => h q.1)])] at hP1
  exact kk _ rfl H1 locs1 ls (fun h => by cases h) hP1 hS1 hlo2
theorem bg_min {K : bgK} {own : String} {cc : ByteArray} {nL : Nat} {rt : Option FieldType} {bb : Bool} {n z : Nat} {Q : State → Prop} {w : bgW} {pc pc' : Nat} {L : List (Option bgV)} {st : List bgV} {idx : Nat} {a b : Int} (C : bgCx K own cc nL rt)
    (hl : Cond.methodLink own idx Lib.Math.min.name ∈ bgTs) (hsta : Cond.static Lib.Math.min.name ∈ bgTs) (hini : Cond.initialized "java/lang/Math" ∈ bgTs) (hco : Cond.code Lib.Math.min.name Lib.Math.min.code 2 (some .int) ∈ bgTs) (hL : L.length = nL) (ha : bgr a) (hb : bgr b)
    (hf : 1 ≤ (kR K).frames) (hlo : ((st.map (bgC (kAd K))).map fun v => v.category).sum + 13 ≤ (kR K).locals) (hn : n ≤ (kR K).cells) (hz : z ≤ (kR K).slots) (hd : bgd cc pc (.invokestatic idx) 3 pc')
    (k1 : b < a → bgX K bb n z Q w pc' L (bi b :: st)) (k2 : ¬ b < a → bgX K bb n z Q w pc' L (bi a :: st)) : bgX K bb n z Q w pc L (bi b :: bi a :: st) := by
  obtain ⟨h2, rfl⟩ := hd
  intro H locs ls hlb hP hS hlo2
  refine va_mmin C.hx C.hb (by rw [C.hml, hlo2.1]; exact hL.symm) C.hown (C.hts _ hl) (C.hts _ hsta) (C.hts _ hini) (C.hts _ hco) hf hlo hn hz h2 ?_
  by_cases h : b < a
  · rw [if_pos ((bgr_lt hb ha).mpr h)]
    exact k1 h H locs ls hlb hP hS hlo2
  · rw [if_neg (fun q => h ((bgr_lt hb ha).mp q))]
    exact k2 h H locs ls hlb hP hS hlo2
theorem bg_weak {K : bgK} {bb : Bool} {n z : Nat} {Q : State → Prop} {w : bgW} {pc : Nat} {L : List (Option bgV)} {st : List bgV} (h : bgX K false n z Q w pc L st) : bgX K bb n z Q w pc L st := fun H locs ls _ => h H locs ls (fun e => by cases e)
theorem bg_idiv0 {K : bgK} {own : String} {cc : ByteArray} {nL : Nat} {rt : Option FieldType} {bb : Bool} {n z : Nat} {Q : State → Prop} {w : bgW} {pc pc' : Nat} {L : List (Option bgV)} {st : List bgV} (C : bgCx K own cc nL rt) {a b : Int} (hd : bgd cc pc .idiv 1 pc') (hb : ¬ Int32.ofInt b = 0) (kk : ∀ v : Int, bgX K bb n z Q w pc' L (bi v :: st)) : bgX K bb n z Q w pc L (bi b :: bi a :: st) := by
  obtain ⟨h1, rfl⟩ := hd
  intro H locs ls hlb hP hS hl
  have k1 := kk (Int32.ofInt a / Int32.ofInt b).toInt H locs ls hlb hP hS hl
  refine lv_idiv C.hx C.hb h1 hb ?_
  have e : Value.int (Int32.ofInt a / Int32.ofInt b) = bgC (kAd K) (bi (Int32.ofInt a / Int32.ofInt b).toInt) := by
    show _ = Value.int (Int32.ofInt (Int32.ofInt a / Int32.ofInt b).toInt)
    rw [Int32.ofInt_toInt]
  rw [e]
  exact k1
/-! fewer known locals -/
def bgMask : List (Option bgV) → List Bool → List (Option bgV)
  | x :: a, b :: m => (if b then x else none) :: bgMask a m
  | _, _ => []
theorem bgMask_len : ∀ (L : List (Option bgV)) (m : List Bool), m.length = L.length → (bgMask L m).length = L.length
  | [], [], _ => rfl
  | [], _ :: _, h => by cases h
  | _ :: _, [], h => by cases h
  | x :: a, b :: m, h => by
    show (bgMask a m).length + 1 = a.length + 1
    rw [bgMask_len a m (by simpa using h)]
theorem bgMask_get : ∀ (L : List (Option bgV)) (m : List Bool) (i : Nat) (v : bgV), (bgMask L m)[i]? = some (some v) → L[i]? = some (some v)
  | [], [], i, v, h => by simp [bgMask] at h
  | [], _ :: _, i, v, h => by simp [bgMask] at h
  | _ :: _, [], i, v, h => by simp [bgMask] at h
  | x :: a, b :: m, 0, v, h => by
    have h1 : some (if b then x else none) = some (some v) := h
    cases b with
    | true => exact h1
    | false => cases h1
  | x :: a, b :: m, i + 1, v, h => bgMask_get a m i v h
theorem bg_wl {K : bgK} {bb : Bool} {n z : Nat} {Q : State → Prop} {w : bgW} {pc : Nat} {L : List (Option bgV)} {st : List bgV} (m : List Bool) (hm : m.length = L.length) (h : bgX K bb n z Q w pc (bgMask L m) st) : bgX K bb n z Q w pc L st :=
  fun H locs ls hb hP hS hl => h H locs ls hb hP hS ⟨by rw [bgMask_len L m hm]; exact hl.1, hl.2.1, fun i v hv => hl.2.2 i v (bgMask_get L m i v hv)⟩
/-! a loop: a measure that falls -/
theorem bg_loop {K : bgK} {bb : Bool} {n z : Nat} {Q : State → Prop} {pc : Nat} {α : Type} (μ : α → Nat) (P : α → Prop) (S : α → bgW × List (Option bgV) × List bgV)
    (step : ∀ a, P a → (∀ a', P a' → μ a' < μ a → bgX K bb n z Q (S a').1 pc (S a').2.1 (S a').2.2) → bgX K bb n z Q (S a).1 pc (S a).2.1 (S a).2.2) : ∀ a, P a → bgX K bb n z Q (S a).1 pc (S a).2.1 (S a).2.2 := by
  have key : ∀ m a, μ a < m → P a → bgX K bb n z Q (S a).1 pc (S a).2.1 (S a).2.2 := by
    intro m
    induction m with
    | zero => intro a h; omega
    | succ m ih => exact fun a h hp => step a hp (fun a' hp' h' => ih a' (by omega) hp')
  exact fun a hp => key (μ a + 1) a (by omega) hp
