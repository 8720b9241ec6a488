/-! the law's start -/
def lwAd (s : State) (b : Nat) : Nat → Nat := fun k => if k = 99 then b else s.heap.size + k
def lwTab (w : Cond) : Bool := w.onTables || match w with
  | .laysStatic .. => true
  | .stringRef .. => true
  | .methodLinkNest .. => true
  | .soleField .. => true
  | .sameMethod .. => true
  | .superclass .. => true
  | .arrayClass .. => true
  | _ => false
theorem lw_tabs : lw_tbl.all lwTab = true := by decide +kernel
theorem lw_args {A : Array Value} {s : State} (h : ∀ w ∈ lw_tbl, w.before A s = true) : ∀ w ∈ lw_tbl, w.before #[] s = true := by
  intro w hw
  have h1 := List.all_eq_true.mp lw_tabs w hw
  have h2 := h w hw
  by_cases ht : w.onTables = true
  · exact va_tabs ht rfl h2
  · rw [Bool.not_eq_true] at ht
    unfold lwTab at h1
    rw [ht, Bool.false_or] at h1
    cases w with
    | laysStatic a b c => exact h2
    | stringRef a b c => exact h2
    | methodLinkNest a b c d => exact h2
    | soleField => exact h2
    | sameMethod => exact h2
    | superclass => exact h2
    | arrayClass => exact h2
    | _ => cases h1
set_option maxRecDepth 20000 in
theorem lw_nc : ∀ q ∈ bgNC, Cond.not (.castable q.1 q.2) ∈ flatC (Jvm.Cond.and given_1 narrow_1) := by decide +kernel
theorem lw_un : bgUn ∈ flatC (Jvm.Cond.and given_1 narrow_1) := by decide +kernel
theorem lw_se : bgSe ∈ flatC (Jvm.Cond.and given_1 narrow_1) := by decide +kernel
theorem lw_arr {A : Array Value} {s : State} {ty : FieldType} (h : (Cond.arrayClass ty).before A s = true) : ∃ cA : ClassId, ArrOfT s cA ty ∧ s.vm.findClass ("[" ++ ty.toString) = some cA := by
  obtain ⟨c, k, comp, h1, h2, h3⟩ := Cond.arrayClass_spec h
  exact ⟨c, fun n z => ⟨fun k h => (by cases h), k, h2, comp, h3⟩, h1⟩
set_option maxHeartbeats 4000000 in
theorem lw_start {l : Launch} {s : State} {b : Nat} (hl : l.stackTraces = false) (hts : ∀ w ∈ lw_tbl, w.before #[Value.ref b] s = true) (hg : (Jvm.Cond.and given_1 narrow_1).before #[Value.ref b] s = true) : ∃ (cA : Nat → ClassId) (D : va_G), bgOk (l, lwAd s b, cA, D, s) := by
  have h0 := lw_args hts
  have hb : ∀ w ∈ bgTs, w.before #[] s = true := fun w hw => h0 w (List.mem_filter.mp hw).1
  have hf := flat_of_before _ hg
  obtain ⟨a_int, e_int, f_int⟩ := lw_arr (ty := .int) (hb _ tw_99)
  obtain ⟨a_boolean, e_boolean, f_boolean⟩ := lw_arr (ty := .boolean) (hb _ tw_747)
  obtain ⟨a_long, e_long, f_long⟩ := lw_arr (ty := .long) (hb _ tw_867)
  obtain ⟨c0, i0, k0⟩ := u_known hb cf_bg.2.2.1 (hb _ tw_55)
  obtain ⟨c1, i1, k1⟩ := u_known hb cf_pw.2.2.1 (hb _ tw_63)
  obtain ⟨c2, i2, k2⟩ := u_known hb cf_hd.2.2.1 (hb _ tw_78)
  obtain ⟨c3, i3, k3⟩ := u_known hb cf_so.2.2.1 (hb _ tw_101)
  obtain ⟨c4, i4, k4⟩ := u_known hb cf_op.2.2.1 (hb _ tw_107)
  obtain ⟨c5, i5, k5⟩ := u_known hb cf_et.2.2.1 (hb _ tw_131)
  obtain ⟨c6, i6, k6⟩ := u_known hb cf_wy.2.2.1 (hb _ tw_183)
  obtain ⟨c7, i7, k7⟩ := u_known hb cf_mo.2.2.1 (hb _ tw_668)
  refine ⟨fun t => match t with | 0 => a_int | 1 => a_boolean | _ => a_long, (fun c => match c with | 0 => c0 | 1 => c1 | 2 => c2 | 3 => c3 | 4 => c4 | 5 => c5 | 6 => c6 | _ => c7, fun c => match c with | 0 => i0 | 1 => i1 | 2 => i2 | 3 => i3 | 4 => i4 | 5 => i5 | 6 => i6 | _ => i7), hl, ⟨fun i j hi hj e => ?_, fun k hk => ?_⟩, ⟨fun c q hq => ?_, fun k q hk => ?_⟩, h0, ?_, ?_, fun q hq => va_Nc.of (hf _ (lw_nc q hq))⟩
  · have h1 : bgNO = 37 := rfl
    have e1 : lwAd s b i = s.heap.size + i := if_neg (by omega)
    have e2 : lwAd s b j = s.heap.size + j := if_neg (by omega)
    have e3 : lwAd s b i = lwAd s b j := e
    omega
  · have h1 : bgNO = 37 := rfl
    have e1 : lwAd s b k = s.heap.size + k := if_neg (by omega)
    show s.heap.size ≤ lwAd s b k
    omega
  · have hc : c < 8 := (List.getElem?_eq_some_iff.mp hq).1
    rcases (show c = 0 ∨ c = 1 ∨ c = 2 ∨ c = 3 ∨ c = 4 ∨ c = 5 ∨ c = 6 ∨ c = 7 by omega) with rfl | rfl | rfl | rfl | rfl | rfl | rfl | rfl
    · cases hq
      exact k0
    · cases hq
      exact k1
    · cases hq
      exact k2
    · cases hq
      exact k3
    · cases hq
      exact k4
    · cases hq
      exact k5
    · cases hq
      exact k6
    · cases hq
      exact k7
  · have hc : k < 3 := (List.getElem?_eq_some_iff.mp hk).1
    rcases (show k = 0 ∨ k = 1 ∨ k = 2 by omega) with rfl | rfl | rfl
    · cases hk
      exact ⟨e_int, f_int⟩
    · cases hk
      exact ⟨e_boolean, f_boolean⟩
    · cases hk
      exact ⟨e_long, f_long⟩
  · exact bg_isRef (State.WarmedH.refl s) (fun _ _ => rfl) (hts _ bgUn_lays) (hf _ lw_un)
  · exact bg_isRef (State.WarmedH.refl s) (fun _ _ => rfl) (hts _ bgSe_lays) (hf _ lw_se)
