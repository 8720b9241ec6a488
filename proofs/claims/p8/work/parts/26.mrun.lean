def S_mo_above : List (Nat × Option Int) := []
def rm_mo_above : Room := { frames := 0, cells := 0, slots := 0, locals := 0 }
set_option maxRecDepth 20000 in
set_option maxHeartbeats 4000000 in
theorem m_mo_above {G : bgGl} (hG : bgOk G) {w0 : bgW} (hw : moN w0) {x : Int} (z0 : 0 ≤ x) (z1 : x ≤ 63) (z2 : bmTi w0) : bgM G true 0 0 y_mo_above (.code y_mo_above co_mo_above 3 (some .int)) rm_mo_above [br 27, bi x] w0 (bgPi (fun v w' => w0 = w' ∧ -1 ≤ v ∧ v ≤ 199 ∧ (v = -1 ∨ (0 ≤ v ∧ w0 28 (200 + v) ≠ -1 ∧ w0 34 (w0 28 (200 + v)) ≠ -1 ∧ w0 34 (w0 28 (200 + v)) + w0 30 (200 + v) = w0 34 x)))) := by
  refine bg_met hG (by decide +kernel) (bg_cat rfl) (Nat.le_of_ble_eq_true rfl) ?_
  intro K hK hR hex C
  subst hK
  have hI := moRel.rfl (S := S_mo_above) hw
  show bgX K true 0 0 _ w0 0 [some (br 27), some (bi x), none] []
  refine bg_iload_n C d_mo_above_0 rfl rfl ?_
  refine bg_aload_n C d_mo_above_1 rfl rfl ?_
  refine bm_geti C cf_mo hI 20 20 rfl rfl (by decide) rfl rfl tw_697 d_mo_above_2 (fun v1 e1 a1 b1 => ?_)
  refine bg_icmp_eq (tgt := 18) C d_mo_above_5 (by decide) ⟨by omega, by omega⟩ ⟨by omega, by omega⟩ (fun h2 => ?_) (fun h2 => ?_)
  · refine bg_iconst C d_mo_above_18 ?_
    exact bg_iret C d_mo_above_19 (fun _ => rfl) (Or.inl rfl) (Nat.zero_le _) (Nat.zero_le _) ⟨_, rfl, rfl, by omega, by omega, Or.inl rfl⟩
  · refine bg_aload_n C d_mo_above_8 rfl rfl ?_
    refine bg_getr (i := 21) C cf_mo rfl (by decide) rfl tw_698 d_mo_above_9 ?_
    refine bg_iload_n C d_mo_above_12 rfl rfl ?_
    refine bm_iald C hI rfl rfl (by omega) (by omega) d_mo_above_13 (fun v3 e3 a3 b3 => ?_)
    refine bg_iconst C d_mo_above_14 ?_
    refine bg_icmp_ne (tgt := 20) C d_mo_above_15 (by decide) ⟨by omega, by omega⟩ ⟨by omega, by omega⟩ (fun h4 => ?_) (fun h4 => ?_)
    · obtain ⟨y0, y1, y2, y3, y4, y5, y6⟩ := z2 x (by omega) (by omega) (by omega) (by omega)
      refine bg_iconst C d_mo_above_20 ?_
      refine bg_istore_n C d_mo_above_21 rfl (Nat.le_of_ble_eq_true rfl) ?_
      refine bg_loop (α := Int) (fun a => (200 - a).toNat) (fun a => 0 ≤ a ∧ a ≤ y0) (fun a => (w0, [some (br 27), some (bi x), some (bi a)], [])) ?_ 0 ⟨by (try dsimp only) <;> omega, by omega⟩
      rintro i5 ⟨q5_0, q5_1⟩ ih22
      try dsimp only at ih22
      try dsimp only at q5_0
      try dsimp only at q5_1
      try dsimp only
      refine bg_aload_n C d_mo_above_22 rfl rfl ?_
      refine bg_getr (i := 1) C cf_mo rfl (by decide) rfl tw_678 d_mo_above_23 ?_
      refine bg_sipush C d_mo_above_26 (by decide +kernel) ?_
      refine bg_iload_n C d_mo_above_29 rfl rfl ?_
      refine bg_iadd C d_mo_above_30 ?_
      refine bm_iald C hI rfl rfl (by omega) (by omega) d_mo_above_31 (fun v6 e6 a6 b6 => ?_)
      refine bg_iconst C d_mo_above_32 ?_
      refine bg_icmp_eq (tgt := 104) C d_mo_above_33 (by decide) ⟨by omega, by omega⟩ ⟨by omega, by omega⟩ (fun h7 => ?_) (fun h7 => ?_)
      · refine bg_iinc C d_mo_above_104 rfl ?_
        refine bg_goto (l := 22) C d_mo_above_107 (by decide) ?_
        exact ih22 (i5 + 1) ⟨by omega, by by_cases hc : i5 = y0 <;> first | omega | (exfalso; subst hc; grind)⟩ (by omega)
      · refine bg_aload_n C d_mo_above_36 rfl rfl ?_
        refine bg_getr (i := 2) C cf_mo rfl (by decide) rfl tw_679 d_mo_above_37 ?_
        refine bg_sipush C d_mo_above_40 (by decide +kernel) ?_
        refine bg_iload_n C d_mo_above_43 rfl rfl ?_
        refine bg_iadd C d_mo_above_44 ?_
        refine bm_iald C hI rfl rfl (by omega) (by omega) d_mo_above_45 (fun v8 e8 a8 b8 => ?_)
        refine bg_iload_n C d_mo_above_46 rfl rfl ?_
        refine bg_icmp_ne (tgt := 104) C d_mo_above_47 (by decide) ⟨by omega, by omega⟩ ⟨by omega, by omega⟩ (fun h9 => ?_) (fun h9 => ?_)
        · refine bg_iinc C d_mo_above_104 rfl ?_
          refine bg_goto (l := 22) C d_mo_above_107 (by decide) ?_
          exact ih22 (i5 + 1) ⟨by omega, by by_cases hc : i5 = y0 <;> first | omega | (exfalso; subst hc; grind)⟩ (by omega)
        · refine bg_aload_n C d_mo_above_50 rfl rfl ?_
          refine bg_getr (i := 21) C cf_mo rfl (by decide) rfl tw_698 d_mo_above_51 ?_
          refine bg_aload_n C d_mo_above_54 rfl rfl ?_
          refine bg_getr (i := 1) C cf_mo rfl (by decide) rfl tw_678 d_mo_above_55 ?_
          refine bg_sipush C d_mo_above_58 (by decide +kernel) ?_
          refine bg_iload_n C d_mo_above_61 rfl rfl ?_
          refine bg_iadd C d_mo_above_62 ?_
          refine bm_iald C hI rfl rfl (by omega) (by omega) d_mo_above_63 (fun v10 e10 a10 b10 => ?_)
          refine bm_iald C hI rfl rfl (by omega) (by omega) d_mo_above_64 (fun v11 e11 a11 b11 => ?_)
          refine bg_iconst C d_mo_above_65 ?_
          refine bg_icmp_eq (tgt := 104) C d_mo_above_66 (by decide) ⟨by omega, by omega⟩ ⟨by omega, by omega⟩ (fun h12 => ?_) (fun h12 => ?_)
          · refine bg_iinc C d_mo_above_104 rfl ?_
            refine bg_goto (l := 22) C d_mo_above_107 (by decide) ?_
            exact ih22 (i5 + 1) ⟨by omega, by by_cases hc : i5 = y0 <;> first | omega | (exfalso; subst hc; grind)⟩ (by omega)
          · refine bg_aload_n C d_mo_above_69 rfl rfl ?_
            refine bg_getr (i := 21) C cf_mo rfl (by decide) rfl tw_698 d_mo_above_70 ?_
            refine bg_aload_n C d_mo_above_73 rfl rfl ?_
            refine bg_getr (i := 1) C cf_mo rfl (by decide) rfl tw_678 d_mo_above_74 ?_
            refine bg_sipush C d_mo_above_77 (by decide +kernel) ?_
            refine bg_iload_n C d_mo_above_80 rfl rfl ?_
            refine bg_iadd C d_mo_above_81 ?_
            refine bm_iald C hI rfl rfl (by omega) (by omega) d_mo_above_82 (fun v13 e13 a13 b13 => ?_)
            refine bm_iald C hI rfl rfl (by omega) (by omega) d_mo_above_83 (fun v14 e14 a14 b14 => ?_)
            refine bg_aload_n C d_mo_above_84 rfl rfl ?_
            refine bg_getr (i := 3) C cf_mo rfl (by decide) rfl tw_680 d_mo_above_85 ?_
            refine bg_sipush C d_mo_above_88 (by decide +kernel) ?_
            refine bg_iload_n C d_mo_above_91 rfl rfl ?_
            refine bg_iadd C d_mo_above_92 ?_
            refine bm_iald C hI rfl rfl (by omega) (by omega) d_mo_above_93 (fun v15 e15 a15 b15 => ?_)
            refine bg_iadd C d_mo_above_94 ?_
            refine bg_aload_n C d_mo_above_95 rfl rfl ?_
            refine bg_getr (i := 21) C cf_mo rfl (by decide) rfl tw_698 d_mo_above_96 ?_
            refine bg_iload_n C d_mo_above_99 rfl rfl ?_
            refine bm_iald C hI rfl rfl (by omega) (by omega) d_mo_above_100 (fun v16 e16 a16 b16 => ?_)
            refine bg_icmp_eq (tgt := 110) C d_mo_above_101 (by decide) ⟨by omega, by omega⟩ ⟨by omega, by omega⟩ (fun h17 => ?_) (fun h17 => ?_)
            · refine bg_iload_n C d_mo_above_110 rfl rfl ?_
              exact bg_iret C d_mo_above_111 (fun _ => rfl) (Or.inl rfl) (Nat.zero_le _) (Nat.zero_le _) ⟨_, rfl, rfl, by omega, by omega, Or.inr (by grind)⟩
            · refine bg_iinc C d_mo_above_104 rfl ?_
              refine bg_goto (l := 22) C d_mo_above_107 (by decide) ?_
              exact ih22 (i5 + 1) ⟨by omega, by by_cases hc : i5 = y0 <;> first | omega | (exfalso; subst hc; grind)⟩ (by omega)
    · refine bg_iconst C d_mo_above_18 ?_
      exact bg_iret C d_mo_above_19 (fun _ => rfl) (Or.inl rfl) (Nat.zero_le _) (Nat.zero_le _) ⟨_, rfl, rfl, by omega, by omega, Or.inl rfl⟩
def S_mo_parent : List (Nat × Option Int) := [(27, some 0)]
def rm_mo_parent : Room := { frames := 2, cells := 0, slots := 0, locals := 41 }
set_option maxRecDepth 20000 in
set_option maxHeartbeats 4000000 in
theorem m_mo_parent {G : bgGl} (hG : bgOk G) {w0 : bgW} (hw : moN w0) {x : Int} (z0 : -2147483648 ≤ x) (z1 : x ≤ 2147483647) (z2 : bmB w0) : bgM G false 0 0 y_mo_parent (.code y_mo_parent co_mo_parent 2 (some .int)) rm_mo_parent [br 27, bi x] w0 (bgPi (fun v w' => moRel S_mo_parent w0 w' ∧ bmB w')) := by
  refine bg_met hG (by decide +kernel) (bg_cat rfl) (Nat.le_of_ble_eq_true rfl) ?_
  intro K hK hR hex C
  subst hK
  have hI := moRel.rfl (S := S_mo_parent) hw
  show bgX K true 0 0 _ w0 0 [some (br 27), some (bi x)] []
  have hB := z2
  have hB1 := hB.1
  have hs17 := hw 27 17 0 51 rfl
  have hs7 := hw 27 7 0 20 rfl
  have hs19 := hw 27 19 0 1 rfl
  have hs6 := hw 27 6 0 1 rfl
  have hs5 := hw 27 5 0 1 rfl
  refine bg_aload_n C d_mo_parent_0 rfl rfl ?_
  refine bg_aload_n C d_mo_parent_1 rfl rfl ?_
  refine bg_iload_n C d_mo_parent_2 rfl rfl ?_
  refine bg_ci C (m_mo_faultOf hG hI.1 (by omega) (by omega)) (bg_invV C cf_mo rfl tw_843 ti_mo_faultOf ts_mo_faultOf tc_mo_faultOf tw_42 ⟨by decide, by decide⟩ (nA := 1) (by decide +kernel) rfl d_mo_parent_3 rfl) rfl (by rw [hR]; exact ⟨by decide, by decide⟩) (by rw [hR]; exact ⟨by decide, by decide⟩) (Nat.le_of_ble_eq_true rfl) rfl (fun v1 w1 p1 => ?_)
  obtain ⟨rfl, r1_0, r1_1, r1_2, r1_3, r1_4⟩ := p1
  refine bm_puti C cf_mo hI 0 0 rfl rfl (by decide) rfl rfl rfl (by omega) (by omega) rfl (Or.inl rfl) tw_677 d_mo_parent_6 (fun w2 hI2 e2 => ?_)
  have A2_28 : ∀ i, w2 28 i = w0 28 i := fun i => by rw [e2]; exact bgU_ne i (by decide)
  have A2_29 : ∀ i, w2 29 i = w0 29 i := fun i => by rw [e2]; exact bgU_ne i (by decide)
  have A2_30 : ∀ i, w2 30 i = w0 30 i := fun i => by rw [e2]; exact bgU_ne i (by decide)
  have A2_34 : ∀ i, w2 34 i = w0 34 i := fun i => by rw [e2]; exact bgU_ne i (by decide)
  have g2_0 : w2 27 0 = v1 := by rw [e2]; exact bgU_eq
  have g2_1 : w2 27 4 = w0 27 4 := by rw [e2]; exact bgU_nei (by decide)
  have g2_2 : w2 27 5 = w0 27 5 := by rw [e2]; exact bgU_nei (by decide)
  have g2_3 : w2 27 6 = w0 27 6 := by rw [e2]; exact bgU_nei (by decide)
  have g2_4 : w2 27 7 = w0 27 7 := by rw [e2]; exact bgU_nei (by decide)
  have g2_5 : w2 27 17 = w0 27 17 := by rw [e2]; exact bgU_nei (by decide)
  have g2_6 : w2 27 19 = w0 27 19 := by rw [e2]; exact bgU_nei (by decide)
  have g2_7 : w2 27 20 = w0 27 20 := by rw [e2]; exact bgU_nei (by decide)
  refine bg_aload_n C d_mo_parent_9 rfl rfl ?_
  refine bm_geti C cf_mo hI2 0 0 rfl rfl (by decide) rfl rfl tw_677 d_mo_parent_10 (fun v3 e3 a3 b3 => ?_)
  refine bg_if_le (tgt := 20) C d_mo_parent_13 (by decide) ⟨by omega, by omega⟩ (fun h4 => ?_) (fun h4 => ?_)
  · refine bg_aload_n C d_mo_parent_20 rfl rfl ?_
    refine bg_iload_n C d_mo_parent_21 rfl rfl ?_
    refine bg_ci C (m_mo_above hG hI2.1 (by omega) (by omega) (bmTi_of A2_28 A2_29 A2_30 A2_34 (by omega) (hB.2.2.2 (by omega)))) (bg_invV C cf_mo rfl tw_851 ti_mo_above ts_mo_above tc_mo_above tw_42 ⟨by decide, by decide⟩ (nA := 1) (by decide +kernel) rfl d_mo_parent_22 rfl) rfl (by rw [hR]; exact ⟨by decide, by decide⟩) (by rw [hR]; exact ⟨by decide, by decide⟩) (Nat.le_of_ble_eq_true rfl) rfl (fun v5 w5 p5 => ?_)
    obtain ⟨rfl, r5_0, r5_1, r5_2⟩ := p5
    exact bg_iret C d_mo_parent_25 (fun h => by cases h) (Or.inl rfl) (Nat.zero_le _) (Nat.zero_le _) ⟨_, rfl, hI2, bmB_of A2_28 A2_29 A2_30 A2_34 (by omega) (by omega) (by omega) (by omega) (by omega) (by omega) (by omega) hB⟩
  · refine bg_iconst C d_mo_parent_16 ?_
    refine bg_goto (l := 25) C d_mo_parent_17 (by decide) ?_
    exact bg_iret C d_mo_parent_25 (fun h => by cases h) (Or.inl rfl) (Nat.zero_le _) (Nat.zero_le _) ⟨_, rfl, hI2, bmB_of A2_28 A2_29 A2_30 A2_34 (by omega) (by omega) (by omega) (by omega) (by omega) (by omega) (by omega) hB⟩
def S_mo_way : List (Nat × Option Int) := [(27, some 0), (35, none)]
def rm_mo_way : Room := { frames := 2, cells := 0, slots := 0, locals := 41 }
set_option maxRecDepth 20000 in
set_option maxHeartbeats 4000000 in
theorem m_mo_way {G : bgGl} (hG : bgOk G) {w0 : bgW} (hw : moN w0) {x k : Int} (z0 : -2147483648 ≤ x) (z1 : x ≤ 2147483647) (z2 : -2147483648 ≤ k) (z3 : k ≤ 2147483647) (z4 : bmB w0) : bgM G false 0 0 y_mo_way (.code y_mo_way co_mo_way 6 (some .int)) rm_mo_way [br 27, bi x, bi k] w0 (bgPi (fun v w' => moRel S_mo_way w0 w' ∧ bmB w')) := by
  refine bg_met hG (by decide +kernel) (bg_cat rfl) (Nat.le_of_ble_eq_true rfl) ?_
  intro K hK hR hex C
  subst hK
  have hI := moRel.rfl (S := S_mo_way) hw
  show bgX K true 0 0 _ w0 0 [some (br 27), some (bi x), some (bi k), none, none, none] []
  have hB := z4
  have hB1 := hB.1
  have hs17 := hw 27 17 0 51 rfl
  have hs7 := hw 27 7 0 20 rfl
  have hs19 := hw 27 19 0 1 rfl
  have hs6 := hw 27 6 0 1 rfl
  have hs5 := hw 27 5 0 1 rfl
  refine bg_aload_n C d_mo_way_0 rfl rfl ?_
  refine bg_aload_n C d_mo_way_1 rfl rfl ?_
  refine bg_iload_n C d_mo_way_2 rfl rfl ?_
  refine bg_ci C (m_mo_faultOf hG hI.1 (by omega) (by omega)) (bg_invV C cf_mo rfl tw_843 ti_mo_faultOf ts_mo_faultOf tc_mo_faultOf tw_42 ⟨by decide, by decide⟩ (nA := 1) (by decide +kernel) rfl d_mo_way_3 rfl) rfl (by rw [hR]; exact ⟨by decide, by decide⟩) (by rw [hR]; exact ⟨by decide, by decide⟩) (Nat.le_of_ble_eq_true rfl) rfl (fun v1 w1 p1 => ?_)
  obtain ⟨rfl, r1_0, r1_1, r1_2, r1_3, r1_4⟩ := p1
  refine bm_puti C cf_mo hI 0 0 rfl rfl (by decide) rfl rfl rfl (by omega) (by omega) rfl (Or.inl rfl) tw_677 d_mo_way_6 (fun w2 hI2 e2 => ?_)
  have A2_28 : ∀ i, w2 28 i = w0 28 i := fun i => by rw [e2]; exact bgU_ne i (by decide)
  have A2_29 : ∀ i, w2 29 i = w0 29 i := fun i => by rw [e2]; exact bgU_ne i (by decide)
  have A2_30 : ∀ i, w2 30 i = w0 30 i := fun i => by rw [e2]; exact bgU_ne i (by decide)
  have A2_34 : ∀ i, w2 34 i = w0 34 i := fun i => by rw [e2]; exact bgU_ne i (by decide)
  have g2_0 : w2 27 0 = v1 := by rw [e2]; exact bgU_eq
  have g2_1 : w2 27 4 = w0 27 4 := by rw [e2]; exact bgU_nei (by decide)
  have g2_2 : w2 27 5 = w0 27 5 := by rw [e2]; exact bgU_nei (by decide)
  have g2_3 : w2 27 6 = w0 27 6 := by rw [e2]; exact bgU_nei (by decide)
  have g2_4 : w2 27 7 = w0 27 7 := by rw [e2]; exact bgU_nei (by decide)
  have g2_5 : w2 27 17 = w0 27 17 := by rw [e2]; exact bgU_nei (by decide)
  have g2_6 : w2 27 19 = w0 27 19 := by rw [e2]; exact bgU_nei (by decide)
  have g2_7 : w2 27 20 = w0 27 20 := by rw [e2]; exact bgU_nei (by decide)
  refine bg_aload_n C d_mo_way_9 rfl rfl ?_
  refine bm_geti C cf_mo hI2 0 0 rfl rfl (by decide) rfl rfl tw_677 d_mo_way_10 (fun v3 e3 a3 b3 => ?_)
  refine bg_if_le (tgt := 18) C d_mo_way_13 (by decide) ⟨by omega, by omega⟩ (fun h4 => ?_) (fun h4 => ?_)
  · refine bg_iconst C d_mo_way_18 ?_
    refine bg_istore_n C d_mo_way_19 rfl (Nat.le_of_ble_eq_true rfl) ?_
    refine bg_iload_n C d_mo_way_20 rfl rfl ?_
    refine bg_istore C d_mo_way_21 (Nat.le_of_ble_eq_true rfl) ?_
    refine bg_loop (α := bgW × Int × Int) (fun a => (if a.2.2 = -1 then 0 else bmCt w0 a.2.2 + 1)) (fun a => moRel S_mo_way w0 a.1 ∧ 0 ≤ a.2.1 ∧ a.2.1 ≤ 64 ∧ -1 ≤ a.2.2 ∧ a.2.2 ≤ 63 ∧ (a.2.2 = -1 ∨ a.2.1 + (bmCt w0 a.2.2 : Int) ≤ 63) ∧ a.1 27 0 = w2 27 0 ∧ a.1 27 4 = w2 27 4 ∧ a.1 27 5 = w2 27 5 ∧ a.1 27 6 = w2 27 6 ∧ a.1 27 7 = w2 27 7 ∧ a.1 27 17 = w2 27 17 ∧ a.1 27 19 = w2 27 19 ∧ a.1 27 20 = w2 27 20 ∧ (∀ y9, a.1 28 y9 = w0 28 y9) ∧ (∀ y9, a.1 29 y9 = w0 29 y9) ∧ (∀ y9, a.1 30 y9 = w0 30 y9) ∧ (∀ y9, a.1 34 y9 = w0 34 y9)) (fun a => (a.1, [some (br 27), some (bi x), some (bi k), some (bi a.2.1), some (bi a.2.2), none], [])) ?_ (w2, 0, x) ⟨hI2, by (try dsimp only) <;> omega, by (try dsimp only) <;> omega, by (try dsimp only) <;> omega, by (try dsimp only) <;> omega, Or.inr (by have := bmCt_le (w := w0) (y := x) (by omega) (by omega); (try dsimp only); omega), by (try dsimp only) <;> omega, by (try dsimp only) <;> omega, by (try dsimp only) <;> omega, by (try dsimp only) <;> omega, by (try dsimp only) <;> omega, by (try dsimp only) <;> omega, by (try dsimp only) <;> omega, by (try dsimp only) <;> omega, A2_28, A2_29, A2_30, A2_34⟩
    rintro ⟨w5, n5, y5⟩ ⟨hI5, q5_0, q5_1, q5_2, q5_3, q5_4, q5_5, q5_6, q5_7, q5_8, q5_9, q5_10, q5_11, q5_12, q5_13, q5_14, q5_15, q5_16⟩ ih23
    try dsimp only at ih23
    try dsimp only at q5_0
    try dsimp only at q5_1
    try dsimp only at q5_2
    try dsimp only at q5_3
    try dsimp only at q5_4
    try dsimp only at q5_5
    try dsimp only at q5_6
    try dsimp only at q5_7
    try dsimp only at q5_8
    try dsimp only at q5_9
    try dsimp only at q5_10
    try dsimp only at q5_11
    try dsimp only at q5_12
    try dsimp only at q5_13
    try dsimp only at q5_14
    try dsimp only at q5_15
    try dsimp only at q5_16
    try dsimp only
    refine bg_aload_n C d_mo_way_23 rfl rfl ?_
    refine bg_getr (i := 21) C cf_mo rfl (by decide) rfl tw_698 d_mo_way_24 ?_
    refine bg_iload_n C d_mo_way_27 rfl rfl ?_
    refine bm_iald C hI5 rfl rfl (by omega) (by omega) d_mo_way_28 (fun v6 e6 a6 b6 => ?_)
    refine bg_iconst C d_mo_way_29 ?_
    refine bg_icmp_eq (tgt := 84) C d_mo_way_30 (by decide) ⟨by omega, by omega⟩ ⟨by omega, by omega⟩ (fun h7 => ?_) (fun h7 => ?_)
    · refine bg_aload_n C d_mo_way_84 rfl rfl ?_
      refine bg_iload_n C d_mo_way_85 rfl rfl ?_
      refine bg_if_lt (tgt := 94) C d_mo_way_86 (by decide) ⟨by omega, by omega⟩ (fun h8 => ?_) (fun h8 => ?_)
      · refine bg_iconst C d_mo_way_94 ?_
        refine bg_goto (l := 99) C d_mo_way_95 (by decide) ?_
        refine bm_puti C cf_mo hI5 0 0 rfl rfl (by decide) rfl rfl rfl (by omega) (by omega) rfl (Or.inl rfl) tw_677 d_mo_way_99 (fun w9 hI9 e9 => ?_)
        have A9_28 : ∀ i, w9 28 i = w0 28 i := fun i => by rw [e9]; exact (bgU_ne i (by decide)).trans (q5_13 i)
        have A9_29 : ∀ i, w9 29 i = w0 29 i := fun i => by rw [e9]; exact (bgU_ne i (by decide)).trans (q5_14 i)
        have A9_30 : ∀ i, w9 30 i = w0 30 i := fun i => by rw [e9]; exact (bgU_ne i (by decide)).trans (q5_15 i)
        have A9_34 : ∀ i, w9 34 i = w0 34 i := fun i => by rw [e9]; exact (bgU_ne i (by decide)).trans (q5_16 i)
        have g9_0 : w9 27 0 = 3 := by rw [e9]; exact bgU_eq
        have g9_1 : w9 27 4 = w5 27 4 := by rw [e9]; exact bgU_nei (by decide)
        have g9_2 : w9 27 5 = w5 27 5 := by rw [e9]; exact bgU_nei (by decide)
        have g9_3 : w9 27 6 = w5 27 6 := by rw [e9]; exact bgU_nei (by decide)
        have g9_4 : w9 27 7 = w5 27 7 := by rw [e9]; exact bgU_nei (by decide)
        have g9_5 : w9 27 17 = w5 27 17 := by rw [e9]; exact bgU_nei (by decide)
        have g9_6 : w9 27 19 = w5 27 19 := by rw [e9]; exact bgU_nei (by decide)
        have g9_7 : w9 27 20 = w5 27 20 := by rw [e9]; exact bgU_nei (by decide)
        refine bg_aload_n C d_mo_way_102 rfl rfl ?_
        refine bm_geti C cf_mo hI9 0 0 rfl rfl (by decide) rfl rfl tw_677 d_mo_way_103 (fun v10 e10 a10 b10 => ?_)
        refine bg_if_le (tgt := 113) C d_mo_way_106 (by decide) ⟨by omega, by omega⟩ (fun h11 => by exfalso; omega) (fun h11 => ?_)
        refine bg_iconst C d_mo_way_109 ?_
        refine bg_goto (l := 123) C d_mo_way_110 (by decide) ?_
        exact bg_iret C d_mo_way_123 (fun h => by cases h) (Or.inl rfl) (Nat.zero_le _) (Nat.zero_le _) ⟨_, rfl, hI9, bmB_of A9_28 A9_29 A9_30 A9_34 (by omega) (by omega) (by omega) (by omega) (by omega) (by omega) (by omega) hB⟩
      · refine bg_iload_n C d_mo_way_89 rfl rfl ?_
        refine bg_iload_n C d_mo_way_90 rfl rfl ?_
        refine bg_icmp_lt (tgt := 98) C d_mo_way_91 (by decide) ⟨by omega, by omega⟩ ⟨by omega, by omega⟩ (fun h12 => ?_) (fun h12 => ?_)
        · refine bg_iconst C d_mo_way_98 ?_
          refine bm_puti C cf_mo hI5 0 0 rfl rfl (by decide) rfl rfl rfl (by omega) (by omega) rfl (Or.inl rfl) tw_677 d_mo_way_99 (fun w13 hI13 e13 => ?_)
          have A13_28 : ∀ i, w13 28 i = w0 28 i := fun i => by rw [e13]; exact (bgU_ne i (by decide)).trans (q5_13 i)
          have A13_29 : ∀ i, w13 29 i = w0 29 i := fun i => by rw [e13]; exact (bgU_ne i (by decide)).trans (q5_14 i)
          have A13_30 : ∀ i, w13 30 i = w0 30 i := fun i => by rw [e13]; exact (bgU_ne i (by decide)).trans (q5_15 i)
          have A13_34 : ∀ i, w13 34 i = w0 34 i := fun i => by rw [e13]; exact (bgU_ne i (by decide)).trans (q5_16 i)
          have g13_0 : w13 27 0 = 0 := by rw [e13]; exact bgU_eq
          have g13_1 : w13 27 4 = w5 27 4 := by rw [e13]; exact bgU_nei (by decide)
          have g13_2 : w13 27 5 = w5 27 5 := by rw [e13]; exact bgU_nei (by decide)
          have g13_3 : w13 27 6 = w5 27 6 := by rw [e13]; exact bgU_nei (by decide)
          have g13_4 : w13 27 7 = w5 27 7 := by rw [e13]; exact bgU_nei (by decide)
          have g13_5 : w13 27 17 = w5 27 17 := by rw [e13]; exact bgU_nei (by decide)
          have g13_6 : w13 27 19 = w5 27 19 := by rw [e13]; exact bgU_nei (by decide)
          have g13_7 : w13 27 20 = w5 27 20 := by rw [e13]; exact bgU_nei (by decide)
          refine bg_aload_n C d_mo_way_102 rfl rfl ?_
          refine bm_geti C cf_mo hI13 0 0 rfl rfl (by decide) rfl rfl tw_677 d_mo_way_103 (fun v14 e14 a14 b14 => ?_)
          refine bg_if_le (tgt := 113) C d_mo_way_106 (by decide) ⟨by omega, by omega⟩ (fun h15 => ?_) (fun h15 => by exfalso; omega)
          refine bg_aload_n C d_mo_way_113 rfl rfl ?_
          refine bg_getr (i := 22) C cf_mo rfl (by decide) rfl tw_699 d_mo_way_114 ?_
          refine bg_iload_n C d_mo_way_117 rfl rfl ?_
          refine bg_iconst C d_mo_way_118 ?_
          refine bg_isub C d_mo_way_119 ?_
          refine bg_iload_n C d_mo_way_120 rfl rfl ?_
          refine bg_isub C d_mo_way_121 ?_
          refine bq_iald0 C rfl (by omega) (by omega) d_mo_way_122 (fun v16 e16 => ?_)
          exact bg_iret C d_mo_way_123 (fun h => by cases h) (Or.inl rfl) (Nat.zero_le _) (Nat.zero_le _) ⟨_, rfl, hI13, bmB_of A13_28 A13_29 A13_30 A13_34 (by omega) (by omega) (by omega) (by omega) (by omega) (by omega) (by omega) hB⟩
        · refine bg_iconst C d_mo_way_94 ?_
          refine bg_goto (l := 99) C d_mo_way_95 (by decide) ?_
          refine bm_puti C cf_mo hI5 0 0 rfl rfl (by decide) rfl rfl rfl (by omega) (by omega) rfl (Or.inl rfl) tw_677 d_mo_way_99 (fun w17 hI17 e17 => ?_)
          have A17_28 : ∀ i, w17 28 i = w0 28 i := fun i => by rw [e17]; exact (bgU_ne i (by decide)).trans (q5_13 i)
          have A17_29 : ∀ i, w17 29 i = w0 29 i := fun i => by rw [e17]; exact (bgU_ne i (by decide)).trans (q5_14 i)
          have A17_30 : ∀ i, w17 30 i = w0 30 i := fun i => by rw [e17]; exact (bgU_ne i (by decide)).trans (q5_15 i)
          have A17_34 : ∀ i, w17 34 i = w0 34 i := fun i => by rw [e17]; exact (bgU_ne i (by decide)).trans (q5_16 i)
          have g17_0 : w17 27 0 = 3 := by rw [e17]; exact bgU_eq
          have g17_1 : w17 27 4 = w5 27 4 := by rw [e17]; exact bgU_nei (by decide)
          have g17_2 : w17 27 5 = w5 27 5 := by rw [e17]; exact bgU_nei (by decide)
          have g17_3 : w17 27 6 = w5 27 6 := by rw [e17]; exact bgU_nei (by decide)
          have g17_4 : w17 27 7 = w5 27 7 := by rw [e17]; exact bgU_nei (by decide)
          have g17_5 : w17 27 17 = w5 27 17 := by rw [e17]; exact bgU_nei (by decide)
          have g17_6 : w17 27 19 = w5 27 19 := by rw [e17]; exact bgU_nei (by decide)
          have g17_7 : w17 27 20 = w5 27 20 := by rw [e17]; exact bgU_nei (by decide)
          refine bg_aload_n C d_mo_way_102 rfl rfl ?_
          refine bm_geti C cf_mo hI17 0 0 rfl rfl (by decide) rfl rfl tw_677 d_mo_way_103 (fun v18 e18 a18 b18 => ?_)
          refine bg_if_le (tgt := 113) C d_mo_way_106 (by decide) ⟨by omega, by omega⟩ (fun h19 => by exfalso; omega) (fun h19 => ?_)
          refine bg_iconst C d_mo_way_109 ?_
          refine bg_goto (l := 123) C d_mo_way_110 (by decide) ?_
          exact bg_iret C d_mo_way_123 (fun h => by cases h) (Or.inl rfl) (Nat.zero_le _) (Nat.zero_le _) ⟨_, rfl, hI17, bmB_of A17_28 A17_29 A17_30 A17_34 (by omega) (by omega) (by omega) (by omega) (by omega) (by omega) (by omega) hB⟩
    · refine bg_iload C d_mo_way_33 rfl ?_
      refine bg_iconst C d_mo_way_35 ?_
      refine bg_icmp_eq (tgt := 84) C d_mo_way_36 (by decide) ⟨by omega, by omega⟩ ⟨by omega, by omega⟩ (fun h20 => ?_) (fun h20 => ?_)
      · refine bg_aload_n C d_mo_way_84 rfl rfl ?_
        refine bg_iload_n C d_mo_way_85 rfl rfl ?_
        refine bg_if_lt (tgt := 94) C d_mo_way_86 (by decide) ⟨by omega, by omega⟩ (fun h21 => ?_) (fun h21 => ?_)
        · refine bg_iconst C d_mo_way_94 ?_
          refine bg_goto (l := 99) C d_mo_way_95 (by decide) ?_
          refine bm_puti C cf_mo hI5 0 0 rfl rfl (by decide) rfl rfl rfl (by omega) (by omega) rfl (Or.inl rfl) tw_677 d_mo_way_99 (fun w22 hI22 e22 => ?_)
          have A22_28 : ∀ i, w22 28 i = w0 28 i := fun i => by rw [e22]; exact (bgU_ne i (by decide)).trans (q5_13 i)
          have A22_29 : ∀ i, w22 29 i = w0 29 i := fun i => by rw [e22]; exact (bgU_ne i (by decide)).trans (q5_14 i)
          have A22_30 : ∀ i, w22 30 i = w0 30 i := fun i => by rw [e22]; exact (bgU_ne i (by decide)).trans (q5_15 i)
          have A22_34 : ∀ i, w22 34 i = w0 34 i := fun i => by rw [e22]; exact (bgU_ne i (by decide)).trans (q5_16 i)
          have g22_0 : w22 27 0 = 3 := by rw [e22]; exact bgU_eq
          have g22_1 : w22 27 4 = w5 27 4 := by rw [e22]; exact bgU_nei (by decide)
          have g22_2 : w22 27 5 = w5 27 5 := by rw [e22]; exact bgU_nei (by decide)
          have g22_3 : w22 27 6 = w5 27 6 := by rw [e22]; exact bgU_nei (by decide)
          have g22_4 : w22 27 7 = w5 27 7 := by rw [e22]; exact bgU_nei (by decide)
          have g22_5 : w22 27 17 = w5 27 17 := by rw [e22]; exact bgU_nei (by decide)
          have g22_6 : w22 27 19 = w5 27 19 := by rw [e22]; exact bgU_nei (by decide)
          have g22_7 : w22 27 20 = w5 27 20 := by rw [e22]; exact bgU_nei (by decide)
          refine bg_aload_n C d_mo_way_102 rfl rfl ?_
          refine bm_geti C cf_mo hI22 0 0 rfl rfl (by decide) rfl rfl tw_677 d_mo_way_103 (fun v23 e23 a23 b23 => ?_)
          refine bg_if_le (tgt := 113) C d_mo_way_106 (by decide) ⟨by omega, by omega⟩ (fun h24 => by exfalso; omega) (fun h24 => ?_)
          refine bg_iconst C d_mo_way_109 ?_
          refine bg_goto (l := 123) C d_mo_way_110 (by decide) ?_
          exact bg_iret C d_mo_way_123 (fun h => by cases h) (Or.inl rfl) (Nat.zero_le _) (Nat.zero_le _) ⟨_, rfl, hI22, bmB_of A22_28 A22_29 A22_30 A22_34 (by omega) (by omega) (by omega) (by omega) (by omega) (by omega) (by omega) hB⟩
        · refine bg_iload_n C d_mo_way_89 rfl rfl ?_
          refine bg_iload_n C d_mo_way_90 rfl rfl ?_
          refine bg_icmp_lt (tgt := 98) C d_mo_way_91 (by decide) ⟨by omega, by omega⟩ ⟨by omega, by omega⟩ (fun h25 => ?_) (fun h25 => ?_)
          · refine bg_iconst C d_mo_way_98 ?_
            refine bm_puti C cf_mo hI5 0 0 rfl rfl (by decide) rfl rfl rfl (by omega) (by omega) rfl (Or.inl rfl) tw_677 d_mo_way_99 (fun w26 hI26 e26 => ?_)
            have A26_28 : ∀ i, w26 28 i = w0 28 i := fun i => by rw [e26]; exact (bgU_ne i (by decide)).trans (q5_13 i)
            have A26_29 : ∀ i, w26 29 i = w0 29 i := fun i => by rw [e26]; exact (bgU_ne i (by decide)).trans (q5_14 i)
            have A26_30 : ∀ i, w26 30 i = w0 30 i := fun i => by rw [e26]; exact (bgU_ne i (by decide)).trans (q5_15 i)
            have A26_34 : ∀ i, w26 34 i = w0 34 i := fun i => by rw [e26]; exact (bgU_ne i (by decide)).trans (q5_16 i)
            have g26_0 : w26 27 0 = 0 := by rw [e26]; exact bgU_eq
            have g26_1 : w26 27 4 = w5 27 4 := by rw [e26]; exact bgU_nei (by decide)
            have g26_2 : w26 27 5 = w5 27 5 := by rw [e26]; exact bgU_nei (by decide)
            have g26_3 : w26 27 6 = w5 27 6 := by rw [e26]; exact bgU_nei (by decide)
            have g26_4 : w26 27 7 = w5 27 7 := by rw [e26]; exact bgU_nei (by decide)
            have g26_5 : w26 27 17 = w5 27 17 := by rw [e26]; exact bgU_nei (by decide)
            have g26_6 : w26 27 19 = w5 27 19 := by rw [e26]; exact bgU_nei (by decide)
            have g26_7 : w26 27 20 = w5 27 20 := by rw [e26]; exact bgU_nei (by decide)
            refine bg_aload_n C d_mo_way_102 rfl rfl ?_
            refine bm_geti C cf_mo hI26 0 0 rfl rfl (by decide) rfl rfl tw_677 d_mo_way_103 (fun v27 e27 a27 b27 => ?_)
            refine bg_if_le (tgt := 113) C d_mo_way_106 (by decide) ⟨by omega, by omega⟩ (fun h28 => ?_) (fun h28 => by exfalso; omega)
            refine bg_aload_n C d_mo_way_113 rfl rfl ?_
            refine bg_getr (i := 22) C cf_mo rfl (by decide) rfl tw_699 d_mo_way_114 ?_
            refine bg_iload_n C d_mo_way_117 rfl rfl ?_
            refine bg_iconst C d_mo_way_118 ?_
            refine bg_isub C d_mo_way_119 ?_
            refine bg_iload_n C d_mo_way_120 rfl rfl ?_
            refine bg_isub C d_mo_way_121 ?_
            refine bq_iald0 C rfl (by omega) (by omega) d_mo_way_122 (fun v29 e29 => ?_)
            exact bg_iret C d_mo_way_123 (fun h => by cases h) (Or.inl rfl) (Nat.zero_le _) (Nat.zero_le _) ⟨_, rfl, hI26, bmB_of A26_28 A26_29 A26_30 A26_34 (by omega) (by omega) (by omega) (by omega) (by omega) (by omega) (by omega) hB⟩
          · refine bg_iconst C d_mo_way_94 ?_
            refine bg_goto (l := 99) C d_mo_way_95 (by decide) ?_
            refine bm_puti C cf_mo hI5 0 0 rfl rfl (by decide) rfl rfl rfl (by omega) (by omega) rfl (Or.inl rfl) tw_677 d_mo_way_99 (fun w30 hI30 e30 => ?_)
            have A30_28 : ∀ i, w30 28 i = w0 28 i := fun i => by rw [e30]; exact (bgU_ne i (by decide)).trans (q5_13 i)
            have A30_29 : ∀ i, w30 29 i = w0 29 i := fun i => by rw [e30]; exact (bgU_ne i (by decide)).trans (q5_14 i)
            have A30_30 : ∀ i, w30 30 i = w0 30 i := fun i => by rw [e30]; exact (bgU_ne i (by decide)).trans (q5_15 i)
            have A30_34 : ∀ i, w30 34 i = w0 34 i := fun i => by rw [e30]; exact (bgU_ne i (by decide)).trans (q5_16 i)
            have g30_0 : w30 27 0 = 3 := by rw [e30]; exact bgU_eq
            have g30_1 : w30 27 4 = w5 27 4 := by rw [e30]; exact bgU_nei (by decide)
            have g30_2 : w30 27 5 = w5 27 5 := by rw [e30]; exact bgU_nei (by decide)
            have g30_3 : w30 27 6 = w5 27 6 := by rw [e30]; exact bgU_nei (by decide)
            have g30_4 : w30 27 7 = w5 27 7 := by rw [e30]; exact bgU_nei (by decide)
            have g30_5 : w30 27 17 = w5 27 17 := by rw [e30]; exact bgU_nei (by decide)
            have g30_6 : w30 27 19 = w5 27 19 := by rw [e30]; exact bgU_nei (by decide)
            have g30_7 : w30 27 20 = w5 27 20 := by rw [e30]; exact bgU_nei (by decide)
            refine bg_aload_n C d_mo_way_102 rfl rfl ?_
            refine bm_geti C cf_mo hI30 0 0 rfl rfl (by decide) rfl rfl tw_677 d_mo_way_103 (fun v31 e31 a31 b31 => ?_)
            refine bg_if_le (tgt := 113) C d_mo_way_106 (by decide) ⟨by omega, by omega⟩ (fun h32 => by exfalso; omega) (fun h32 => ?_)
            refine bg_iconst C d_mo_way_109 ?_
            refine bg_goto (l := 123) C d_mo_way_110 (by decide) ?_
            exact bg_iret C d_mo_way_123 (fun h => by cases h) (Or.inl rfl) (Nat.zero_le _) (Nat.zero_le _) ⟨_, rfl, hI30, bmB_of A30_28 A30_29 A30_30 A30_34 (by omega) (by omega) (by omega) (by omega) (by omega) (by omega) (by omega) hB⟩
      · refine bg_aload_n C d_mo_way_39 rfl rfl ?_
        refine bg_getr (i := 22) C cf_mo rfl (by decide) rfl tw_699 d_mo_way_40 ?_
        refine bg_iload_n C d_mo_way_43 rfl rfl ?_
        refine bg_iload C d_mo_way_44 rfl ?_
        refine bm_iast0 C hI5 rfl rfl rfl (by omega) (by omega) d_mo_way_46 (fun w33 hI33 e33 => ?_)
        have A33_28 : ∀ i, w33 28 i = w0 28 i := fun i => by rw [e33]; exact (bgU_ne i (by decide)).trans (q5_13 i)
        have A33_29 : ∀ i, w33 29 i = w0 29 i := fun i => by rw [e33]; exact (bgU_ne i (by decide)).trans (q5_14 i)
        have A33_30 : ∀ i, w33 30 i = w0 30 i := fun i => by rw [e33]; exact (bgU_ne i (by decide)).trans (q5_15 i)
        have A33_34 : ∀ i, w33 34 i = w0 34 i := fun i => by rw [e33]; exact (bgU_ne i (by decide)).trans (q5_16 i)
        have g33_0 : w33 27 0 = w5 27 0 := by rw [e33]; exact bgU_ne _ (by decide)
        have g33_1 : w33 27 4 = w5 27 4 := by rw [e33]; exact bgU_ne _ (by decide)
        have g33_2 : w33 27 5 = w5 27 5 := by rw [e33]; exact bgU_ne _ (by decide)
        have g33_3 : w33 27 6 = w5 27 6 := by rw [e33]; exact bgU_ne _ (by decide)
        have g33_4 : w33 27 7 = w5 27 7 := by rw [e33]; exact bgU_ne _ (by decide)
        have g33_5 : w33 27 17 = w5 27 17 := by rw [e33]; exact bgU_ne _ (by decide)
        have g33_6 : w33 27 19 = w5 27 19 := by rw [e33]; exact bgU_ne _ (by decide)
        have g33_7 : w33 27 20 = w5 27 20 := by rw [e33]; exact bgU_ne _ (by decide)
        refine bg_iinc C d_mo_way_47 rfl ?_
        refine bg_aload_n C d_mo_way_50 rfl rfl ?_
        refine bg_iload C d_mo_way_51 rfl ?_
        refine bg_ci C (m_mo_above hG hI33.1 (by omega) (by omega) (bmTi_of A33_28 A33_29 A33_30 A33_34 (by omega) (hB.2.2.2 (by omega)))) (bg_invV C cf_mo rfl tw_851 ti_mo_above ts_mo_above tc_mo_above tw_42 ⟨by decide, by decide⟩ (nA := 1) (by decide +kernel) rfl d_mo_way_53 rfl) rfl (by rw [hR]; exact ⟨by decide, by decide⟩) (by rw [hR]; exact ⟨by decide, by decide⟩) (Nat.le_of_ble_eq_true rfl) rfl (fun v34 w34 p34 => ?_)
        obtain ⟨rfl, r34_0, r34_1, r34_2⟩ := p34
        have q9 := r34_2
        simp only [A33_28, A33_30, A33_34] at q9
        refine bg_istore C d_mo_way_56 (Nat.le_of_ble_eq_true rfl) ?_
        refine bg_iload C d_mo_way_58 rfl ?_
        refine bg_iconst C d_mo_way_60 ?_
        refine bg_icmp_ne (tgt := 68) C d_mo_way_61 (by decide) ⟨by omega, by omega⟩ ⟨by omega, by omega⟩ (fun h35 => ?_) (fun h35 => ?_)
        · refine bg_aload_n C d_mo_way_68 rfl rfl ?_
          refine bg_getr (i := 1) C cf_mo rfl (by decide) rfl tw_678 d_mo_way_69 ?_
          refine bg_sipush C d_mo_way_72 (by decide +kernel) ?_
          refine bg_iload C d_mo_way_75 rfl ?_
          refine bg_iadd C d_mo_way_77 ?_
          refine bm_iald C hI33 rfl rfl (by omega) (by omega) d_mo_way_78 (fun v36 e36 a36 b36 => ?_)
          refine bg_istore C d_mo_way_79 (Nat.le_of_ble_eq_true rfl) ?_
          refine bg_goto (l := 23) C d_mo_way_81 (by decide) ?_
          refine bg_wl [true, true, true, true, true, false] rfl ?_
          exact ih23 (w33, (n5 + 1), v36) ⟨hI33, by (try dsimp only) <;> omega, by (try dsimp only) <;> omega, by (try dsimp only) <;> omega, by (try dsimp only) <;> omega, by (try dsimp only); first | exact Or.inl rfl | exact Or.inr (bmWay2 (w0 := w0) hB.2.1 q9 A33_28 e36 (by omega) (by omega) (by omega) (by omega)), by (try dsimp only) <;> omega, by (try dsimp only) <;> omega, by (try dsimp only) <;> omega, by (try dsimp only) <;> omega, by (try dsimp only) <;> omega, by (try dsimp only) <;> omega, by (try dsimp only) <;> omega, by (try dsimp only) <;> omega, A33_28, A33_29, A33_30, A33_34⟩ (by (try dsimp only); first | exact bmWay3 (by omega) | exact bmWay4 (w0 := w0) hB.2.1 q9 A33_28 e36 (by omega) (by omega) (by omega))
        · refine bg_iconst C d_mo_way_64 ?_
          refine bg_goto (l := 79) C d_mo_way_65 (by decide) ?_
          refine bg_istore C d_mo_way_79 (Nat.le_of_ble_eq_true rfl) ?_
          refine bg_goto (l := 23) C d_mo_way_81 (by decide) ?_
          refine bg_wl [true, true, true, true, true, false] rfl ?_
          exact ih23 (w33, (n5 + 1), (-1)) ⟨hI33, by (try dsimp only) <;> omega, by (try dsimp only) <;> omega, by (try dsimp only) <;> omega, by (try dsimp only) <;> omega, by (try dsimp only); first | exact Or.inl rfl | exact Or.inr (bmWay2 (w0 := w0) hB.2.1 q9 A33_28 rfl (by omega) (by omega) (by omega) (by omega)), by (try dsimp only) <;> omega, by (try dsimp only) <;> omega, by (try dsimp only) <;> omega, by (try dsimp only) <;> omega, by (try dsimp only) <;> omega, by (try dsimp only) <;> omega, by (try dsimp only) <;> omega, by (try dsimp only) <;> omega, A33_28, A33_29, A33_30, A33_34⟩ (by (try dsimp only); first | exact bmWay3 (by omega) | exact bmWay4 (w0 := w0) hB.2.1 q9 A33_28 rfl (by omega) (by omega) (by omega))
  · refine bg_iconst C d_mo_way_16 ?_
    exact bg_iret C d_mo_way_17 (fun h => by cases h) (Or.inl rfl) (Nat.zero_le _) (Nat.zero_le _) ⟨_, rfl, hI2, bmB_of A2_28 A2_29 A2_30 A2_34 (by omega) (by omega) (by omega) (by omega) (by omega) (by omega) (by omega) hB⟩
def S_mo_run : List (Nat × Option Int) := [(27, some 0), (27, some 17), (27, some 15), (27, some 20), (27, some 19), (33, none), (34, none)]
def rm_mo_run : Room := { frames := 2, cells := 0, slots := 0, locals := 45 }
set_option maxRecDepth 20000 in
set_option maxHeartbeats 4000000 in
theorem m_mo_run {G : bgGl} (hG : bgOk G) {w0 : bgW} (hw : moN w0) {x : Int} (z0 : -2147483648 ≤ x) (z1 : x ≤ 2147483647) (z2 : bmB w0) : bgM G false 0 0 y_mo_run (.code y_mo_run co_mo_run 5 (some .int)) rm_mo_run [br 27, bi x] w0 (bgPi (fun v w' => moRel S_mo_run w0 w' ∧ bmB w')) := by
  refine bg_met hG (by decide +kernel) (bg_cat rfl) (Nat.le_of_ble_eq_true rfl) ?_
  intro K hK hR hex C
  subst hK
  have hI := moRel.rfl (S := S_mo_run) hw
  show bgX K true 0 0 _ w0 0 [some (br 27), some (bi x), none, none, none] []
  have hB := z2
  have hB1 := hB.1
  have hs17 := hw 27 17 0 51 rfl
  have hs7 := hw 27 7 0 20 rfl
  have hs19 := hw 27 19 0 1 rfl
  have hs6 := hw 27 6 0 1 rfl
  have hs5 := hw 27 5 0 1 rfl
  refine bg_aload_n C d_mo_run_0 rfl rfl ?_
  refine bg_aload_n C d_mo_run_1 rfl rfl ?_
  refine bg_ci C (m_mo_isDown hG hI.1) (bg_invV C cf_mo rfl tw_776 ti_mo_isDown ts_mo_isDown tc_mo_isDown tw_42 ⟨by decide, by decide⟩ (nA := 0) (by decide +kernel) rfl d_mo_run_2 rfl) rfl (by rw [hR]; exact ⟨by decide, by decide⟩) (by rw [hR]; exact ⟨by decide, by decide⟩) (Nat.le_of_ble_eq_true rfl) rfl (fun v1 w1 p1 => ?_)
  obtain ⟨rfl, r1_0, r1_1, r1_2, r1_3⟩ := p1
  refine bg_if_eq (tgt := 12) C d_mo_run_5 (by decide) ⟨by omega, by omega⟩ (fun h2 => ?_) (fun h2 => ?_)
  · refine bg_iload_n C d_mo_run_12 rfl rfl ?_
    refine bg_ci C (m_mo_isVertex hG hI.1 (by omega) (by omega)) (bg_invS C tw_784 tt_mo_isVertex tc_mo_isVertex tw_42 ⟨by decide, by decide⟩ (nA := 1) (by decide +kernel) rfl d_mo_run_13 rfl) rfl (by rw [hR]; exact ⟨by decide, by decide⟩) (by rw [hR]; exact ⟨by decide, by decide⟩) (Nat.le_of_ble_eq_true rfl) rfl (fun v3 w3 p3 => ?_)
    obtain ⟨rfl, r3_0, r3_1, r3_2⟩ := p3
    refine bg_if_eq (tgt := 23) C d_mo_run_16 (by decide) ⟨by omega, by omega⟩ (fun h4 => ?_) (fun h4 => ?_)
    · refine bg_iconst C d_mo_run_23 ?_
      refine bm_puti C cf_mo hI 0 0 rfl rfl (by decide) rfl rfl rfl (by omega) (by omega) rfl (Or.inl rfl) tw_677 d_mo_run_24 (fun w5 hI5 e5 => ?_)
      have A5_28 : ∀ i, w5 28 i = w0 28 i := fun i => by rw [e5]; exact bgU_ne i (by decide)
      have A5_29 : ∀ i, w5 29 i = w0 29 i := fun i => by rw [e5]; exact bgU_ne i (by decide)
      have A5_30 : ∀ i, w5 30 i = w0 30 i := fun i => by rw [e5]; exact bgU_ne i (by decide)
      have A5_34 : ∀ i, w5 34 i = w0 34 i := fun i => by rw [e5]; exact bgU_ne i (by decide)
      have g5_0 : w5 27 0 = 2 := by rw [e5]; exact bgU_eq
      have g5_1 : w5 27 4 = w0 27 4 := by rw [e5]; exact bgU_nei (by decide)
      have g5_2 : w5 27 5 = w0 27 5 := by rw [e5]; exact bgU_nei (by decide)
      have g5_3 : w5 27 6 = w0 27 6 := by rw [e5]; exact bgU_nei (by decide)
      have g5_4 : w5 27 7 = w0 27 7 := by rw [e5]; exact bgU_nei (by decide)
      have g5_5 : w5 27 17 = w0 27 17 := by rw [e5]; exact bgU_nei (by decide)
      have g5_6 : w5 27 19 = w0 27 19 := by rw [e5]; exact bgU_nei (by decide)
      have g5_7 : w5 27 20 = w0 27 20 := by rw [e5]; exact bgU_nei (by decide)
      refine bg_aload_n C d_mo_run_27 rfl rfl ?_
      refine bm_geti C cf_mo hI5 0 0 rfl rfl (by decide) rfl rfl tw_677 d_mo_run_28 (fun v6 e6 a6 b6 => ?_)
      refine bg_if_le (tgt := 36) C d_mo_run_31 (by decide) ⟨by omega, by omega⟩ (fun h7 => by exfalso; omega) (fun h7 => ?_)
      refine bg_iconst C d_mo_run_34 ?_
      exact bg_iret C d_mo_run_35 (fun h => by cases h) (Or.inl rfl) (Nat.zero_le _) (Nat.zero_le _) ⟨_, rfl, hI5, bmB_of A5_28 A5_29 A5_30 A5_34 (by omega) (by omega) (by omega) (by omega) (by omega) (by omega) (by omega) hB⟩
    · refine bg_iconst C d_mo_run_19 ?_
      refine bg_goto (l := 24) C d_mo_run_20 (by decide) ?_
      refine bm_puti C cf_mo hI 0 0 rfl rfl (by decide) rfl rfl rfl (by omega) (by omega) rfl (Or.inl rfl) tw_677 d_mo_run_24 (fun w8 hI8 e8 => ?_)
      have A8_28 : ∀ i, w8 28 i = w0 28 i := fun i => by rw [e8]; exact bgU_ne i (by decide)
      have A8_29 : ∀ i, w8 29 i = w0 29 i := fun i => by rw [e8]; exact bgU_ne i (by decide)
      have A8_30 : ∀ i, w8 30 i = w0 30 i := fun i => by rw [e8]; exact bgU_ne i (by decide)
      have A8_34 : ∀ i, w8 34 i = w0 34 i := fun i => by rw [e8]; exact bgU_ne i (by decide)
      have g8_0 : w8 27 0 = 0 := by rw [e8]; exact bgU_eq
      have g8_1 : w8 27 4 = w0 27 4 := by rw [e8]; exact bgU_nei (by decide)
      have g8_2 : w8 27 5 = w0 27 5 := by rw [e8]; exact bgU_nei (by decide)
      have g8_3 : w8 27 6 = w0 27 6 := by rw [e8]; exact bgU_nei (by decide)
      have g8_4 : w8 27 7 = w0 27 7 := by rw [e8]; exact bgU_nei (by decide)
      have g8_5 : w8 27 17 = w0 27 17 := by rw [e8]; exact bgU_nei (by decide)
      have g8_6 : w8 27 19 = w0 27 19 := by rw [e8]; exact bgU_nei (by decide)
      have g8_7 : w8 27 20 = w0 27 20 := by rw [e8]; exact bgU_nei (by decide)
      refine bg_aload_n C d_mo_run_27 rfl rfl ?_
      refine bm_geti C cf_mo hI8 0 0 rfl rfl (by decide) rfl rfl tw_677 d_mo_run_28 (fun v9 e9 a9 b9 => ?_)
      refine bg_if_le (tgt := 36) C d_mo_run_31 (by decide) ⟨by omega, by omega⟩ (fun h10 => ?_) (fun h10 => by exfalso; omega)
      refine bg_iconst C d_mo_run_36 ?_
      refine bg_istore_n C d_mo_run_37 rfl (Nat.le_of_ble_eq_true rfl) ?_
      refine bg_loop (α := bgW × Int) (fun a => (50 - a.2).toNat) (fun a => moRel S_mo_run w0 a.1 ∧ 0 ≤ a.2 ∧ a.2 ≤ 50 ∧ a.1 27 17 ≤ 50 ∧ a.1 27 0 = w8 27 0 ∧ a.1 27 4 = w8 27 4 ∧ a.1 27 5 = w8 27 5 ∧ a.1 27 6 = w8 27 6 ∧ a.1 27 7 = w8 27 7 ∧ a.1 27 19 = w8 27 19 ∧ a.1 27 20 = w8 27 20 ∧ (∀ y9, a.1 28 y9 = w0 28 y9) ∧ (∀ y9, a.1 29 y9 = w0 29 y9) ∧ (∀ y9, a.1 30 y9 = w0 30 y9) ∧ (∀ y9, a.1 34 y9 = w0 34 y9)) (fun a => (a.1, [some (br 27), some (bi x), some (bi a.2), none, none], [])) ?_ (w8, 0) ⟨hI8, by (try dsimp only) <;> omega, by (try dsimp only) <;> omega, by (try dsimp only) <;> omega, by (try dsimp only) <;> omega, by (try dsimp only) <;> omega, by (try dsimp only) <;> omega, by (try dsimp only) <;> omega, by (try dsimp only) <;> omega, by (try dsimp only) <;> omega, by (try dsimp only) <;> omega, A8_28, A8_29, A8_30, A8_34⟩
      rintro ⟨w11, i11⟩ ⟨hI11, q11_0, q11_1, q11_2, q11_3, q11_4, q11_5, q11_6, q11_7, q11_8, q11_9, q11_10, q11_11, q11_12, q11_13⟩ ih38
      try dsimp only at ih38
      try dsimp only at q11_0
      try dsimp only at q11_1
      try dsimp only at q11_2
      try dsimp only at q11_3
      try dsimp only at q11_4
      try dsimp only at q11_5
      try dsimp only at q11_6
      try dsimp only at q11_7
      try dsimp only at q11_8
      try dsimp only at q11_9
      try dsimp only at q11_10
      try dsimp only at q11_11
      try dsimp only at q11_12
      try dsimp only at q11_13
      try dsimp only
      refine bg_iload_n C d_mo_run_38 rfl rfl ?_
      refine bg_bipush C d_mo_run_39 (by decide +kernel) ?_
      refine bg_icmp_ge (tgt := 55) C d_mo_run_41 (by decide) ⟨by omega, by omega⟩ ⟨by omega, by omega⟩ (fun h12 => ?_) (fun h12 => ?_)
      · refine bg_aload_n C d_mo_run_55 rfl rfl ?_
        refine bg_iload_n C d_mo_run_56 rfl rfl ?_
        refine bm_puti C cf_mo hI11 20 20 rfl rfl (by decide) rfl rfl rfl (by omega) (by omega) rfl (Or.inl rfl) tw_697 d_mo_run_57 (fun w13 hI13 e13 => ?_)
        have A13_28 : ∀ i, w13 28 i = w0 28 i := fun i => by rw [e13]; exact (bgU_ne i (by decide)).trans (q11_10 i)
        have A13_29 : ∀ i, w13 29 i = w0 29 i := fun i => by rw [e13]; exact (bgU_ne i (by decide)).trans (q11_11 i)
        have A13_30 : ∀ i, w13 30 i = w0 30 i := fun i => by rw [e13]; exact (bgU_ne i (by decide)).trans (q11_12 i)
        have A13_34 : ∀ i, w13 34 i = w0 34 i := fun i => by rw [e13]; exact (bgU_ne i (by decide)).trans (q11_13 i)
        have g13_0 : w13 27 0 = w11 27 0 := by rw [e13]; exact bgU_nei (by decide)
        have g13_1 : w13 27 4 = w11 27 4 := by rw [e13]; exact bgU_nei (by decide)
        have g13_2 : w13 27 5 = w11 27 5 := by rw [e13]; exact bgU_nei (by decide)
        have g13_3 : w13 27 6 = w11 27 6 := by rw [e13]; exact bgU_nei (by decide)
        have g13_4 : w13 27 7 = w11 27 7 := by rw [e13]; exact bgU_nei (by decide)
        have g13_5 : w13 27 17 = w11 27 17 := by rw [e13]; exact bgU_nei (by decide)
        have g13_6 : w13 27 19 = w11 27 19 := by rw [e13]; exact bgU_nei (by decide)
        have g13_7 : w13 27 20 = x := by rw [e13]; exact bgU_eq
        refine bg_iconst C d_mo_run_60 ?_
        refine bg_istore_n C d_mo_run_61 rfl (Nat.le_of_ble_eq_true rfl) ?_
        refine bg_loop (α := bgW × Int) (fun a => (64 - a.2).toNat) (fun a => moRel S_mo_run w0 a.1 ∧ 0 ≤ a.2 ∧ a.2 ≤ 64 ∧ (∀ v, 0 ≤ v → v < a.2 → a.1 34 v = if v = x then 0 else -1) ∧ a.1 27 0 = w13 27 0 ∧ a.1 27 4 = w13 27 4 ∧ a.1 27 5 = w13 27 5 ∧ a.1 27 6 = w13 27 6 ∧ a.1 27 7 = w13 27 7 ∧ a.1 27 17 = w13 27 17 ∧ a.1 27 19 = w13 27 19 ∧ a.1 27 20 = w13 27 20 ∧ (∀ y9, a.1 28 y9 = w0 28 y9) ∧ (∀ y9, a.1 29 y9 = w0 29 y9) ∧ (∀ y9, a.1 30 y9 = w0 30 y9)) (fun a => (a.1, [some (br 27), some (bi x), some (bi a.2), none, none], [])) ?_ (w13, 0) ⟨hI13, by (try dsimp only) <;> omega, by (try dsimp only) <;> omega, fun v h0 h1 => absurd h1 (by (try dsimp only); omega), by (try dsimp only) <;> omega, by (try dsimp only) <;> omega, by (try dsimp only) <;> omega, by (try dsimp only) <;> omega, by (try dsimp only) <;> omega, by (try dsimp only) <;> omega, by (try dsimp only) <;> omega, by (try dsimp only) <;> omega, A13_28, A13_29, A13_30⟩
        rintro ⟨w14, i14⟩ ⟨hI14, q14_0, q14_1, q14_2, q14_3, q14_4, q14_5, q14_6, q14_7, q14_8, q14_9, q14_10, q14_11, q14_12, q14_13⟩ ih62
        try dsimp only at ih62
        try dsimp only at q14_0
        try dsimp only at q14_1
        try dsimp only at q14_2
        try dsimp only at q14_3
        try dsimp only at q14_4
        try dsimp only at q14_5
        try dsimp only at q14_6
        try dsimp only at q14_7
        try dsimp only at q14_8
        try dsimp only at q14_9
        try dsimp only at q14_10
        try dsimp only at q14_11
        try dsimp only at q14_12
        try dsimp only at q14_13
        try dsimp only
        refine bg_iload_n C d_mo_run_62 rfl rfl ?_
        refine bg_bipush C d_mo_run_63 (by decide +kernel) ?_
        refine bg_icmp_ge (tgt := 90) C d_mo_run_65 (by decide) ⟨by omega, by omega⟩ ⟨by omega, by omega⟩ (fun h15 => ?_) (fun h15 => ?_)
        · refine bg_iconst C d_mo_run_90 ?_
          refine bg_istore_n C d_mo_run_91 rfl (Nat.le_of_ble_eq_true rfl) ?_
          refine bg_loop (α := bgW × Int) (fun a => 2 * bmPh a.1 + a.2.toNat) (fun a => moRel S_mo_run w0 a.1 ∧ 0 ≤ a.2 ∧ a.2 ≤ 1 ∧ bmD x a.1 ∧ (a.2 = 0 → ∀ f, 200 ≤ f → f < 400 → bmNR a.1 f) ∧ a.1 27 0 = w14 27 0 ∧ a.1 27 4 = w14 27 4 ∧ a.1 27 5 = w14 27 5 ∧ a.1 27 6 = w14 27 6 ∧ a.1 27 7 = w14 27 7 ∧ a.1 27 17 = w14 27 17 ∧ a.1 27 19 = w14 27 19 ∧ a.1 27 20 = w14 27 20 ∧ (∀ y9, a.1 28 y9 = w0 28 y9) ∧ (∀ y9, a.1 29 y9 = w0 29 y9) ∧ (∀ y9, a.1 30 y9 = w0 30 y9)) (fun a => (a.1, [some (br 27), some (bi x), some (bi a.2), none, none], [])) ?_ (w14, 1) ⟨hI14, by (try dsimp only) <;> omega, by (try dsimp only) <;> omega, bmD_init (by omega) (by omega) (fun v h0 h1 => q14_2 v h0 (by omega)), fun h => absurd h (by (try dsimp only); omega), by (try dsimp only) <;> omega, by (try dsimp only) <;> omega, by (try dsimp only) <;> omega, by (try dsimp only) <;> omega, by (try dsimp only) <;> omega, by (try dsimp only) <;> omega, by (try dsimp only) <;> omega, by (try dsimp only) <;> omega, q14_11, q14_12, q14_13⟩
          rintro ⟨w16, m16⟩ ⟨hI16, q16_0, q16_1, q16_2, q16_3, q16_4, q16_5, q16_6, q16_7, q16_8, q16_9, q16_10, q16_11, q16_12, q16_13, q16_14⟩ ih92
          try dsimp only at ih92
          try dsimp only at q16_0
          try dsimp only at q16_1
          try dsimp only at q16_2
          try dsimp only at q16_3
          try dsimp only at q16_4
          try dsimp only at q16_5
          try dsimp only at q16_6
          try dsimp only at q16_7
          try dsimp only at q16_8
          try dsimp only at q16_9
          try dsimp only at q16_10
          try dsimp only at q16_11
          try dsimp only at q16_12
          try dsimp only at q16_13
          try dsimp only at q16_14
          try dsimp only
          refine bg_iload_n C d_mo_run_92 rfl rfl ?_
          refine bg_if_eq (tgt := 212) C d_mo_run_93 (by decide) ⟨by omega, by omega⟩ (fun h17 => ?_) (fun h17 => ?_)
          · refine bg_aload_n C d_mo_run_212 rfl rfl ?_
            refine bg_iconst C d_mo_run_213 ?_
            refine bm_puti C cf_mo hI16 19 19 rfl rfl (by decide) rfl rfl rfl (by omega) (by omega) rfl (Or.inr ⟨rfl, by omega⟩) tw_696 d_mo_run_214 (fun w18 hI18 e18 => ?_)
            have A18_28 : ∀ i, w18 28 i = w0 28 i := fun i => by rw [e18]; exact (bgU_ne i (by decide)).trans (q16_12 i)
            have A18_29 : ∀ i, w18 29 i = w0 29 i := fun i => by rw [e18]; exact (bgU_ne i (by decide)).trans (q16_13 i)
            have A18_30 : ∀ i, w18 30 i = w0 30 i := fun i => by rw [e18]; exact (bgU_ne i (by decide)).trans (q16_14 i)
            have A18_34 : ∀ i, w18 34 i = w16 34 i := fun i => by rw [e18]; exact bgU_ne i (by decide)
            have g18_0 : w18 27 0 = w16 27 0 := by rw [e18]; exact bgU_nei (by decide)
            have g18_1 : w18 27 4 = w16 27 4 := by rw [e18]; exact bgU_nei (by decide)
            have g18_2 : w18 27 5 = w16 27 5 := by rw [e18]; exact bgU_nei (by decide)
            have g18_3 : w18 27 6 = w16 27 6 := by rw [e18]; exact bgU_nei (by decide)
            have g18_4 : w18 27 7 = w16 27 7 := by rw [e18]; exact bgU_nei (by decide)
            have g18_5 : w18 27 17 = w16 27 17 := by rw [e18]; exact bgU_nei (by decide)
            have g18_6 : w18 27 19 = 0 := by rw [e18]; exact bgU_eq
            have g18_7 : w18 27 20 = w16 27 20 := by rw [e18]; exact bgU_nei (by decide)
            have tt : bmTi w18 := bmTi_of (fun i => by rw [e18]; exact bgU_ne i (by decide)) (fun i => by rw [e18]; exact bgU_ne i (by decide)) (fun i => by rw [e18]; exact bgU_ne i (by decide)) (fun i => by rw [e18]; exact bgU_ne i (by decide)) (by rw [e18]; exact bgU_nei (by decide)) (bmTi_fin (x := x) q16_2 (by omega) (fun f h1 h2 => q16_3 (by omega) f h1 h2))
            refine bg_iconst C d_mo_run_217 ?_
            refine bg_istore_n C d_mo_run_218 rfl (Nat.le_of_ble_eq_true rfl) ?_
            refine bg_iconst C d_mo_run_219 ?_
            refine bg_istore C d_mo_run_220 (Nat.le_of_ble_eq_true rfl) ?_
            refine bg_loop (α := Int × Int) (fun a => (64 - a.2).toNat) (fun a => 0 ≤ a.2 ∧ a.2 ≤ 64) (fun a => (w18, [some (br 27), some (bi x), some (bi m16), some (bi a.1), some (bi a.2)], [])) ?_ (0, 0) ⟨by (try dsimp only) <;> omega, by (try dsimp only) <;> omega⟩
            rintro ⟨c19, i19⟩ ⟨q19_0, q19_1⟩ ih222
            try dsimp only at ih222
            try dsimp only at q19_0
            try dsimp only at q19_1
            try dsimp only
            refine bg_iload C d_mo_run_222 rfl ?_
            refine bg_bipush C d_mo_run_224 (by decide +kernel) ?_
            refine bg_icmp_ge (tgt := 254) C d_mo_run_226 (by decide) ⟨by omega, by omega⟩ ⟨by omega, by omega⟩ (fun h20 => ?_) (fun h20 => ?_)
            · refine bg_iload_n C d_mo_run_254 rfl rfl ?_
              exact bg_iret C d_mo_run_255 (fun h => by cases h) (Or.inl rfl) (Nat.zero_le _) (Nat.zero_le _) ⟨_, rfl, hI18, ⟨by omega, bmE_of A18_28 A18_30 hB.2.1, fun a b c => bmH_of A18_28 A18_29 A18_30 (hB.2.2.1 (by omega) (by omega) (by omega)), fun _ => tt⟩⟩
            · refine bg_iload_n C d_mo_run_229 rfl rfl ?_
              refine bg_aload_n C d_mo_run_230 rfl rfl ?_
              refine bg_getr (i := 21) C cf_mo rfl (by decide) rfl tw_698 d_mo_run_231 ?_
              refine bg_iload C d_mo_run_234 rfl ?_
              refine bm_iald C hI18 rfl rfl (by omega) (by omega) d_mo_run_236 (fun v21 e21 a21 b21 => ?_)
              refine bg_iconst C d_mo_run_237 ?_
              refine bg_icmp_eq (tgt := 245) C d_mo_run_238 (by decide) ⟨by omega, by omega⟩ ⟨by omega, by omega⟩ (fun h22 => ?_) (fun h22 => ?_)
              · refine bg_iconst C d_mo_run_245 ?_
                refine bg_iadd C d_mo_run_246 ?_
                refine bg_istore_n C d_mo_run_247 rfl (Nat.le_of_ble_eq_true rfl) ?_
                refine bg_iinc C d_mo_run_248 rfl ?_
                refine bg_goto (l := 222) C d_mo_run_251 (by decide) ?_
                exact ih222 ((c19 + 0), (i19 + 1)) ⟨by (try dsimp only) <;> omega, by (try dsimp only) <;> omega⟩ (by (try dsimp only) <;> omega)
              · refine bg_iconst C d_mo_run_241 ?_
                refine bg_goto (l := 246) C d_mo_run_242 (by decide) ?_
                refine bg_iadd C d_mo_run_246 ?_
                refine bg_istore_n C d_mo_run_247 rfl (Nat.le_of_ble_eq_true rfl) ?_
                refine bg_iinc C d_mo_run_248 rfl ?_
                refine bg_goto (l := 222) C d_mo_run_251 (by decide) ?_
                exact ih222 ((c19 + 1), (i19 + 1)) ⟨by (try dsimp only) <;> omega, by (try dsimp only) <;> omega⟩ (by (try dsimp only) <;> omega)
          · refine bg_iconst C d_mo_run_96 ?_
            refine bg_istore_n C d_mo_run_97 rfl (Nat.le_of_ble_eq_true rfl) ?_
            refine bg_sipush C d_mo_run_98 (by decide +kernel) ?_
            refine bg_istore_n C d_mo_run_101 rfl (Nat.le_of_ble_eq_true rfl) ?_
            refine bg_loop (α := bgW × Int × Int) (fun a => (400 - a.2.2).toNat) (fun a => moRel S_mo_run w0 a.1 ∧ 200 ≤ a.2.2 ∧ a.2.2 ≤ 400 ∧ 0 ≤ a.2.1 ∧ a.2.1 ≤ 1 ∧ bmD x a.1 ∧ bmPh a.1 ≤ bmPh w16 ∧ (a.2.1 = 1 → bmPh a.1 < bmPh w16) ∧ (a.2.1 = 0 → ∀ f, 200 ≤ f → f < a.2.2 → bmNR a.1 f) ∧ a.1 27 0 = w16 27 0 ∧ a.1 27 4 = w16 27 4 ∧ a.1 27 5 = w16 27 5 ∧ a.1 27 6 = w16 27 6 ∧ a.1 27 7 = w16 27 7 ∧ a.1 27 17 = w16 27 17 ∧ a.1 27 19 = w16 27 19 ∧ a.1 27 20 = w16 27 20 ∧ (∀ y9, a.1 28 y9 = w0 28 y9) ∧ (∀ y9, a.1 29 y9 = w0 29 y9) ∧ (∀ y9, a.1 30 y9 = w0 30 y9)) (fun a => (a.1, [some (br 27), some (bi x), some (bi a.2.1), some (bi a.2.2), none], [])) ?_ (w16, 0, 200) ⟨hI16, by (try dsimp only) <;> omega, by (try dsimp only) <;> omega, by (try dsimp only) <;> omega, by (try dsimp only) <;> omega, q16_2, by (try dsimp only) <;> omega, by (try dsimp only) <;> omega, fun _ f h1 h2 => absurd h2 (by (try dsimp only); omega), by (try dsimp only) <;> omega, by (try dsimp only) <;> omega, by (try dsimp only) <;> omega, by (try dsimp only) <;> omega, by (try dsimp only) <;> omega, by (try dsimp only) <;> omega, by (try dsimp only) <;> omega, by (try dsimp only) <;> omega, q16_12, q16_13, q16_14⟩
            rintro ⟨w23, m23, e23⟩ ⟨hI23, q23_0, q23_1, q23_2, q23_3, q23_4, q23_5, q23_6, q23_7, q23_8, q23_9, q23_10, q23_11, q23_12, q23_13, q23_14, q23_15, q23_16, q23_17, q23_18⟩ ih102
            try dsimp only at ih102
            try dsimp only at q23_0
            try dsimp only at q23_1
            try dsimp only at q23_2
            try dsimp only at q23_3
            try dsimp only at q23_4
            try dsimp only at q23_5
            try dsimp only at q23_6
            try dsimp only at q23_7
            try dsimp only at q23_8
            try dsimp only at q23_9
            try dsimp only at q23_10
            try dsimp only at q23_11
            try dsimp only at q23_12
            try dsimp only at q23_13
            try dsimp only at q23_14
            try dsimp only at q23_15
            try dsimp only at q23_16
            try dsimp only at q23_17
            try dsimp only at q23_18
            try dsimp only
            refine bg_iload_n C d_mo_run_102 rfl rfl ?_
            refine bg_sipush C d_mo_run_103 (by decide +kernel) ?_
            refine bg_icmp_ge (tgt := 209) C d_mo_run_106 (by decide) ⟨by omega, by omega⟩ ⟨by omega, by omega⟩ (fun h24 => ?_) (fun h24 => ?_)
            · refine bg_goto (l := 92) C d_mo_run_209 (by decide) ?_
              refine bg_wl [true, true, true, false, true] rfl ?_
              exact ih92 (w23, m23) ⟨hI23, by (try dsimp only) <;> omega, by (try dsimp only) <;> omega, q23_4, fun hm f h1 h2 => q23_7 hm f h1 (by omega), by (try dsimp only) <;> omega, by (try dsimp only) <;> omega, by (try dsimp only) <;> omega, by (try dsimp only) <;> omega, by (try dsimp only) <;> omega, by (try dsimp only) <;> omega, by (try dsimp only) <;> omega, by (try dsimp only) <;> omega, q23_16, q23_17, q23_18⟩ (by (try dsimp only) <;> omega)
            · refine bg_aload_n C d_mo_run_109 rfl rfl ?_
              refine bg_getr (i := 1) C cf_mo rfl (by decide) rfl tw_678 d_mo_run_110 ?_
              refine bg_iload_n C d_mo_run_113 rfl rfl ?_
              refine bm_iald C hI23 rfl rfl (by omega) (by omega) d_mo_run_114 (fun v25 e25 a25 b25 => ?_)
              refine bg_iconst C d_mo_run_115 ?_
              refine bg_icmp_eq (tgt := 203) C d_mo_run_116 (by decide) ⟨by omega, by omega⟩ ⟨by omega, by omega⟩ (fun h26 => ?_) (fun h26 => ?_)
              · refine bg_iinc C d_mo_run_203 rfl ?_
                refine bg_goto (l := 102) C d_mo_run_206 (by decide) ?_
                exact ih102 (w23, m23, (e23 + 1)) ⟨hI23, by (try dsimp only) <;> omega, by (try dsimp only) <;> omega, by (try dsimp only) <;> omega, by (try dsimp only) <;> omega, (by first | exact rl2.1 | exact q23_4), by (try dsimp only) <;> omega, by (try dsimp only) <;> omega, fun hm f h1 h2 => by first | exact absurd hm (by (try dsimp only); omega) | exact bmNRs q23_7 hm h1 h2 (by unfold bmNR; grind), by (try dsimp only) <;> omega, by (try dsimp only) <;> omega, by (try dsimp only) <;> omega, by (try dsimp only) <;> omega, by (try dsimp only) <;> omega, by (try dsimp only) <;> omega, by (try dsimp only) <;> omega, by (try dsimp only) <;> omega, q23_16, q23_17, q23_18⟩ (by (try dsimp only) <;> omega)
              · refine bg_aload_n C d_mo_run_119 rfl rfl ?_
                refine bg_getr (i := 21) C cf_mo rfl (by decide) rfl tw_698 d_mo_run_120 ?_
                refine bg_aload_n C d_mo_run_123 rfl rfl ?_
                refine bg_getr (i := 1) C cf_mo rfl (by decide) rfl tw_678 d_mo_run_124 ?_
                refine bg_iload_n C d_mo_run_127 rfl rfl ?_
                refine bm_iald C hI23 rfl rfl (by omega) (by omega) d_mo_run_128 (fun v27 e27 a27 b27 => ?_)
                refine bm_iald C hI23 rfl rfl (by omega) (by omega) d_mo_run_129 (fun v28 e28 a28 b28 => ?_)
                refine bg_iconst C d_mo_run_130 ?_
                refine bg_icmp_ne (tgt := 137) C d_mo_run_131 (by decide) ⟨by omega, by omega⟩ ⟨by omega, by omega⟩ (fun h29 => ?_) (fun h29 => ?_)
                · refine bg_aload_n C d_mo_run_137 rfl rfl ?_
                  refine bg_getr (i := 21) C cf_mo rfl (by decide) rfl tw_698 d_mo_run_138 ?_
                  refine bg_aload_n C d_mo_run_141 rfl rfl ?_
                  refine bg_getr (i := 1) C cf_mo rfl (by decide) rfl tw_678 d_mo_run_142 ?_
                  refine bg_iload_n C d_mo_run_145 rfl rfl ?_
                  refine bm_iald C hI23 rfl rfl (by omega) (by omega) d_mo_run_146 (fun v30 e30 a30 b30 => ?_)
                  refine bm_iald C hI23 rfl rfl (by omega) (by omega) d_mo_run_147 (fun v31 e31 a31 b31 => ?_)
                  refine bg_aload_n C d_mo_run_148 rfl rfl ?_
                  refine bg_getr (i := 3) C cf_mo rfl (by decide) rfl tw_680 d_mo_run_149 ?_
                  refine bg_iload_n C d_mo_run_152 rfl rfl ?_
                  refine bm_iald C hI23 rfl rfl (by omega) (by omega) d_mo_run_153 (fun v32 e32 a32 b32 => ?_)
                  refine bg_iadd C d_mo_run_154 ?_
                  refine bg_istore C d_mo_run_155 (Nat.le_of_ble_eq_true rfl) ?_
                  refine bg_aload_n C d_mo_run_157 rfl rfl ?_
                  refine bg_getr (i := 21) C cf_mo rfl (by decide) rfl tw_698 d_mo_run_158 ?_
                  refine bg_aload_n C d_mo_run_161 rfl rfl ?_
                  refine bg_getr (i := 2) C cf_mo rfl (by decide) rfl tw_679 d_mo_run_162 ?_
                  refine bg_iload_n C d_mo_run_165 rfl rfl ?_
                  refine bm_iald C hI23 rfl rfl (by omega) (by omega) d_mo_run_166 (fun v33 e33 a33 b33 => ?_)
                  refine bm_iald C hI23 rfl rfl (by omega) (by omega) d_mo_run_167 (fun v34 e34 a34 b34 => ?_)
                  refine bg_iconst C d_mo_run_168 ?_
                  refine bg_icmp_eq (tgt := 188) C d_mo_run_169 (by decide) ⟨by omega, by omega⟩ ⟨by omega, by omega⟩ (fun h35 => ?_) (fun h35 => ?_)
                  · have rE := bmE_of q23_16 q23_18 hB.2.1 e23 (by omega) (by omega)
                    have rl := bmRelax (w := w23) (x := x) (e := e23) q23_4 (by omega) (by omega) (by omega) (by omega) (by grind) (by grind) (by grind) (by grind) (by grind) (by grind) (by grind) (by grind)
                    have rl1 : (v31 + v32) ≤ 2064321 := by have := rl.1; grind
                    refine bg_aload_n C d_mo_run_188 rfl rfl ?_
                    refine bg_getr (i := 21) C cf_mo rfl (by decide) rfl tw_698 d_mo_run_189 ?_
                    refine bg_aload_n C d_mo_run_192 rfl rfl ?_
                    refine bg_getr (i := 2) C cf_mo rfl (by decide) rfl tw_679 d_mo_run_193 ?_
                    refine bg_iload_n C d_mo_run_196 rfl rfl ?_
                    refine bm_iald C hI23 rfl rfl (by omega) (by omega) d_mo_run_197 (fun v36 e36 a36 b36 => ?_)
                    refine bg_iload C d_mo_run_198 rfl ?_
                    refine bm_iast C hI23 rfl rfl rfl (by omega) (by omega) (by omega) (by omega) d_mo_run_200 (fun w37 hI37 e37 => ?_)
                    have A37_28 : ∀ i, w37 28 i = w0 28 i := fun i => by rw [e37]; exact (bgU_ne i (by decide)).trans (q23_16 i)
                    have A37_29 : ∀ i, w37 29 i = w0 29 i := fun i => by rw [e37]; exact (bgU_ne i (by decide)).trans (q23_17 i)
                    have A37_30 : ∀ i, w37 30 i = w0 30 i := fun i => by rw [e37]; exact (bgU_ne i (by decide)).trans (q23_18 i)
                    have g37_0 : w37 27 0 = w23 27 0 := by rw [e37]; exact bgU_ne _ (by decide)
                    have g37_1 : w37 27 4 = w23 27 4 := by rw [e37]; exact bgU_ne _ (by decide)
                    have g37_2 : w37 27 5 = w23 27 5 := by rw [e37]; exact bgU_ne _ (by decide)
                    have g37_3 : w37 27 6 = w23 27 6 := by rw [e37]; exact bgU_ne _ (by decide)
                    have g37_4 : w37 27 7 = w23 27 7 := by rw [e37]; exact bgU_ne _ (by decide)
                    have g37_5 : w37 27 17 = w23 27 17 := by rw [e37]; exact bgU_ne _ (by decide)
                    have g37_6 : w37 27 19 = w23 27 19 := by rw [e37]; exact bgU_ne _ (by decide)
                    have g37_7 : w37 27 20 = w23 27 20 := by rw [e37]; exact bgU_ne _ (by decide)
                    have rl2 : bmD x w37 ∧ bmPh w37 < bmPh w23 := by
                      have q1 : w37 = bgU w23 34 (w23 29 e23) (w23 34 (w23 28 e23) + w23 30 e23) := by rw [e37]; congr 1 <;> grind
                      rw [q1]
                      exact rl.2
                    refine bg_iconst C d_mo_run_201 ?_
                    refine bg_istore_n C d_mo_run_202 rfl (Nat.le_of_ble_eq_true rfl) ?_
                    refine bg_iinc C d_mo_run_203 rfl ?_
                    refine bg_goto (l := 102) C d_mo_run_206 (by decide) ?_
                    refine bg_wl [true, true, true, true, false] rfl ?_
                    exact ih102 (w37, 1, (e23 + 1)) ⟨hI37, by (try dsimp only) <;> omega, by (try dsimp only) <;> omega, by (try dsimp only) <;> omega, by (try dsimp only) <;> omega, (by first | exact rl2.1 | exact q23_4), by (try dsimp only) <;> omega, by (try dsimp only) <;> omega, fun hm f h1 h2 => by first | exact absurd hm (by (try dsimp only); omega) | exact bmNRs q23_7 hm h1 h2 (by unfold bmNR; grind), by (try dsimp only) <;> omega, by (try dsimp only) <;> omega, by (try dsimp only) <;> omega, by (try dsimp only) <;> omega, by (try dsimp only) <;> omega, by (try dsimp only) <;> omega, by (try dsimp only) <;> omega, by (try dsimp only) <;> omega, A37_28, A37_29, A37_30⟩ (by (try dsimp only) <;> omega)
                  · refine bg_iload C d_mo_run_172 rfl ?_
                    refine bg_aload_n C d_mo_run_174 rfl rfl ?_
                    refine bg_getr (i := 21) C cf_mo rfl (by decide) rfl tw_698 d_mo_run_175 ?_
                    refine bg_aload_n C d_mo_run_178 rfl rfl ?_
                    refine bg_getr (i := 2) C cf_mo rfl (by decide) rfl tw_679 d_mo_run_179 ?_
                    refine bg_iload_n C d_mo_run_182 rfl rfl ?_
                    refine bm_iald C hI23 rfl rfl (by omega) (by omega) d_mo_run_183 (fun v38 e38 a38 b38 => ?_)
                    refine bm_iald C hI23 rfl rfl (by omega) (by omega) d_mo_run_184 (fun v39 e39 a39 b39 => ?_)
                    refine bg_icmp_ge (tgt := 203) C d_mo_run_185 (by decide) ⟨by omega, by omega⟩ ⟨by omega, by omega⟩ (fun h40 => ?_) (fun h40 => ?_)
                    · refine bg_iinc C d_mo_run_203 rfl ?_
                      refine bg_goto (l := 102) C d_mo_run_206 (by decide) ?_
                      refine bg_wl [true, true, true, true, false] rfl ?_
                      exact ih102 (w23, m23, (e23 + 1)) ⟨hI23, by (try dsimp only) <;> omega, by (try dsimp only) <;> omega, by (try dsimp only) <;> omega, by (try dsimp only) <;> omega, (by first | exact rl2.1 | exact q23_4), by (try dsimp only) <;> omega, by (try dsimp only) <;> omega, fun hm f h1 h2 => by first | exact absurd hm (by (try dsimp only); omega) | exact bmNRs q23_7 hm h1 h2 (by unfold bmNR; grind), by (try dsimp only) <;> omega, by (try dsimp only) <;> omega, by (try dsimp only) <;> omega, by (try dsimp only) <;> omega, by (try dsimp only) <;> omega, by (try dsimp only) <;> omega, by (try dsimp only) <;> omega, by (try dsimp only) <;> omega, q23_16, q23_17, q23_18⟩ (by (try dsimp only) <;> omega)
                    · have rE := bmE_of q23_16 q23_18 hB.2.1 e23 (by omega) (by omega)
                      have rl := bmRelax (w := w23) (x := x) (e := e23) q23_4 (by omega) (by omega) (by omega) (by omega) (by grind) (by grind) (by grind) (by grind) (by grind) (by grind) (by grind) (by grind)
                      have rl1 : (v31 + v32) ≤ 2064321 := by have := rl.1; grind
                      refine bg_aload_n C d_mo_run_188 rfl rfl ?_
                      refine bg_getr (i := 21) C cf_mo rfl (by decide) rfl tw_698 d_mo_run_189 ?_
                      refine bg_aload_n C d_mo_run_192 rfl rfl ?_
                      refine bg_getr (i := 2) C cf_mo rfl (by decide) rfl tw_679 d_mo_run_193 ?_
                      refine bg_iload_n C d_mo_run_196 rfl rfl ?_
                      refine bm_iald C hI23 rfl rfl (by omega) (by omega) d_mo_run_197 (fun v41 e41 a41 b41 => ?_)
                      refine bg_iload C d_mo_run_198 rfl ?_
                      refine bm_iast C hI23 rfl rfl rfl (by omega) (by omega) (by omega) (by omega) d_mo_run_200 (fun w42 hI42 e42 => ?_)
                      have A42_28 : ∀ i, w42 28 i = w0 28 i := fun i => by rw [e42]; exact (bgU_ne i (by decide)).trans (q23_16 i)
                      have A42_29 : ∀ i, w42 29 i = w0 29 i := fun i => by rw [e42]; exact (bgU_ne i (by decide)).trans (q23_17 i)
                      have A42_30 : ∀ i, w42 30 i = w0 30 i := fun i => by rw [e42]; exact (bgU_ne i (by decide)).trans (q23_18 i)
                      have g42_0 : w42 27 0 = w23 27 0 := by rw [e42]; exact bgU_ne _ (by decide)
                      have g42_1 : w42 27 4 = w23 27 4 := by rw [e42]; exact bgU_ne _ (by decide)
                      have g42_2 : w42 27 5 = w23 27 5 := by rw [e42]; exact bgU_ne _ (by decide)
                      have g42_3 : w42 27 6 = w23 27 6 := by rw [e42]; exact bgU_ne _ (by decide)
                      have g42_4 : w42 27 7 = w23 27 7 := by rw [e42]; exact bgU_ne _ (by decide)
                      have g42_5 : w42 27 17 = w23 27 17 := by rw [e42]; exact bgU_ne _ (by decide)
                      have g42_6 : w42 27 19 = w23 27 19 := by rw [e42]; exact bgU_ne _ (by decide)
                      have g42_7 : w42 27 20 = w23 27 20 := by rw [e42]; exact bgU_ne _ (by decide)
                      have rl2 : bmD x w42 ∧ bmPh w42 < bmPh w23 := by
                        have q1 : w42 = bgU w23 34 (w23 29 e23) (w23 34 (w23 28 e23) + w23 30 e23) := by rw [e42]; congr 1 <;> grind
                        rw [q1]
                        exact rl.2
                      refine bg_iconst C d_mo_run_201 ?_
                      refine bg_istore_n C d_mo_run_202 rfl (Nat.le_of_ble_eq_true rfl) ?_
                      refine bg_iinc C d_mo_run_203 rfl ?_
                      refine bg_goto (l := 102) C d_mo_run_206 (by decide) ?_
                      refine bg_wl [true, true, true, true, false] rfl ?_
                      exact ih102 (w42, 1, (e23 + 1)) ⟨hI42, by (try dsimp only) <;> omega, by (try dsimp only) <;> omega, by (try dsimp only) <;> omega, by (try dsimp only) <;> omega, (by first | exact rl2.1 | exact q23_4), by (try dsimp only) <;> omega, by (try dsimp only) <;> omega, fun hm f h1 h2 => by first | exact absurd hm (by (try dsimp only); omega) | exact bmNRs q23_7 hm h1 h2 (by unfold bmNR; grind), by (try dsimp only) <;> omega, by (try dsimp only) <;> omega, by (try dsimp only) <;> omega, by (try dsimp only) <;> omega, by (try dsimp only) <;> omega, by (try dsimp only) <;> omega, by (try dsimp only) <;> omega, by (try dsimp only) <;> omega, A42_28, A42_29, A42_30⟩ (by (try dsimp only) <;> omega)
                · refine bg_goto (l := 203) C d_mo_run_134 (by decide) ?_
                  refine bg_iinc C d_mo_run_203 rfl ?_
                  refine bg_goto (l := 102) C d_mo_run_206 (by decide) ?_
                  exact ih102 (w23, m23, (e23 + 1)) ⟨hI23, by (try dsimp only) <;> omega, by (try dsimp only) <;> omega, by (try dsimp only) <;> omega, by (try dsimp only) <;> omega, (by first | exact rl2.1 | exact q23_4), by (try dsimp only) <;> omega, by (try dsimp only) <;> omega, fun hm f h1 h2 => by first | exact absurd hm (by (try dsimp only); omega) | exact bmNRs q23_7 hm h1 h2 (by unfold bmNR; grind), by (try dsimp only) <;> omega, by (try dsimp only) <;> omega, by (try dsimp only) <;> omega, by (try dsimp only) <;> omega, by (try dsimp only) <;> omega, by (try dsimp only) <;> omega, by (try dsimp only) <;> omega, by (try dsimp only) <;> omega, q23_16, q23_17, q23_18⟩ (by (try dsimp only) <;> omega)
        · refine bg_aload_n C d_mo_run_68 rfl rfl ?_
          refine bg_getr (i := 21) C cf_mo rfl (by decide) rfl tw_698 d_mo_run_69 ?_
          refine bg_iload_n C d_mo_run_72 rfl rfl ?_
          refine bg_iload_n C d_mo_run_73 rfl rfl ?_
          refine bg_iload_n C d_mo_run_74 rfl rfl ?_
          refine bg_icmp_ne (tgt := 82) C d_mo_run_75 (by decide) ⟨by omega, by omega⟩ ⟨by omega, by omega⟩ (fun h43 => ?_) (fun h43 => ?_)
          · refine bg_iconst C d_mo_run_82 ?_
            refine bm_iast C hI14 rfl rfl rfl (by omega) (by omega) (by omega) (by omega) d_mo_run_83 (fun w44 hI44 e44 => ?_)
            have A44_28 : ∀ i, w44 28 i = w0 28 i := fun i => by rw [e44]; exact (bgU_ne i (by decide)).trans (q14_11 i)
            have A44_29 : ∀ i, w44 29 i = w0 29 i := fun i => by rw [e44]; exact (bgU_ne i (by decide)).trans (q14_12 i)
            have A44_30 : ∀ i, w44 30 i = w0 30 i := fun i => by rw [e44]; exact (bgU_ne i (by decide)).trans (q14_13 i)
            have g44_0 : w44 27 0 = w14 27 0 := by rw [e44]; exact bgU_ne _ (by decide)
            have g44_1 : w44 27 4 = w14 27 4 := by rw [e44]; exact bgU_ne _ (by decide)
            have g44_2 : w44 27 5 = w14 27 5 := by rw [e44]; exact bgU_ne _ (by decide)
            have g44_3 : w44 27 6 = w14 27 6 := by rw [e44]; exact bgU_ne _ (by decide)
            have g44_4 : w44 27 7 = w14 27 7 := by rw [e44]; exact bgU_ne _ (by decide)
            have g44_5 : w44 27 17 = w14 27 17 := by rw [e44]; exact bgU_ne _ (by decide)
            have g44_6 : w44 27 19 = w14 27 19 := by rw [e44]; exact bgU_ne _ (by decide)
            have g44_7 : w44 27 20 = w14 27 20 := by rw [e44]; exact bgU_ne _ (by decide)
            refine bg_iinc C d_mo_run_84 rfl ?_
            refine bg_goto (l := 62) C d_mo_run_87 (by decide) ?_
            exact ih62 (w44, (i14 + 1)) ⟨hI44, by (try dsimp only) <;> omega, by (try dsimp only) <;> omega, fun v h0 h1 => bmIni q14_2 e44 (by omega) v h0 h1, by (try dsimp only) <;> omega, by (try dsimp only) <;> omega, by (try dsimp only) <;> omega, by (try dsimp only) <;> omega, by (try dsimp only) <;> omega, by (try dsimp only) <;> omega, by (try dsimp only) <;> omega, by (try dsimp only) <;> omega, A44_28, A44_29, A44_30⟩ (by (try dsimp only) <;> omega)
          · refine bg_iconst C d_mo_run_78 ?_
            refine bg_goto (l := 83) C d_mo_run_79 (by decide) ?_
            refine bm_iast C hI14 rfl rfl rfl (by omega) (by omega) (by omega) (by omega) d_mo_run_83 (fun w45 hI45 e45 => ?_)
            have A45_28 : ∀ i, w45 28 i = w0 28 i := fun i => by rw [e45]; exact (bgU_ne i (by decide)).trans (q14_11 i)
            have A45_29 : ∀ i, w45 29 i = w0 29 i := fun i => by rw [e45]; exact (bgU_ne i (by decide)).trans (q14_12 i)
            have A45_30 : ∀ i, w45 30 i = w0 30 i := fun i => by rw [e45]; exact (bgU_ne i (by decide)).trans (q14_13 i)
            have g45_0 : w45 27 0 = w14 27 0 := by rw [e45]; exact bgU_ne _ (by decide)
            have g45_1 : w45 27 4 = w14 27 4 := by rw [e45]; exact bgU_ne _ (by decide)
            have g45_2 : w45 27 5 = w14 27 5 := by rw [e45]; exact bgU_ne _ (by decide)
            have g45_3 : w45 27 6 = w14 27 6 := by rw [e45]; exact bgU_ne _ (by decide)
            have g45_4 : w45 27 7 = w14 27 7 := by rw [e45]; exact bgU_ne _ (by decide)
            have g45_5 : w45 27 17 = w14 27 17 := by rw [e45]; exact bgU_ne _ (by decide)
            have g45_6 : w45 27 19 = w14 27 19 := by rw [e45]; exact bgU_ne _ (by decide)
            have g45_7 : w45 27 20 = w14 27 20 := by rw [e45]; exact bgU_ne _ (by decide)
            refine bg_iinc C d_mo_run_84 rfl ?_
            refine bg_goto (l := 62) C d_mo_run_87 (by decide) ?_
            exact ih62 (w45, (i14 + 1)) ⟨hI45, by (try dsimp only) <;> omega, by (try dsimp only) <;> omega, fun v h0 h1 => bmIni q14_2 e45 (by omega) v h0 h1, by (try dsimp only) <;> omega, by (try dsimp only) <;> omega, by (try dsimp only) <;> omega, by (try dsimp only) <;> omega, by (try dsimp only) <;> omega, by (try dsimp only) <;> omega, by (try dsimp only) <;> omega, by (try dsimp only) <;> omega, A45_28, A45_29, A45_30⟩ (by (try dsimp only) <;> omega)
      · refine bg_aload_n C d_mo_run_44 rfl rfl ?_
        refine bg_iload_n C d_mo_run_45 rfl rfl ?_
        refine bg_cv C (m_mo_look hG hI11.1 (by omega)) (bg_invV C cf_mo rfl tw_827 ti_mo_look ts_mo_look tc_mo_look tw_42 ⟨by decide, by decide⟩ (nA := 1) (by decide +kernel) rfl d_mo_run_46 rfl) rfl (by rw [hR]; exact ⟨by decide, by decide⟩) (by rw [hR]; exact ⟨by decide, by decide⟩) (Nat.le_of_ble_eq_true rfl) rfl (fun w46 p46 => ?_)
        obtain ⟨j46, r46_0⟩ := p46
        have hI46 := hI11.trans j46 (by decide)
        have g46_0 : w46 27 0 = w11 27 0 := j46.2 27 0 rfl
        have g46_1 : w46 27 4 = w11 27 4 := j46.2 27 4 rfl
        have g46_2 : w46 27 5 = w11 27 5 := j46.2 27 5 rfl
        have g46_3 : w46 27 6 = w11 27 6 := j46.2 27 6 rfl
        have g46_4 : w46 27 7 = w11 27 7 := j46.2 27 7 rfl
        have g46_6 : w46 27 19 = w11 27 19 := j46.2 27 19 rfl
        have g46_7 : w46 27 20 = w11 27 20 := j46.2 27 20 rfl
        have A46_28 : ∀ i, w46 28 i = w0 28 i := fun i => (j46.2 28 i rfl).trans (q11_10 i)
        have A46_29 : ∀ i, w46 29 i = w0 29 i := fun i => (j46.2 29 i rfl).trans (q11_11 i)
        have A46_30 : ∀ i, w46 30 i = w0 30 i := fun i => (j46.2 30 i rfl).trans (q11_12 i)
        have A46_34 : ∀ i, w46 34 i = w0 34 i := fun i => (j46.2 34 i rfl).trans (q11_13 i)
        refine bg_iinc C d_mo_run_49 rfl ?_
        refine bg_goto (l := 38) C d_mo_run_52 (by decide) ?_
        exact ih38 (w46, (i11 + 1)) ⟨hI46, by (try dsimp only) <;> omega, by (try dsimp only) <;> omega, by (try dsimp only) <;> omega, by (try dsimp only) <;> omega, by (try dsimp only) <;> omega, by (try dsimp only) <;> omega, by (try dsimp only) <;> omega, by (try dsimp only) <;> omega, by (try dsimp only) <;> omega, by (try dsimp only) <;> omega, A46_28, A46_29, A46_30, A46_34⟩ (by (try dsimp only) <;> omega)
  · refine bg_iconst C d_mo_run_8 ?_
    refine bg_goto (l := 24) C d_mo_run_9 (by decide) ?_
    refine bm_puti C cf_mo hI 0 0 rfl rfl (by decide) rfl rfl rfl (by omega) (by omega) rfl (Or.inl rfl) tw_677 d_mo_run_24 (fun w47 hI47 e47 => ?_)
    have A47_28 : ∀ i, w47 28 i = w0 28 i := fun i => by rw [e47]; exact bgU_ne i (by decide)
    have A47_29 : ∀ i, w47 29 i = w0 29 i := fun i => by rw [e47]; exact bgU_ne i (by decide)
    have A47_30 : ∀ i, w47 30 i = w0 30 i := fun i => by rw [e47]; exact bgU_ne i (by decide)
    have A47_34 : ∀ i, w47 34 i = w0 34 i := fun i => by rw [e47]; exact bgU_ne i (by decide)
    have g47_0 : w47 27 0 = 1 := by rw [e47]; exact bgU_eq
    have g47_1 : w47 27 4 = w0 27 4 := by rw [e47]; exact bgU_nei (by decide)
    have g47_2 : w47 27 5 = w0 27 5 := by rw [e47]; exact bgU_nei (by decide)
    have g47_3 : w47 27 6 = w0 27 6 := by rw [e47]; exact bgU_nei (by decide)
    have g47_4 : w47 27 7 = w0 27 7 := by rw [e47]; exact bgU_nei (by decide)
    have g47_5 : w47 27 17 = w0 27 17 := by rw [e47]; exact bgU_nei (by decide)
    have g47_6 : w47 27 19 = w0 27 19 := by rw [e47]; exact bgU_nei (by decide)
    have g47_7 : w47 27 20 = w0 27 20 := by rw [e47]; exact bgU_nei (by decide)
    refine bg_aload_n C d_mo_run_27 rfl rfl ?_
    refine bm_geti C cf_mo hI47 0 0 rfl rfl (by decide) rfl rfl tw_677 d_mo_run_28 (fun v48 e48 a48 b48 => ?_)
    refine bg_if_le (tgt := 36) C d_mo_run_31 (by decide) ⟨by omega, by omega⟩ (fun h49 => by exfalso; omega) (fun h49 => ?_)
    refine bg_iconst C d_mo_run_34 ?_
    exact bg_iret C d_mo_run_35 (fun h => by cases h) (Or.inl rfl) (Nat.zero_le _) (Nat.zero_le _) ⟨_, rfl, hI47, bmB_of A47_28 A47_29 A47_30 A47_34 (by omega) (by omega) (by omega) (by omega) (by omega) (by omega) (by omega) hB⟩
