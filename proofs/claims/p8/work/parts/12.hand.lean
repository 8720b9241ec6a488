def rm_pw_holds : Room := { frames := 0, cells := 0, slots := 0, locals := 0 }
set_option maxRecDepth 20000 in
set_option maxHeartbeats 4000000 in
theorem m_pw_holds {G : bgGl} (hG : bgOk G) {w0 : bgW} (hw : bgN w0) : bgM G false 0 0 y_pw_holds (.code y_pw_holds co_pw_holds 1 (some .boolean)) rm_pw_holds [br 1] w0 (bgPi (fun v w' => bgRel w0 w' ∧ 0 ≤ v ∧ v ≤ 1)) := by
  refine bg_met hG (by decide +kernel) (bg_cat rfl) (Nat.le_of_ble_eq_true rfl) ?_
  intro K hK hR hex C
  subst hK
  have hI := bgRel.rfl hw
  show bgX K true 0 0 _ w0 0 [some (br 1)] []
  refine bg_aload_n C d_pw_holds_0 rfl rfl ?_
  refine bq_get0 C cf_pw 0 0 rfl rfl (by decide) rfl tw_68 d_pw_holds_1 (fun v1 e1 => ?_)
  refine bg_if_ne0 (tgt := 14) C d_pw_holds_4 (by decide) ?_ ?_
  · refine bg_aload_n C d_pw_holds_14 rfl rfl ?_
    refine bq_get0 C cf_pw 0 0 rfl rfl (by decide) rfl tw_68 d_pw_holds_15 (fun v3 e3 => ?_)
    refine bg_if_le0 (tgt := 31) C d_pw_holds_18 (by decide) ?_ ?_
    · refine bg_aload_n C d_pw_holds_31 rfl rfl ?_
      refine bg_dup C d_pw_holds_32 rfl ?_
      refine bq_get0 C cf_pw 1 1 rfl rfl (by decide) rfl tw_70 d_pw_holds_33 (fun v5 e5 => ?_)
      refine bg_iconst C d_pw_holds_36 ?_
      refine bg_iadd C d_pw_holds_37 ?_
      refine bq_put0 C cf_pw hI 1 1 rfl rfl (by decide) rfl (by decide) rfl rfl rfl tw_70 d_pw_holds_38 (fun w6 hI6 e6 => ?_)
      refine bg_iconst C d_pw_holds_41 ?_
      exact bg_iret C d_pw_holds_42 (fun h => by cases h) (Or.inr ⟨rfl, by omega⟩) (Nat.zero_le _) (Nat.zero_le _) ⟨_, rfl, hI6, by omega, by omega⟩
    · refine bg_aload_n C d_pw_holds_21 rfl rfl ?_
      refine bg_dup C d_pw_holds_22 rfl ?_
      refine bq_get0 C cf_pw 0 0 rfl rfl (by decide) rfl tw_68 d_pw_holds_23 (fun v7 e7 => ?_)
      refine bg_iconst C d_pw_holds_26 ?_
      refine bg_isub C d_pw_holds_27 ?_
      refine bq_put0 C cf_pw hI 0 0 rfl rfl (by decide) rfl (by decide) rfl rfl rfl tw_68 d_pw_holds_28 (fun w8 hI8 e8 => ?_)
      refine bg_aload_n C d_pw_holds_31 rfl rfl ?_
      refine bg_dup C d_pw_holds_32 rfl ?_
      refine bq_get0 C cf_pw 1 1 rfl rfl (by decide) rfl tw_70 d_pw_holds_33 (fun v9 e9 => ?_)
      refine bg_iconst C d_pw_holds_36 ?_
      refine bg_iadd C d_pw_holds_37 ?_
      refine bq_put0 C cf_pw hI8 1 1 rfl rfl (by decide) rfl (by decide) rfl rfl rfl tw_70 d_pw_holds_38 (fun w10 hI10 e10 => ?_)
      refine bg_iconst C d_pw_holds_41 ?_
      exact bg_iret C d_pw_holds_42 (fun h => by cases h) (Or.inr ⟨rfl, by omega⟩) (Nat.zero_le _) (Nat.zero_le _) ⟨_, rfl, hI10, by omega, by omega⟩
  · refine bg_aload_n C d_pw_holds_7 rfl rfl ?_
    refine bg_iconst C d_pw_holds_8 ?_
    refine bq_put0 C cf_pw hI 0 0 rfl rfl (by decide) rfl (by decide) rfl rfl rfl tw_68 d_pw_holds_9 (fun w11 hI11 e11 => ?_)
    refine bg_iconst C d_pw_holds_12 ?_
    exact bg_iret C d_pw_holds_13 (fun h => by cases h) (Or.inr ⟨rfl, by omega⟩) (Nat.zero_le _) (Nat.zero_le _) ⟨_, rfl, hI11, by omega, by omega⟩
def rm_hd_place : Room := { frames := 0, cells := 0, slots := 0, locals := 0 }
set_option maxRecDepth 20000 in
set_option maxHeartbeats 4000000 in
theorem m_hd_place {G : bgGl} (hG : bgOk G) {w0 : bgW} (hw : bgN w0) {b : Int} : bgM G true 0 0 y_hd_place (.code y_hd_place co_hd_place 3 (some .int)) rm_hd_place [br 2, bi b] w0 (bgPi (fun v w' => w0 = w' ∧ -1 ≤ v ∧ v ≤ 49)) := by
  refine bg_met hG (by decide +kernel) (bg_cat rfl) (Nat.le_of_ble_eq_true rfl) ?_
  intro K hK hR hex C
  subst hK
  have hI := bgRel.rfl hw
  show bgX K true 0 0 _ w0 0 [some (br 2), some (bi b), none] []
  refine bg_iconst C d_hd_place_0 ?_
  refine bg_istore_n C d_hd_place_1 rfl (Nat.le_of_ble_eq_true rfl) ?_
  refine bg_loop (α := Int) (fun a => (50 - a).toNat) (fun a => 0 ≤ a ∧ a ≤ 50) (fun a => (w0, [some (br 2), some (bi b), some (bi a)], [])) ?_ 0 ⟨by (try dsimp only) <;> omega, by (try dsimp only) <;> omega⟩
  rintro i1 ⟨q1_0, q1_1⟩ ih2
  try dsimp only at ih2
  try dsimp only at q1_0
  try dsimp only at q1_1
  try dsimp only
  refine bg_iload_n C d_hd_place_2 rfl rfl ?_
  refine bg_aload_n C d_hd_place_3 rfl rfl ?_
  refine bq_geti C cf_hd hI 1 1 rfl rfl (by decide) rfl (by decide) rfl tw_85 d_hd_place_4 (fun v2 e2 a2 b2 => ?_)
  refine bg_icmp_ge (tgt := 34) C d_hd_place_7 (by decide) ⟨by omega, by omega⟩ ⟨by omega, by omega⟩ (fun h3 => ?_) (fun h3 => ?_)
  · refine bg_iconst C d_hd_place_34 ?_
    exact bg_iret C d_hd_place_35 (fun _ => rfl) (Or.inl rfl) (Nat.zero_le _) (Nat.zero_le _) ⟨_, rfl, rfl, by omega, by omega⟩
  · refine bg_iload_n C d_hd_place_10 rfl rfl ?_
    refine bg_bipush C d_hd_place_11 (by decide +kernel) ?_
    refine bg_icmp_ge (tgt := 34) C d_hd_place_13 (by decide) ⟨by omega, by omega⟩ ⟨by omega, by omega⟩ (fun h4 => ?_) (fun h4 => ?_)
    · refine bg_iconst C d_hd_place_34 ?_
      exact bg_iret C d_hd_place_35 (fun _ => rfl) (Or.inl rfl) (Nat.zero_le _) (Nat.zero_le _) ⟨_, rfl, rfl, by omega, by omega⟩
    · refine bg_aload_n C d_hd_place_16 rfl rfl ?_
      refine bg_getr (i := 0) C cf_hd rfl (by decide) rfl tw_83 d_hd_place_17 ?_
      refine bg_iload_n C d_hd_place_20 rfl rfl ?_
      refine bq_iald0 C rfl (by omega) (by omega) d_hd_place_21 (fun v5 e5 => ?_)
      refine bg_iload_n C d_hd_place_22 rfl rfl ?_
      refine bg_icmp_ne0 (tgt := 28) C d_hd_place_23 (by decide) ?_ ?_
      · refine bg_iinc C d_hd_place_28 rfl ?_
        refine bg_goto (l := 2) C d_hd_place_31 (by decide) ?_
        exact ih2 (i1 + 1) ⟨by omega, by omega⟩ (by omega)
      · refine bg_iload_n C d_hd_place_26 rfl rfl ?_
        exact bg_iret C d_hd_place_27 (fun _ => rfl) (Or.inl rfl) (Nat.zero_le _) (Nat.zero_le _) ⟨_, rfl, rfl, by omega, by omega⟩
def rm_hd_limit : Room := { frames := 1, cells := 0, slots := 0, locals := 30 }
set_option maxRecDepth 20000 in
set_option maxHeartbeats 4000000 in
theorem m_hd_limit {G : bgGl} (hG : bgOk G) {w0 : bgW} (hw : bgN w0) {b : Int} (z0 : 1 ≤ b) (z1 : b ≤ 50) : bgM G false 0 0 y_hd_limit (.code y_hd_limit co_hd_limit 2 none) rm_hd_limit [br 2, bi b] w0 (bgPv (fun w' => bgRel w0 w')) := by
  refine bg_met hG (by decide +kernel) (bg_cat rfl) (Nat.le_of_ble_eq_true rfl) ?_
  intro K hK hR hex C
  subst hK
  have hI := bgRel.rfl hw
  show bgX K true 0 0 _ w0 0 [some (br 2), some (bi b)] []
  refine bg_aload_n C d_hd_limit_0 rfl rfl ?_
  refine bg_iload_n C d_hd_limit_1 rfl rfl ?_
  refine bq_puti C cf_hd hI 3 3 rfl rfl (by decide) rfl (by decide) rfl (by omega) (by omega) rfl (Or.inl rfl) tw_89 d_hd_limit_2 (fun w1 hI1 e1 => ?_)
  have g1_0 : w1 2 3 = b := by rw [e1]; exact bgU_eq
  refine bg_aload_n C d_hd_limit_5 rfl rfl ?_
  refine bg_aload_n C d_hd_limit_6 rfl rfl ?_
  refine bq_geti C cf_hd hI1 1 1 rfl rfl (by decide) rfl (by decide) rfl tw_85 d_hd_limit_7 (fun v2 e2 a2 b2 => ?_)
  refine bg_aload_n C d_hd_limit_10 rfl rfl ?_
  refine bq_geti C cf_hd hI1 3 3 rfl rfl (by decide) rfl (by decide) rfl tw_89 d_hd_limit_11 (fun v3 e3 a3 b3 => ?_)
  refine bg_min C tw_287 tm_sta tm_ini tm_cod rfl ⟨by omega, by omega⟩ ⟨by omega, by omega⟩ (by rw [hR]; decide) (by rw [hR]; exact Nat.le_of_ble_eq_true rfl) (Nat.zero_le _) (Nat.zero_le _) d_hd_limit_14 (fun h4 => ?_) (fun h4 => ?_)
  · refine bq_puti C cf_hd hI1 1 1 rfl rfl (by decide) rfl (by decide) rfl (by omega) (by omega) rfl (Or.inl rfl) tw_85 d_hd_limit_17 (fun w5 hI5 e5 => ?_)
    have g5_0 : w5 2 3 = w1 2 3 := by rw [e5]; exact bgU_nei (by decide)
    exact bg_ret C d_hd_limit_20 (fun h => by cases h) rfl (Nat.zero_le _) (Nat.zero_le _) ⟨rfl, hI5⟩
  · refine bq_puti C cf_hd hI1 1 1 rfl rfl (by decide) rfl (by decide) rfl (by omega) (by omega) rfl (Or.inl rfl) tw_85 d_hd_limit_17 (fun w6 hI6 e6 => ?_)
    have g6_0 : w6 2 3 = w1 2 3 := by rw [e6]; exact bgU_nei (by decide)
    exact bg_ret C d_hd_limit_20 (fun h => by cases h) rfl (Nat.zero_le _) (Nat.zero_le _) ⟨rfl, hI6⟩
def rm_hd_putFirst : Room := { frames := 1, cells := 0, slots := 0, locals := 60 }
set_option maxRecDepth 20000 in
set_option maxHeartbeats 4000000 in
theorem m_hd_putFirst {G : bgGl} (hG : bgOk G) {w0 : bgW} (hw : bgN w0) {b : Int} : bgM G false 0 0 y_hd_putFirst (.code y_hd_putFirst co_hd_putFirst 3 none) rm_hd_putFirst [br 2, bi b] w0 (bgPv (fun w' => bgRel w0 w')) := by
  refine bg_met hG (by decide +kernel) (bg_cat rfl) (Nat.le_of_ble_eq_true rfl) ?_
  intro K hK hR hex C
  subst hK
  have hI := bgRel.rfl hw
  show bgX K true 0 0 _ w0 0 [some (br 2), some (bi b), none] []
  refine bg_aload_n C d_hd_putFirst_0 rfl rfl ?_
  refine bg_iload_n C d_hd_putFirst_1 rfl rfl ?_
  refine bg_ci C (m_hd_place hG hI.1) (bg_invV C cf_hd rfl tw_283 ti_hd_place ts_hd_place tc_hd_place tw_37 ⟨by decide, by decide⟩ (nA := 1) (by decide +kernel) rfl d_hd_putFirst_2 rfl) rfl (by rw [hR]; exact ⟨by decide, by decide⟩) (by rw [hR]; exact ⟨by decide, by decide⟩) (Nat.le_of_ble_eq_true rfl) rfl (fun v1 w1 p1 => ?_)
  obtain ⟨rfl, r1_0, r1_1⟩ := p1
  refine bg_istore_n C d_hd_putFirst_5 rfl (Nat.le_of_ble_eq_true rfl) ?_
  refine bg_iload_n C d_hd_putFirst_6 rfl rfl ?_
  refine bg_iconst C d_hd_putFirst_7 ?_
  refine bg_icmp_ne (tgt := 35) C d_hd_putFirst_8 (by decide) ⟨by omega, by omega⟩ ⟨by omega, by omega⟩ (fun h2 => ?_) (fun h2 => ?_)
  · refine bg_aload_n C d_hd_putFirst_35 rfl rfl ?_
    refine bg_getr (i := 0) C cf_hd rfl (by decide) rfl tw_83 d_hd_putFirst_36 ?_
    refine bg_iconst C d_hd_putFirst_39 ?_
    refine bg_aload_n C d_hd_putFirst_40 rfl rfl ?_
    refine bg_getr (i := 0) C cf_hd rfl (by decide) rfl tw_83 d_hd_putFirst_41 ?_
    refine bg_iconst C d_hd_putFirst_44 ?_
    refine bg_iload_n C d_hd_putFirst_45 rfl rfl ?_
    refine bg_copyi C tw_290 ta_nat ta_sta ta_ini rfl rfl (by omega) (by omega) (by omega) (by omega) (by omega) rfl (by rw [hR]; decide) (by rw [hR]; exact Nat.le_of_ble_eq_true rfl) d_hd_putFirst_46 (fun w3 e3 => ?_)
    have hI3 : bgRel w0 w3 := by rw [e3]; exact hI.cp (by decide) (by decide) (fun _ _ => rfl)
    refine bg_aload_n C d_hd_putFirst_49 rfl rfl ?_
    refine bg_getr (i := 0) C cf_hd rfl (by decide) rfl tw_83 d_hd_putFirst_50 ?_
    refine bg_iconst C d_hd_putFirst_53 ?_
    refine bg_iload_n C d_hd_putFirst_54 rfl rfl ?_
    refine bq_iast0 C hI3 rfl (by decide) rfl (by omega) (by omega) d_hd_putFirst_55 (fun w4 hI4 e4 => ?_)
    have g4_0 : w4 2 1 = w3 2 1 := by rw [e4]; exact bgU_ne _ (by decide)
    exact bg_ret C d_hd_putFirst_56 (fun h => by cases h) rfl (Nat.zero_le _) (Nat.zero_le _) ⟨rfl, hI4⟩
  · refine bg_aload_n C d_hd_putFirst_11 rfl rfl ?_
    refine bg_aload_n C d_hd_putFirst_12 rfl rfl ?_
    refine bq_geti C cf_hd hI 1 1 rfl rfl (by decide) rfl (by decide) rfl tw_85 d_hd_putFirst_13 (fun v5 e5 a5 b5 => ?_)
    refine bg_iconst C d_hd_putFirst_16 ?_
    refine bg_iadd C d_hd_putFirst_17 ?_
    refine bg_aload_n C d_hd_putFirst_18 rfl rfl ?_
    refine bq_geti C cf_hd hI 3 3 rfl rfl (by decide) rfl (by decide) rfl tw_89 d_hd_putFirst_19 (fun v6 e6 a6 b6 => ?_)
    refine bg_min C tw_287 tm_sta tm_ini tm_cod rfl ⟨by omega, by omega⟩ ⟨by omega, by omega⟩ (by rw [hR]; decide) (by rw [hR]; exact Nat.le_of_ble_eq_true rfl) (Nat.zero_le _) (Nat.zero_le _) d_hd_putFirst_22 (fun h7 => ?_) (fun h7 => ?_)
    · refine bq_puti C cf_hd hI 1 1 rfl rfl (by decide) rfl (by decide) rfl (by omega) (by omega) rfl (Or.inl rfl) tw_85 d_hd_putFirst_25 (fun w8 hI8 e8 => ?_)
      have g8_0 : w8 2 1 = v6 := by rw [e8]; exact bgU_eq
      refine bg_aload_n C d_hd_putFirst_28 rfl rfl ?_
      refine bq_geti C cf_hd hI8 1 1 rfl rfl (by decide) rfl (by decide) rfl tw_85 d_hd_putFirst_29 (fun v9 e9 a9 b9 => ?_)
      refine bg_iconst C d_hd_putFirst_32 ?_
      refine bg_isub C d_hd_putFirst_33 ?_
      refine bg_istore_n C d_hd_putFirst_34 rfl (Nat.le_of_ble_eq_true rfl) ?_
      refine bg_aload_n C d_hd_putFirst_35 rfl rfl ?_
      refine bg_getr (i := 0) C cf_hd rfl (by decide) rfl tw_83 d_hd_putFirst_36 ?_
      refine bg_iconst C d_hd_putFirst_39 ?_
      refine bg_aload_n C d_hd_putFirst_40 rfl rfl ?_
      refine bg_getr (i := 0) C cf_hd rfl (by decide) rfl tw_83 d_hd_putFirst_41 ?_
      refine bg_iconst C d_hd_putFirst_44 ?_
      refine bg_iload_n C d_hd_putFirst_45 rfl rfl ?_
      refine bg_copyi C tw_290 ta_nat ta_sta ta_ini rfl rfl (by omega) (by omega) (by omega) (by omega) (by omega) rfl (by rw [hR]; decide) (by rw [hR]; exact Nat.le_of_ble_eq_true rfl) d_hd_putFirst_46 (fun w10 e10 => ?_)
      have hI10 : bgRel w0 w10 := by rw [e10]; exact hI8.cp (by decide) (by decide) (fun _ _ => rfl)
      refine bg_aload_n C d_hd_putFirst_49 rfl rfl ?_
      refine bg_getr (i := 0) C cf_hd rfl (by decide) rfl tw_83 d_hd_putFirst_50 ?_
      refine bg_iconst C d_hd_putFirst_53 ?_
      refine bg_iload_n C d_hd_putFirst_54 rfl rfl ?_
      refine bq_iast0 C hI10 rfl (by decide) rfl (by omega) (by omega) d_hd_putFirst_55 (fun w11 hI11 e11 => ?_)
      have g11_0 : w11 2 1 = w10 2 1 := by rw [e11]; exact bgU_ne _ (by decide)
      exact bg_ret C d_hd_putFirst_56 (fun h => by cases h) rfl (Nat.zero_le _) (Nat.zero_le _) ⟨rfl, hI11⟩
    · refine bq_puti C cf_hd hI 1 1 rfl rfl (by decide) rfl (by decide) rfl (by omega) (by omega) rfl (Or.inl rfl) tw_85 d_hd_putFirst_25 (fun w12 hI12 e12 => ?_)
      have g12_0 : w12 2 1 = (v5 + 1) := by rw [e12]; exact bgU_eq
      refine bg_aload_n C d_hd_putFirst_28 rfl rfl ?_
      refine bq_geti C cf_hd hI12 1 1 rfl rfl (by decide) rfl (by decide) rfl tw_85 d_hd_putFirst_29 (fun v13 e13 a13 b13 => ?_)
      refine bg_iconst C d_hd_putFirst_32 ?_
      refine bg_isub C d_hd_putFirst_33 ?_
      refine bg_istore_n C d_hd_putFirst_34 rfl (Nat.le_of_ble_eq_true rfl) ?_
      refine bg_aload_n C d_hd_putFirst_35 rfl rfl ?_
      refine bg_getr (i := 0) C cf_hd rfl (by decide) rfl tw_83 d_hd_putFirst_36 ?_
      refine bg_iconst C d_hd_putFirst_39 ?_
      refine bg_aload_n C d_hd_putFirst_40 rfl rfl ?_
      refine bg_getr (i := 0) C cf_hd rfl (by decide) rfl tw_83 d_hd_putFirst_41 ?_
      refine bg_iconst C d_hd_putFirst_44 ?_
      refine bg_iload_n C d_hd_putFirst_45 rfl rfl ?_
      refine bg_copyi C tw_290 ta_nat ta_sta ta_ini rfl rfl (by omega) (by omega) (by omega) (by omega) (by omega) rfl (by rw [hR]; decide) (by rw [hR]; exact Nat.le_of_ble_eq_true rfl) d_hd_putFirst_46 (fun w14 e14 => ?_)
      have hI14 : bgRel w0 w14 := by rw [e14]; exact hI12.cp (by decide) (by decide) (fun _ _ => rfl)
      refine bg_aload_n C d_hd_putFirst_49 rfl rfl ?_
      refine bg_getr (i := 0) C cf_hd rfl (by decide) rfl tw_83 d_hd_putFirst_50 ?_
      refine bg_iconst C d_hd_putFirst_53 ?_
      refine bg_iload_n C d_hd_putFirst_54 rfl rfl ?_
      refine bq_iast0 C hI14 rfl (by decide) rfl (by omega) (by omega) d_hd_putFirst_55 (fun w15 hI15 e15 => ?_)
      have g15_0 : w15 2 1 = w14 2 1 := by rw [e15]; exact bgU_ne _ (by decide)
      exact bg_ret C d_hd_putFirst_56 (fun h => by cases h) rfl (Nat.zero_le _) (Nat.zero_le _) ⟨rfl, hI15⟩
def rm_hd_look : Room := { frames := 2, cells := 0, slots := 0, locals := 82 }
set_option maxRecDepth 20000 in
set_option maxHeartbeats 4000000 in
theorem m_hd_look {G : bgGl} (hG : bgOk G) {w0 : bgW} (hw : bgN w0) {b : Int} : bgM G false 0 0 y_hd_look (.code y_hd_look co_hd_look 2 none) rm_hd_look [br 2, bi b] w0 (bgPv (fun w' => bgRel w0 w')) := by
  refine bg_met hG (by decide +kernel) (bg_cat rfl) (Nat.le_of_ble_eq_true rfl) ?_
  intro K hK hR hex C
  subst hK
  have hI := bgRel.rfl hw
  show bgX K true 0 0 _ w0 0 [some (br 2), some (bi b)] []
  refine bg_aload_n C d_hd_look_0 rfl rfl ?_
  refine bg_iload_n C d_hd_look_1 rfl rfl ?_
  refine bg_ci C (m_hd_place hG hI.1) (bg_invV C cf_hd rfl tw_283 ti_hd_place ts_hd_place tc_hd_place tw_37 ⟨by decide, by decide⟩ (nA := 1) (by decide +kernel) rfl d_hd_look_2 rfl) rfl (by rw [hR]; exact ⟨by decide, by decide⟩) (by rw [hR]; exact ⟨by decide, by decide⟩) (Nat.le_of_ble_eq_true rfl) rfl (fun v1 w1 p1 => ?_)
  obtain ⟨rfl, r1_0, r1_1⟩ := p1
  refine bg_iconst C d_hd_look_5 ?_
  refine bg_icmp_ne (tgt := 19) C d_hd_look_6 (by decide) ⟨by omega, by omega⟩ ⟨by omega, by omega⟩ (fun h2 => ?_) (fun h2 => ?_)
  · refine bg_aload_n C d_hd_look_19 rfl rfl ?_
    refine bg_iload_n C d_hd_look_20 rfl rfl ?_
    refine bg_cv C (m_hd_putFirst hG hI.1) (bg_invV C cf_hd rfl tw_558 ti_hd_putFirst ts_hd_putFirst tc_hd_putFirst tw_37 ⟨by decide, by decide⟩ (nA := 1) (by decide +kernel) rfl d_hd_look_21 rfl) rfl (by rw [hR]; exact ⟨by decide, by decide⟩) (by rw [hR]; exact ⟨by decide, by decide⟩) (Nat.le_of_ble_eq_true rfl) rfl (fun w3 p3 => ?_)
    have j3 := p3
    have hI3 := hI.trans j3
    exact bg_ret C d_hd_look_24 (fun h => by cases h) rfl (Nat.zero_le _) (Nat.zero_le _) ⟨rfl, hI3⟩
  · refine bg_aload_n C d_hd_look_9 rfl rfl ?_
    refine bg_dup C d_hd_look_10 rfl ?_
    refine bq_get0 C cf_hd 2 2 rfl rfl (by decide) rfl tw_87 d_hd_look_11 (fun v4 e4 => ?_)
    refine bg_iconst C d_hd_look_14 ?_
    refine bg_iadd C d_hd_look_15 ?_
    refine bq_put0 C cf_hd hI 2 2 rfl rfl (by decide) rfl (by decide) rfl rfl rfl tw_87 d_hd_look_16 (fun w5 hI5 e5 => ?_)
    refine bg_aload_n C d_hd_look_19 rfl rfl ?_
    refine bg_iload_n C d_hd_look_20 rfl rfl ?_
    refine bg_cv C (m_hd_putFirst hG hI5.1) (bg_invV C cf_hd rfl tw_558 ti_hd_putFirst ts_hd_putFirst tc_hd_putFirst tw_37 ⟨by decide, by decide⟩ (nA := 1) (by decide +kernel) rfl d_hd_look_21 rfl) rfl (by rw [hR]; exact ⟨by decide, by decide⟩) (by rw [hR]; exact ⟨by decide, by decide⟩) (Nat.le_of_ble_eq_true rfl) rfl (fun w6 p6 => ?_)
    have j6 := p6
    have hI6 := hI5.trans j6
    exact bg_ret C d_hd_look_24 (fun h => by cases h) rfl (Nat.zero_le _) (Nat.zero_le _) ⟨rfl, hI6⟩
