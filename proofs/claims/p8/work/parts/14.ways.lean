def rm_wy_forget : Room := { frames := 0, cells := 0, slots := 0, locals := 0 }
set_option maxRecDepth 20000 in
set_option maxHeartbeats 4000000 in
theorem m_wy_forget {G : bgGl} (hG : bgOk G) {w0 : bgW} (hw : bgN w0) : bgM G false 0 0 y_wy_forget (.code y_wy_forget co_wy_forget 1 none) rm_wy_forget [br 23] w0 (bgPv (fun w' => bgRel w0 w')) := by
  refine bg_met hG (by decide +kernel) (bg_cat rfl) (Nat.le_of_ble_eq_true rfl) ?_
  intro K hK hR hex C
  subst hK
  have hI := bgRel.rfl hw
  show bgX K true 0 0 _ w0 0 [some (br 23)] []
  refine bg_aload_n C d_wy_forget_0 rfl rfl ?_
  refine bg_iconst C d_wy_forget_1 ?_
  refine bq_puti C cf_wy hI 3 3 rfl rfl (by decide) rfl (by decide) rfl (by omega) (by omega) rfl (Or.inr ⟨rfl, by omega⟩) tw_193 d_wy_forget_2 (fun w1 hI1 e1 => ?_)
  exact bg_ret C d_wy_forget_5 (fun h => by cases h) rfl (Nat.zero_le _) (Nat.zero_le _) ⟨rfl, hI1⟩
def rm_wy_leadsOn : Room := { frames := 1, cells := 0, slots := 0, locals := 21 }
set_option maxRecDepth 20000 in
set_option maxHeartbeats 4000000 in
theorem m_wy_leadsOn {G : bgGl} (hG : bgOk G) {w0 : bgW} (hw : bgN w0) {e : Int} (z0 : 0 ≤ e) (z1 : e ≤ 199) : bgM G true 0 0 y_wy_leadsOn (.code y_wy_leadsOn co_wy_leadsOn 3 (some .boolean)) rm_wy_leadsOn [br 23, br 14, bi e] w0 (bgPi (fun v w' => w0 = w' ∧ 0 ≤ v ∧ v ≤ 1)) := by
  refine bg_met hG (by decide +kernel) (bg_cat rfl) (Nat.le_of_ble_eq_true rfl) ?_
  intro K hK hR hex C
  subst hK
  have hI := bgRel.rfl hw
  show bgX K true 0 0 _ w0 0 [some (br 23), some (br 14), some (bi e)] []
  refine bg_aload_n C d_wy_leadsOn_0 rfl rfl ?_
  refine bg_iload_n C d_wy_leadsOn_1 rfl rfl ?_
  refine bg_ci C (m_et_has hG hI.1 (by omega) (by omega)) (bg_invV C cf_et rfl tw_591 ti_et_has ts_et_has tc_et_has tw_40 ⟨by decide, by decide⟩ (nA := 1) (by decide +kernel) rfl d_wy_leadsOn_2 rfl) rfl (by rw [hR]; exact ⟨by decide, by decide⟩) (by rw [hR]; exact ⟨by decide, by decide⟩) (Nat.le_of_ble_eq_true rfl) rfl (fun v1 w1 p1 => ?_)
  obtain ⟨rfl, r1_0, r1_1, r1_2⟩ := p1
  refine bg_if_eq (tgt := 27) C d_wy_leadsOn_5 (by decide) ⟨by omega, by omega⟩ (fun h2 => ?_) (fun h2 => ?_)
  · refine bg_iconst C d_wy_leadsOn_27 ?_
    exact bg_iret C d_wy_leadsOn_28 (fun _ => rfl) (Or.inr ⟨rfl, by omega⟩) (Nat.zero_le _) (Nat.zero_le _) ⟨_, rfl, rfl, by omega, by omega⟩
  · refine bg_aload_n C d_wy_leadsOn_8 rfl rfl ?_
    refine bg_getr (i := 0) C cf_wy rfl (by decide) rfl tw_188 d_wy_leadsOn_9 ?_
    refine bg_aload_n C d_wy_leadsOn_12 rfl rfl ?_
    refine bg_getr (i := 0) C cf_et rfl (by decide) rfl tw_137 d_wy_leadsOn_13 ?_
    refine bg_iload_n C d_wy_leadsOn_16 rfl rfl ?_
    refine bq_iald C hI rfl (by decide) rfl (by omega) (by omega) d_wy_leadsOn_17 (fun v3 e3 a3 b3 => ?_)
    refine bq_iald0 C rfl (by omega) (by omega) d_wy_leadsOn_18 (fun v4 e4 => ?_)
    refine bg_iconst C d_wy_leadsOn_19 ?_
    refine bg_icmp_eq0 (tgt := 27) C d_wy_leadsOn_20 (by decide) ?_ ?_
    · refine bg_iconst C d_wy_leadsOn_27 ?_
      exact bg_iret C d_wy_leadsOn_28 (fun _ => rfl) (Or.inr ⟨rfl, by omega⟩) (Nat.zero_le _) (Nat.zero_le _) ⟨_, rfl, rfl, by omega, by omega⟩
    · refine bg_iconst C d_wy_leadsOn_23 ?_
      refine bg_goto (l := 28) C d_wy_leadsOn_24 (by decide) ?_
      exact bg_iret C d_wy_leadsOn_28 (fun _ => rfl) (Or.inr ⟨rfl, by omega⟩) (Nat.zero_le _) (Nat.zero_le _) ⟨_, rfl, rfl, by omega, by omega⟩
def rm_wy_shorten : Room := { frames := 2, cells := 0, slots := 0, locals := 43 }
set_option maxRecDepth 20000 in
set_option maxHeartbeats 4000000 in
theorem m_wy_shorten {G : bgGl} (hG : bgOk G) {w0 : bgW} (hw : bgN w0) : bgM G false 0 0 y_wy_shorten (.code y_wy_shorten co_wy_shorten 6 (some .boolean)) rm_wy_shorten [br 23, br 14] w0 (bgPi (fun v w' => bgRel w0 w' ∧ 0 ≤ v ∧ v ≤ 1)) := by
  refine bg_met hG (by decide +kernel) (bg_cat rfl) (Nat.le_of_ble_eq_true rfl) ?_
  intro K hK hR hex C
  subst hK
  have hI := bgRel.rfl hw
  show bgX K true 0 0 _ w0 0 [some (br 23), some (br 14), none, none, none, none] []
  refine bg_iconst C d_wy_shorten_0 ?_
  refine bg_istore_n C d_wy_shorten_1 rfl (Nat.le_of_ble_eq_true rfl) ?_
  refine bg_iconst C d_wy_shorten_2 ?_
  refine bg_istore_n C d_wy_shorten_3 rfl (Nat.le_of_ble_eq_true rfl) ?_
  refine bg_weak ?_
  refine bg_loop (α := bgW × Int × Int) (fun a => (200 - a.2.2).toNat) (fun a => bgRel w0 a.1 ∧ 0 ≤ a.2.1 ∧ a.2.1 ≤ 1 ∧ 0 ≤ a.2.2 ∧ a.2.2 ≤ 200) (fun a => (a.1, [some (br 23), some (br 14), some (bi a.2.1), some (bi a.2.2), none, none], [])) ?_ (w0, 0, 0) ⟨hI, by (try dsimp only) <;> omega, by (try dsimp only) <;> omega, by (try dsimp only) <;> omega, by (try dsimp only) <;> omega⟩
  rintro ⟨w1, c1, i1⟩ ⟨hI1, q1_0, q1_1, q1_2, q1_3⟩ ih4
  try dsimp only at ih4
  try dsimp only at q1_0
  try dsimp only at q1_1
  try dsimp only at q1_2
  try dsimp only at q1_3
  try dsimp only
  refine bg_iload_n C d_wy_shorten_4 rfl rfl ?_
  refine bg_sipush C d_wy_shorten_5 (by decide +kernel) ?_
  refine bg_icmp_ge (tgt := 88) C d_wy_shorten_8 (by decide) ⟨by omega, by omega⟩ ⟨by omega, by omega⟩ (fun h2 => ?_) (fun h2 => ?_)
  · refine bg_iload_n C d_wy_shorten_88 rfl rfl ?_
    exact bg_iret C d_wy_shorten_89 (fun h => by cases h) (Or.inr ⟨rfl, by omega⟩) (Nat.zero_le _) (Nat.zero_le _) ⟨_, rfl, hI1, by omega, by omega⟩
  · refine bg_aload_n C d_wy_shorten_11 rfl rfl ?_
    refine bg_aload_n C d_wy_shorten_12 rfl rfl ?_
    refine bg_iload_n C d_wy_shorten_13 rfl rfl ?_
    refine bg_ci C (m_wy_leadsOn hG hI1.1 (by omega) (by omega)) (bg_invV C cf_wy rfl tw_587 ti_wy_leadsOn ts_wy_leadsOn tc_wy_leadsOn tw_41 ⟨by decide, by decide⟩ (nA := 2) (by decide +kernel) rfl d_wy_shorten_14 rfl) rfl (by rw [hR]; exact ⟨by decide, by decide⟩) (by rw [hR]; exact ⟨by decide, by decide⟩) (Nat.le_of_ble_eq_true rfl) rfl (fun v3 w3 p3 => ?_)
    obtain ⟨rfl, r3_0, r3_1⟩ := p3
    refine bg_if_eq (tgt := 82) C d_wy_shorten_17 (by decide) ⟨by omega, by omega⟩ (fun h4 => ?_) (fun h4 => ?_)
    · refine bg_iinc C d_wy_shorten_82 rfl ?_
      refine bg_goto (l := 4) C d_wy_shorten_85 (by decide) ?_
      exact ih4 (w1, c1, (i1 + 1)) ⟨hI1, by (try dsimp only) <;> omega, by (try dsimp only) <;> omega, by (try dsimp only) <;> omega, by (try dsimp only) <;> omega⟩ (by (try dsimp only) <;> omega)
    · refine bg_aload_n C d_wy_shorten_20 rfl rfl ?_
      refine bg_getr (i := 1) C cf_et rfl (by decide) rfl tw_140 d_wy_shorten_21 ?_
      refine bg_iload_n C d_wy_shorten_24 rfl rfl ?_
      refine bq_iald C hI1 rfl (by decide) rfl (by omega) (by omega) d_wy_shorten_25 (fun v5 e5 a5 b5 => ?_)
      refine bg_istore C d_wy_shorten_26 (Nat.le_of_ble_eq_true rfl) ?_
      refine bg_aload_n C d_wy_shorten_28 rfl rfl ?_
      refine bg_getr (i := 0) C cf_wy rfl (by decide) rfl tw_188 d_wy_shorten_29 ?_
      refine bg_aload_n C d_wy_shorten_32 rfl rfl ?_
      refine bg_getr (i := 0) C cf_et rfl (by decide) rfl tw_137 d_wy_shorten_33 ?_
      refine bg_iload_n C d_wy_shorten_36 rfl rfl ?_
      refine bq_iald C hI1 rfl (by decide) rfl (by omega) (by omega) d_wy_shorten_37 (fun v6 e6 a6 b6 => ?_)
      refine bq_iald0 C rfl (by omega) (by omega) d_wy_shorten_38 (fun v7 e7 => ?_)
      refine bg_aload_n C d_wy_shorten_39 rfl rfl ?_
      refine bg_getr (i := 2) C cf_et rfl (by decide) rfl tw_143 d_wy_shorten_40 ?_
      refine bg_iload_n C d_wy_shorten_43 rfl rfl ?_
      refine bq_iald0 C rfl (by omega) (by omega) d_wy_shorten_44 (fun v8 e8 => ?_)
      refine bg_iadd C d_wy_shorten_45 ?_
      refine bg_istore C d_wy_shorten_46 (Nat.le_of_ble_eq_true rfl) ?_
      refine bg_aload_n C d_wy_shorten_48 rfl rfl ?_
      refine bg_getr (i := 0) C cf_wy rfl (by decide) rfl tw_188 d_wy_shorten_49 ?_
      refine bg_iload C d_wy_shorten_52 rfl ?_
      refine bq_iald0 C rfl (by omega) (by omega) d_wy_shorten_54 (fun v9 e9 => ?_)
      refine bg_iconst C d_wy_shorten_55 ?_
      refine bg_icmp_eq0 (tgt := 71) C d_wy_shorten_56 (by decide) ?_ ?_
      · refine bg_aload_n C d_wy_shorten_71 rfl rfl ?_
        refine bg_getr (i := 0) C cf_wy rfl (by decide) rfl tw_188 d_wy_shorten_72 ?_
        refine bg_iload C d_wy_shorten_75 rfl ?_
        refine bg_iload C d_wy_shorten_77 rfl ?_
        refine bq_iast0 C hI1 rfl (by decide) rfl (by omega) (by omega) d_wy_shorten_79 (fun w11 hI11 e11 => ?_)
        refine bg_iconst C d_wy_shorten_80 ?_
        refine bg_istore_n C d_wy_shorten_81 rfl (Nat.le_of_ble_eq_true rfl) ?_
        refine bg_iinc C d_wy_shorten_82 rfl ?_
        refine bg_goto (l := 4) C d_wy_shorten_85 (by decide) ?_
        refine bg_wl [true, true, true, true, false, false] rfl ?_
        exact ih4 (w11, 1, (i1 + 1)) ⟨hI11, by (try dsimp only) <;> omega, by (try dsimp only) <;> omega, by (try dsimp only) <;> omega, by (try dsimp only) <;> omega⟩ (by (try dsimp only) <;> omega)
      · refine bg_iload C d_wy_shorten_59 rfl ?_
        refine bg_aload_n C d_wy_shorten_61 rfl rfl ?_
        refine bg_getr (i := 0) C cf_wy rfl (by decide) rfl tw_188 d_wy_shorten_62 ?_
        refine bg_iload C d_wy_shorten_65 rfl ?_
        refine bq_iald0 C rfl (by omega) (by omega) d_wy_shorten_67 (fun v12 e12 => ?_)
        refine bg_icmp_ge0 (tgt := 82) C d_wy_shorten_68 (by decide) ?_ ?_
        · refine bg_iinc C d_wy_shorten_82 rfl ?_
          refine bg_goto (l := 4) C d_wy_shorten_85 (by decide) ?_
          refine bg_wl [true, true, true, true, false, false] rfl ?_
          exact ih4 (w1, c1, (i1 + 1)) ⟨hI1, by (try dsimp only) <;> omega, by (try dsimp only) <;> omega, by (try dsimp only) <;> omega, by (try dsimp only) <;> omega⟩ (by (try dsimp only) <;> omega)
        · refine bg_aload_n C d_wy_shorten_71 rfl rfl ?_
          refine bg_getr (i := 0) C cf_wy rfl (by decide) rfl tw_188 d_wy_shorten_72 ?_
          refine bg_iload C d_wy_shorten_75 rfl ?_
          refine bg_iload C d_wy_shorten_77 rfl ?_
          refine bq_iast0 C hI1 rfl (by decide) rfl (by omega) (by omega) d_wy_shorten_79 (fun w14 hI14 e14 => ?_)
          refine bg_iconst C d_wy_shorten_80 ?_
          refine bg_istore_n C d_wy_shorten_81 rfl (Nat.le_of_ble_eq_true rfl) ?_
          refine bg_iinc C d_wy_shorten_82 rfl ?_
          refine bg_goto (l := 4) C d_wy_shorten_85 (by decide) ?_
          refine bg_wl [true, true, true, true, false, false] rfl ?_
          exact ih4 (w14, 1, (i1 + 1)) ⟨hI14, by (try dsimp only) <;> omega, by (try dsimp only) <;> omega, by (try dsimp only) <;> omega, by (try dsimp only) <;> omega⟩ (by (try dsimp only) <;> omega)
def rm_wy_chooseParents : Room := { frames := 2, cells := 0, slots := 0, locals := 43 }
set_option maxRecDepth 20000 in
set_option maxHeartbeats 4000000 in
theorem m_wy_chooseParents {G : bgGl} (hG : bgOk G) {w0 : bgW} (hw : bgN w0) : bgM G false 0 0 y_wy_chooseParents (.code y_wy_chooseParents co_wy_chooseParents 5 none) rm_wy_chooseParents [br 23, br 14] w0 (bgPv (fun w' => bgRel w0 w')) := by
  refine bg_met hG (by decide +kernel) (bg_cat rfl) (Nat.le_of_ble_eq_true rfl) ?_
  intro K hK hR hex C
  subst hK
  have hI := bgRel.rfl hw
  show bgX K true 0 0 _ w0 0 [some (br 23), some (br 14), none, none, none] []
  refine bg_iconst C d_wy_chooseParents_0 ?_
  refine bg_istore_n C d_wy_chooseParents_1 rfl (Nat.le_of_ble_eq_true rfl) ?_
  refine bg_weak ?_
  refine bg_loop (α := bgW × Int) (fun a => (200 - a.2).toNat) (fun a => bgRel w0 a.1 ∧ 0 ≤ a.2 ∧ a.2 ≤ 200) (fun a => (a.1, [some (br 23), some (br 14), some (bi a.2), none, none], [])) ?_ (w0, 0) ⟨hI, by (try dsimp only) <;> omega, by (try dsimp only) <;> omega⟩
  rintro ⟨w1, i1⟩ ⟨hI1, q1_0, q1_1⟩ ih2
  try dsimp only at ih2
  try dsimp only at q1_0
  try dsimp only at q1_1
  try dsimp only
  refine bg_iload_n C d_wy_chooseParents_2 rfl rfl ?_
  refine bg_sipush C d_wy_chooseParents_3 (by decide +kernel) ?_
  refine bg_icmp_ge (tgt := 89) C d_wy_chooseParents_6 (by decide) ⟨by omega, by omega⟩ ⟨by omega, by omega⟩ (fun h2 => ?_) (fun h2 => ?_)
  · exact bg_ret C d_wy_chooseParents_89 (fun h => by cases h) rfl (Nat.zero_le _) (Nat.zero_le _) ⟨rfl, hI1⟩
  · refine bg_aload_n C d_wy_chooseParents_9 rfl rfl ?_
    refine bg_aload_n C d_wy_chooseParents_10 rfl rfl ?_
    refine bg_iload_n C d_wy_chooseParents_11 rfl rfl ?_
    refine bg_ci C (m_wy_leadsOn hG hI1.1 (by omega) (by omega)) (bg_invV C cf_wy rfl tw_587 ti_wy_leadsOn ts_wy_leadsOn tc_wy_leadsOn tw_41 ⟨by decide, by decide⟩ (nA := 2) (by decide +kernel) rfl d_wy_chooseParents_12 rfl) rfl (by rw [hR]; exact ⟨by decide, by decide⟩) (by rw [hR]; exact ⟨by decide, by decide⟩) (Nat.le_of_ble_eq_true rfl) rfl (fun v3 w3 p3 => ?_)
    obtain ⟨rfl, r3_0, r3_1⟩ := p3
    refine bg_if_eq (tgt := 83) C d_wy_chooseParents_15 (by decide) ⟨by omega, by omega⟩ (fun h4 => ?_) (fun h4 => ?_)
    · refine bg_iinc C d_wy_chooseParents_83 rfl ?_
      refine bg_goto (l := 2) C d_wy_chooseParents_86 (by decide) ?_
      exact ih2 (w1, (i1 + 1)) ⟨hI1, by (try dsimp only) <;> omega, by (try dsimp only) <;> omega⟩ (by (try dsimp only) <;> omega)
    · refine bg_aload_n C d_wy_chooseParents_18 rfl rfl ?_
      refine bg_getr (i := 0) C cf_et rfl (by decide) rfl tw_137 d_wy_chooseParents_19 ?_
      refine bg_iload_n C d_wy_chooseParents_22 rfl rfl ?_
      refine bq_iald C hI1 rfl (by decide) rfl (by omega) (by omega) d_wy_chooseParents_23 (fun v5 e5 a5 b5 => ?_)
      refine bg_istore_n C d_wy_chooseParents_24 rfl (Nat.le_of_ble_eq_true rfl) ?_
      refine bg_aload_n C d_wy_chooseParents_25 rfl rfl ?_
      refine bg_getr (i := 1) C cf_et rfl (by decide) rfl tw_140 d_wy_chooseParents_26 ?_
      refine bg_iload_n C d_wy_chooseParents_29 rfl rfl ?_
      refine bq_iald C hI1 rfl (by decide) rfl (by omega) (by omega) d_wy_chooseParents_30 (fun v6 e6 a6 b6 => ?_)
      refine bg_istore C d_wy_chooseParents_31 (Nat.le_of_ble_eq_true rfl) ?_
      refine bg_aload_n C d_wy_chooseParents_33 rfl rfl ?_
      refine bg_getr (i := 1) C cf_wy rfl (by decide) rfl tw_190 d_wy_chooseParents_34 ?_
      refine bg_iload C d_wy_chooseParents_37 rfl ?_
      refine bq_iald0 C rfl (by omega) (by omega) d_wy_chooseParents_39 (fun v7 e7 => ?_)
      refine bg_iconst C d_wy_chooseParents_40 ?_
      refine bg_icmp_ne0 (tgt := 83) C d_wy_chooseParents_41 (by decide) ?_ ?_
      · refine bg_iinc C d_wy_chooseParents_83 rfl ?_
        refine bg_goto (l := 2) C d_wy_chooseParents_86 (by decide) ?_
        refine bg_wl [true, true, true, false, false] rfl ?_
        exact ih2 (w1, (i1 + 1)) ⟨hI1, by (try dsimp only) <;> omega, by (try dsimp only) <;> omega⟩ (by (try dsimp only) <;> omega)
      · refine bg_aload_n C d_wy_chooseParents_44 rfl rfl ?_
        refine bg_getr (i := 0) C cf_wy rfl (by decide) rfl tw_188 d_wy_chooseParents_45 ?_
        refine bg_iload_n C d_wy_chooseParents_48 rfl rfl ?_
        refine bq_iald0 C rfl (by omega) (by omega) d_wy_chooseParents_49 (fun v9 e9 => ?_)
        refine bg_aload_n C d_wy_chooseParents_50 rfl rfl ?_
        refine bg_getr (i := 2) C cf_et rfl (by decide) rfl tw_143 d_wy_chooseParents_51 ?_
        refine bg_iload_n C d_wy_chooseParents_54 rfl rfl ?_
        refine bq_iald0 C rfl (by omega) (by omega) d_wy_chooseParents_55 (fun v10 e10 => ?_)
        refine bg_iadd C d_wy_chooseParents_56 ?_
        refine bg_aload_n C d_wy_chooseParents_57 rfl rfl ?_
        refine bg_getr (i := 0) C cf_wy rfl (by decide) rfl tw_188 d_wy_chooseParents_58 ?_
        refine bg_iload C d_wy_chooseParents_61 rfl ?_
        refine bq_iald0 C rfl (by omega) (by omega) d_wy_chooseParents_63 (fun v11 e11 => ?_)
        refine bg_icmp_ne0 (tgt := 83) C d_wy_chooseParents_64 (by decide) ?_ ?_
        · refine bg_iinc C d_wy_chooseParents_83 rfl ?_
          refine bg_goto (l := 2) C d_wy_chooseParents_86 (by decide) ?_
          refine bg_wl [true, true, true, false, false] rfl ?_
          exact ih2 (w1, (i1 + 1)) ⟨hI1, by (try dsimp only) <;> omega, by (try dsimp only) <;> omega⟩ (by (try dsimp only) <;> omega)
        · refine bg_aload_n C d_wy_chooseParents_67 rfl rfl ?_
          refine bg_getr (i := 1) C cf_wy rfl (by decide) rfl tw_190 d_wy_chooseParents_68 ?_
          refine bg_iload C d_wy_chooseParents_71 rfl ?_
          refine bg_iload_n C d_wy_chooseParents_73 rfl rfl ?_
          refine bq_iast0 C hI1 rfl (by decide) rfl (by omega) (by omega) d_wy_chooseParents_74 (fun w13 hI13 e13 => ?_)
          refine bg_aload_n C d_wy_chooseParents_75 rfl rfl ?_
          refine bg_getr (i := 2) C cf_wy rfl (by decide) rfl tw_192 d_wy_chooseParents_76 ?_
          refine bg_iload C d_wy_chooseParents_79 rfl ?_
          refine bg_iload_n C d_wy_chooseParents_81 rfl rfl ?_
          refine bq_iast C hI13 rfl (by decide) rfl (by omega) (by omega) (by omega) (by omega) d_wy_chooseParents_82 (fun w14 hI14 e14 => ?_)
          refine bg_iinc C d_wy_chooseParents_83 rfl ?_
          refine bg_goto (l := 2) C d_wy_chooseParents_86 (by decide) ?_
          refine bg_wl [true, true, true, false, false] rfl ?_
          exact ih2 (w14, (i1 + 1)) ⟨hI14, by (try dsimp only) <;> omega, by (try dsimp only) <;> omega⟩ (by (try dsimp only) <;> omega)
def rm_wy_countReached : Room := { frames := 0, cells := 0, slots := 0, locals := 0 }
set_option maxRecDepth 20000 in
set_option maxHeartbeats 4000000 in
theorem m_wy_countReached {G : bgGl} (hG : bgOk G) {w0 : bgW} (hw : bgN w0) : bgM G true 0 0 y_wy_countReached (.code y_wy_countReached co_wy_countReached 3 (some .int)) rm_wy_countReached [br 23] w0 (bgPi (fun v w' => w0 = w')) := by
  refine bg_met hG (by decide +kernel) (bg_cat rfl) (Nat.le_of_ble_eq_true rfl) ?_
  intro K hK hR hex C
  subst hK
  have hI := bgRel.rfl hw
  show bgX K true 0 0 _ w0 0 [some (br 23), none, none] []
  refine bg_iconst C d_wy_countReached_0 ?_
  refine bg_istore_n C d_wy_countReached_1 rfl (Nat.le_of_ble_eq_true rfl) ?_
  refine bg_iconst C d_wy_countReached_2 ?_
  refine bg_istore_n C d_wy_countReached_3 rfl (Nat.le_of_ble_eq_true rfl) ?_
  refine bg_loop (α := Int × Int) (fun a => (64 - a.2).toNat) (fun a => 0 ≤ a.2 ∧ a.2 ≤ 64) (fun a => (w0, [some (br 23), some (bi a.1), some (bi a.2)], [])) ?_ (0, 0) ⟨by (try dsimp only) <;> omega, by (try dsimp only) <;> omega⟩
  rintro ⟨c1, i1⟩ ⟨q1_0, q1_1⟩ ih4
  try dsimp only at ih4
  try dsimp only at q1_0
  try dsimp only at q1_1
  try dsimp only
  refine bg_iload_n C d_wy_countReached_4 rfl rfl ?_
  refine bg_bipush C d_wy_countReached_5 (by decide +kernel) ?_
  refine bg_icmp_ge (tgt := 29) C d_wy_countReached_7 (by decide) ⟨by omega, by omega⟩ ⟨by omega, by omega⟩ (fun h2 => ?_) (fun h2 => ?_)
  · refine bg_iload_n C d_wy_countReached_29 rfl rfl ?_
    exact bg_iret C d_wy_countReached_30 (fun _ => rfl) (Or.inl rfl) (Nat.zero_le _) (Nat.zero_le _) ⟨_, rfl, rfl⟩
  · refine bg_aload_n C d_wy_countReached_10 rfl rfl ?_
    refine bg_getr (i := 0) C cf_wy rfl (by decide) rfl tw_188 d_wy_countReached_11 ?_
    refine bg_iload_n C d_wy_countReached_14 rfl rfl ?_
    refine bq_iald0 C rfl (by omega) (by omega) d_wy_countReached_15 (fun v3 e3 => ?_)
    refine bg_iconst C d_wy_countReached_16 ?_
    refine bg_icmp_eq0 (tgt := 23) C d_wy_countReached_17 (by decide) ?_ ?_
    · refine bg_iinc C d_wy_countReached_23 rfl ?_
      refine bg_goto (l := 4) C d_wy_countReached_26 (by decide) ?_
      exact ih4 (c1, (i1 + 1)) ⟨by (try dsimp only) <;> omega, by (try dsimp only) <;> omega⟩ (by (try dsimp only) <;> omega)
    · refine bg_iinc C d_wy_countReached_20 rfl ?_
      refine bg_iinc C d_wy_countReached_23 rfl ?_
      refine bg_goto (l := 4) C d_wy_countReached_26 (by decide) ?_
      exact ih4 ((c1 + 1), (i1 + 1)) ⟨by (try dsimp only) <;> omega, by (try dsimp only) <;> omega⟩ (by (try dsimp only) <;> omega)
def rm_wy_length : Room := { frames := 0, cells := 0, slots := 0, locals := 0 }
set_option maxRecDepth 20000 in
set_option maxHeartbeats 4000000 in
theorem m_wy_length {G : bgGl} (hG : bgOk G) {w0 : bgW} (hw : bgN w0) {x : Int} (z0 : 0 ≤ x) (z1 : x ≤ 63) : bgM G true 0 0 y_wy_length (.code y_wy_length co_wy_length 4 (some .int)) rm_wy_length [br 23, bi x] w0 (bgPi (fun v w' => w0 = w' ∧ 0 ≤ v ∧ v ≤ 64)) := by
  refine bg_met hG (by decide +kernel) (bg_cat rfl) (Nat.le_of_ble_eq_true rfl) ?_
  intro K hK hR hex C
  subst hK
  have hI := bgRel.rfl hw
  show bgX K true 0 0 _ w0 0 [some (br 23), some (bi x), none, none] []
  refine bg_aload_n C d_wy_length_0 rfl rfl ?_
  refine bg_getr (i := 0) C cf_wy rfl (by decide) rfl tw_188 d_wy_length_1 ?_
  refine bg_iload_n C d_wy_length_4 rfl rfl ?_
  refine bq_iald0 C rfl (by omega) (by omega) d_wy_length_5 (fun v1 e1 => ?_)
  refine bg_iconst C d_wy_length_6 ?_
  refine bg_icmp_ne0 (tgt := 12) C d_wy_length_7 (by decide) ?_ ?_
  · refine bg_iconst C d_wy_length_12 ?_
    refine bg_istore_n C d_wy_length_13 rfl (Nat.le_of_ble_eq_true rfl) ?_
    refine bg_iload_n C d_wy_length_14 rfl rfl ?_
    refine bg_istore_n C d_wy_length_15 rfl (Nat.le_of_ble_eq_true rfl) ?_
    refine bg_loop (α := Int × Int) (fun a => (64 - a.1).toNat) (fun a => 1 ≤ a.1 ∧ a.1 ≤ 64 ∧ 0 ≤ a.2 ∧ a.2 ≤ 63) (fun a => (w0, [some (br 23), some (bi x), some (bi a.1), some (bi a.2)], [])) ?_ (1, x) ⟨by (try dsimp only) <;> omega, by (try dsimp only) <;> omega, by (try dsimp only) <;> omega, by (try dsimp only) <;> omega⟩
    rintro ⟨c3, y3⟩ ⟨q3_0, q3_1, q3_2, q3_3⟩ ih16
    try dsimp only at ih16
    try dsimp only at q3_0
    try dsimp only at q3_1
    try dsimp only at q3_2
    try dsimp only at q3_3
    try dsimp only
    refine bg_aload_n C d_wy_length_16 rfl rfl ?_
    refine bg_getr (i := 1) C cf_wy rfl (by decide) rfl tw_190 d_wy_length_17 ?_
    refine bg_iload_n C d_wy_length_20 rfl rfl ?_
    refine bq_iald0 C rfl (by omega) (by omega) d_wy_length_21 (fun v4 e4 => ?_)
    refine bg_iconst C d_wy_length_22 ?_
    refine bg_icmp_eq0 (tgt := 45) C d_wy_length_23 (by decide) ?_ ?_
    · refine bg_iload_n C d_wy_length_45 rfl rfl ?_
      exact bg_iret C d_wy_length_46 (fun _ => rfl) (Or.inl rfl) (Nat.zero_le _) (Nat.zero_le _) ⟨_, rfl, rfl, by omega, by omega⟩
    · refine bg_iload_n C d_wy_length_26 rfl rfl ?_
      refine bg_bipush C d_wy_length_27 (by decide +kernel) ?_
      refine bg_icmp_ge (tgt := 45) C d_wy_length_29 (by decide) ⟨by omega, by omega⟩ ⟨by omega, by omega⟩ (fun h6 => ?_) (fun h6 => ?_)
      · refine bg_iload_n C d_wy_length_45 rfl rfl ?_
        exact bg_iret C d_wy_length_46 (fun _ => rfl) (Or.inl rfl) (Nat.zero_le _) (Nat.zero_le _) ⟨_, rfl, rfl, by omega, by omega⟩
      · refine bg_iinc C d_wy_length_32 rfl ?_
        refine bg_aload_n C d_wy_length_35 rfl rfl ?_
        refine bg_getr (i := 2) C cf_wy rfl (by decide) rfl tw_192 d_wy_length_36 ?_
        refine bg_iload_n C d_wy_length_39 rfl rfl ?_
        refine bq_iald C hI rfl (by decide) rfl (by omega) (by omega) d_wy_length_40 (fun v7 e7 a7 b7 => ?_)
        refine bg_istore_n C d_wy_length_41 rfl (Nat.le_of_ble_eq_true rfl) ?_
        refine bg_goto (l := 16) C d_wy_length_42 (by decide) ?_
        exact ih16 ((c3 + 1), v7) ⟨by (try dsimp only) <;> omega, by (try dsimp only) <;> omega, by (try dsimp only) <;> omega, by (try dsimp only) <;> omega⟩ (by (try dsimp only) <;> omega)
  · refine bg_iconst C d_wy_length_10 ?_
    exact bg_iret C d_wy_length_11 (fun _ => rfl) (Or.inl rfl) (Nat.zero_le _) (Nat.zero_le _) ⟨_, rfl, rfl, by omega, by omega⟩
def rm_wy_goBack : Room := { frames := 0, cells := 0, slots := 0, locals := 0 }
set_option maxRecDepth 20000 in
set_option maxHeartbeats 4000000 in
theorem m_wy_goBack {G : bgGl} (hG : bgOk G) {w0 : bgW} (hw : bgN w0) {x k : Int} (z0 : 0 ≤ x) (z1 : x ≤ 63) (z2 : -2147483648 ≤ k) (z3 : k ≤ 2147483647) : bgM G true 0 0 y_wy_goBack (.code y_wy_goBack co_wy_goBack 5 (some .int)) rm_wy_goBack [br 23, bi x, bi k] w0 (bgPi (fun v w' => w0 = w')) := by
  refine bg_met hG (by decide +kernel) (bg_cat rfl) (Nat.le_of_ble_eq_true rfl) ?_
  intro K hK hR hex C
  subst hK
  have hI := bgRel.rfl hw
  show bgX K true 0 0 _ w0 0 [some (br 23), some (bi x), some (bi k), none, none] []
  refine bg_iload_n C d_wy_goBack_0 rfl rfl ?_
  refine bg_istore_n C d_wy_goBack_1 rfl (Nat.le_of_ble_eq_true rfl) ?_
  refine bg_iconst C d_wy_goBack_2 ?_
  refine bg_istore C d_wy_goBack_3 (Nat.le_of_ble_eq_true rfl) ?_
  refine bg_loop (α := Int × Int) (fun a => (k - a.2).toNat) (fun a => 0 ≤ a.1 ∧ a.1 ≤ 63 ∧ 0 ≤ a.2 ∧ (a.2 = 0 ∨ a.2 ≤ k)) (fun a => (w0, [some (br 23), some (bi x), some (bi k), some (bi a.1), some (bi a.2)], [])) ?_ (x, 0) ⟨by (try dsimp only) <;> omega, by (try dsimp only) <;> omega, by (try dsimp only) <;> omega, by (try dsimp only) <;> omega⟩
  rintro ⟨y1, i1⟩ ⟨q1_0, q1_1, q1_2, q1_3⟩ ih5
  try dsimp only at ih5
  try dsimp only at q1_0
  try dsimp only at q1_1
  try dsimp only at q1_2
  try dsimp only at q1_3
  try dsimp only
  refine bg_iload C d_wy_goBack_5 rfl ?_
  refine bg_iload_n C d_wy_goBack_7 rfl rfl ?_
  refine bg_icmp_ge (tgt := 24) C d_wy_goBack_8 (by decide) ⟨by omega, by omega⟩ ⟨by omega, by omega⟩ (fun h2 => ?_) (fun h2 => ?_)
  · refine bg_iload_n C d_wy_goBack_24 rfl rfl ?_
    exact bg_iret C d_wy_goBack_25 (fun _ => rfl) (Or.inl rfl) (Nat.zero_le _) (Nat.zero_le _) ⟨_, rfl, rfl⟩
  · refine bg_aload_n C d_wy_goBack_11 rfl rfl ?_
    refine bg_getr (i := 2) C cf_wy rfl (by decide) rfl tw_192 d_wy_goBack_12 ?_
    refine bg_iload_n C d_wy_goBack_15 rfl rfl ?_
    refine bq_iald C hI rfl (by decide) rfl (by omega) (by omega) d_wy_goBack_16 (fun v3 e3 a3 b3 => ?_)
    refine bg_istore_n C d_wy_goBack_17 rfl (Nat.le_of_ble_eq_true rfl) ?_
    refine bg_iinc C d_wy_goBack_18 rfl ?_
    refine bg_goto (l := 5) C d_wy_goBack_21 (by decide) ?_
    exact ih5 (v3, (i1 + 1)) ⟨by (try dsimp only) <;> omega, by (try dsimp only) <;> omega, by (try dsimp only) <;> omega, by (try dsimp only) <;> omega⟩ (by (try dsimp only) <;> omega)
def rm_wy_measure : Room := { frames := 3, cells := 0, slots := 0, locals := 68 }
set_option maxRecDepth 20000 in
set_option maxHeartbeats 4000000 in
theorem m_wy_measure {G : bgGl} (hG : bgOk G) {w0 : bgW} (hw : bgN w0) {x : Int} (z0 : 0 ≤ x) (z1 : x ≤ 63) : bgM G false 0 0 y_wy_measure (.code y_wy_measure co_wy_measure 5 (some .int)) rm_wy_measure [br 23, br 14, bi x] w0 (bgPi (fun v w' => bgRel w0 w')) := by
  refine bg_met hG (by decide +kernel) (bg_cat rfl) (Nat.le_of_ble_eq_true rfl) ?_
  intro K hK hR hex C
  subst hK
  have hI := bgRel.rfl hw
  show bgX K true 0 0 _ w0 0 [some (br 23), some (br 14), some (bi x), none, none] []
  refine bg_aload_n C d_wy_measure_0 rfl rfl ?_
  refine bg_getr (i := 0) C cf_wy rfl (by decide) rfl tw_188 d_wy_measure_1 ?_
  refine bg_iconst C d_wy_measure_4 ?_
  refine bg_cv C (m_ja_fill_wyd hG hI.1) (bg_invS C tw_582 tt_ja_fill tc_ja_fill tw_43 ⟨by decide, by decide⟩ (nA := 2) (by decide +kernel) rfl d_wy_measure_5 rfl) rfl (by rw [hR]; exact ⟨by decide, by decide⟩) (by rw [hR]; exact ⟨by decide, by decide⟩) (Nat.le_of_ble_eq_true rfl) rfl (fun w1 p1 => ?_)
  have j1 := p1
  have hI1 := hI.trans j1
  refine bg_aload_n C d_wy_measure_8 rfl rfl ?_
  refine bg_getr (i := 1) C cf_wy rfl (by decide) rfl tw_190 d_wy_measure_9 ?_
  refine bg_iconst C d_wy_measure_12 ?_
  refine bg_cv C (m_ja_fill_wyp hG hI1.1) (bg_invS C tw_582 tt_ja_fill tc_ja_fill tw_43 ⟨by decide, by decide⟩ (nA := 2) (by decide +kernel) rfl d_wy_measure_13 rfl) rfl (by rw [hR]; exact ⟨by decide, by decide⟩) (by rw [hR]; exact ⟨by decide, by decide⟩) (Nat.le_of_ble_eq_true rfl) rfl (fun w2 p2 => ?_)
  have j2 := p2
  have hI2 := hI1.trans j2
  refine bg_aload_n C d_wy_measure_16 rfl rfl ?_
  refine bg_getr (i := 0) C cf_wy rfl (by decide) rfl tw_188 d_wy_measure_17 ?_
  refine bg_iload_n C d_wy_measure_20 rfl rfl ?_
  refine bg_iconst C d_wy_measure_21 ?_
  refine bq_iast0 C hI2 rfl (by decide) rfl (by omega) (by omega) d_wy_measure_22 (fun w3 hI3 e3 => ?_)
  refine bg_iconst C d_wy_measure_23 ?_
  refine bg_istore_n C d_wy_measure_24 rfl (Nat.le_of_ble_eq_true rfl) ?_
  refine bg_iconst C d_wy_measure_25 ?_
  refine bg_istore C d_wy_measure_26 (Nat.le_of_ble_eq_true rfl) ?_
  refine bg_loop (α := bgW × Int × Int) (fun a => (64 - a.2.2).toNat) (fun a => bgRel w0 a.1 ∧ 0 ≤ a.2.1 ∧ a.2.1 ≤ 1 ∧ 0 ≤ a.2.2 ∧ a.2.2 ≤ 64) (fun a => (a.1, [some (br 23), some (br 14), some (bi x), some (bi a.2.1), some (bi a.2.2)], [])) ?_ (w3, 1, 0) ⟨hI3, by (try dsimp only) <;> omega, by (try dsimp only) <;> omega, by (try dsimp only) <;> omega, by (try dsimp only) <;> omega⟩
  rintro ⟨w4, c4, i4⟩ ⟨hI4, q4_0, q4_1, q4_2, q4_3⟩ ih28
  try dsimp only at ih28
  try dsimp only at q4_0
  try dsimp only at q4_1
  try dsimp only at q4_2
  try dsimp only at q4_3
  try dsimp only
  refine bg_iload_n C d_wy_measure_28 rfl rfl ?_
  refine bg_if_eq (tgt := 51) C d_wy_measure_29 (by decide) ⟨by omega, by omega⟩ (fun h5 => ?_) (fun h5 => ?_)
  · refine bg_aload_n C d_wy_measure_51 rfl rfl ?_
    refine bg_aload_n C d_wy_measure_52 rfl rfl ?_
    refine bg_cv C (m_wy_chooseParents hG hI4.1) (bg_invV C cf_wy rfl tw_592 ti_wy_chooseParents ts_wy_chooseParents tc_wy_chooseParents tw_41 ⟨by decide, by decide⟩ (nA := 1) (by decide +kernel) rfl d_wy_measure_53 rfl) rfl (by rw [hR]; exact ⟨by decide, by decide⟩) (by rw [hR]; exact ⟨by decide, by decide⟩) (Nat.le_of_ble_eq_true rfl) rfl (fun w6 p6 => ?_)
    have j6 := p6
    have hI6 := hI4.trans j6
    refine bg_aload_n C d_wy_measure_56 rfl rfl ?_
    refine bg_iconst C d_wy_measure_57 ?_
    refine bq_puti C cf_wy hI6 3 3 rfl rfl (by decide) rfl (by decide) rfl (by omega) (by omega) rfl (Or.inr ⟨rfl, by omega⟩) tw_193 d_wy_measure_58 (fun w7 hI7 e7 => ?_)
    refine bg_aload_n C d_wy_measure_61 rfl rfl ?_
    refine bg_ci C (m_wy_countReached hG hI7.1) (bg_invV C cf_wy rfl tw_596 ti_wy_countReached ts_wy_countReached tc_wy_countReached tw_41 ⟨by decide, by decide⟩ (nA := 0) (by decide +kernel) rfl d_wy_measure_62 rfl) rfl (by rw [hR]; exact ⟨by decide, by decide⟩) (by rw [hR]; exact ⟨by decide, by decide⟩) (Nat.le_of_ble_eq_true rfl) rfl (fun v8 w8 p8 => ?_)
    obtain rfl := p8
    exact bg_iret C d_wy_measure_65 (fun h => by cases h) (Or.inl rfl) (Nat.zero_le _) (Nat.zero_le _) ⟨_, rfl, hI7⟩
  · refine bg_iload C d_wy_measure_32 rfl ?_
    refine bg_bipush C d_wy_measure_34 (by decide +kernel) ?_
    refine bg_icmp_ge (tgt := 51) C d_wy_measure_36 (by decide) ⟨by omega, by omega⟩ ⟨by omega, by omega⟩ (fun h9 => ?_) (fun h9 => ?_)
    · refine bg_aload_n C d_wy_measure_51 rfl rfl ?_
      refine bg_aload_n C d_wy_measure_52 rfl rfl ?_
      refine bg_cv C (m_wy_chooseParents hG hI4.1) (bg_invV C cf_wy rfl tw_592 ti_wy_chooseParents ts_wy_chooseParents tc_wy_chooseParents tw_41 ⟨by decide, by decide⟩ (nA := 1) (by decide +kernel) rfl d_wy_measure_53 rfl) rfl (by rw [hR]; exact ⟨by decide, by decide⟩) (by rw [hR]; exact ⟨by decide, by decide⟩) (Nat.le_of_ble_eq_true rfl) rfl (fun w10 p10 => ?_)
      have j10 := p10
      have hI10 := hI4.trans j10
      refine bg_aload_n C d_wy_measure_56 rfl rfl ?_
      refine bg_iconst C d_wy_measure_57 ?_
      refine bq_puti C cf_wy hI10 3 3 rfl rfl (by decide) rfl (by decide) rfl (by omega) (by omega) rfl (Or.inr ⟨rfl, by omega⟩) tw_193 d_wy_measure_58 (fun w11 hI11 e11 => ?_)
      refine bg_aload_n C d_wy_measure_61 rfl rfl ?_
      refine bg_ci C (m_wy_countReached hG hI11.1) (bg_invV C cf_wy rfl tw_596 ti_wy_countReached ts_wy_countReached tc_wy_countReached tw_41 ⟨by decide, by decide⟩ (nA := 0) (by decide +kernel) rfl d_wy_measure_62 rfl) rfl (by rw [hR]; exact ⟨by decide, by decide⟩) (by rw [hR]; exact ⟨by decide, by decide⟩) (Nat.le_of_ble_eq_true rfl) rfl (fun v12 w12 p12 => ?_)
      obtain rfl := p12
      exact bg_iret C d_wy_measure_65 (fun h => by cases h) (Or.inl rfl) (Nat.zero_le _) (Nat.zero_le _) ⟨_, rfl, hI11⟩
    · refine bg_aload_n C d_wy_measure_39 rfl rfl ?_
      refine bg_aload_n C d_wy_measure_40 rfl rfl ?_
      refine bg_ci C (m_wy_shorten hG hI4.1) (bg_invV C cf_wy rfl tw_583 ti_wy_shorten ts_wy_shorten tc_wy_shorten tw_41 ⟨by decide, by decide⟩ (nA := 1) (by decide +kernel) rfl d_wy_measure_41 rfl) rfl (by rw [hR]; exact ⟨by decide, by decide⟩) (by rw [hR]; exact ⟨by decide, by decide⟩) (Nat.le_of_ble_eq_true rfl) rfl (fun v13 w13 p13 => ?_)
      obtain ⟨j13, r13_0, r13_1⟩ := p13
      have hI13 := hI4.trans j13
      refine bg_istore_n C d_wy_measure_44 rfl (Nat.le_of_ble_eq_true rfl) ?_
      refine bg_iinc C d_wy_measure_45 rfl ?_
      refine bg_goto (l := 28) C d_wy_measure_48 (by decide) ?_
      exact ih28 (w13, v13, (i4 + 1)) ⟨hI13, by (try dsimp only) <;> omega, by (try dsimp only) <;> omega, by (try dsimp only) <;> omega, by (try dsimp only) <;> omega⟩ (by (try dsimp only) <;> omega)
