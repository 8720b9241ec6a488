def rm_op_append : Room := { frames := 0, cells := 0, slots := 0, locals := 0 }
set_option maxRecDepth 20000 in
set_option maxHeartbeats 4000000 in
theorem m_op_append {G : bgGl} (hG : bgOk G) {w0 : bgW} (hw : bgN w0) {e f t x : Int} (z0 : -1 ≤ e) (z1 : e ≤ 199) (z2 : 0 ≤ f) (z3 : f ≤ 63) (z4 : 0 ≤ t) (z5 : t ≤ 63) : bgM G false 0 0 y_op_append (.code y_op_append co_op_append 5 none) rm_op_append [br 18, bi e, bi f, bi t, bi x] w0 (bgPv (fun w' => bgRel w0 w')) := by
  refine bg_met hG (by decide +kernel) (bg_cat rfl) (Nat.le_of_ble_eq_true rfl) ?_
  intro K hK hR hex C
  subst hK
  have hI := bgRel.rfl hw
  show bgX K true 0 0 _ w0 0 [some (br 18), some (bi e), some (bi f), some (bi t), some (bi x)] []
  refine bg_aload_n C d_op_append_0 rfl rfl ?_
  refine bq_geti C cf_op hI 4 4 rfl rfl (by decide) rfl (by decide) rfl tw_116 d_op_append_1 (fun v1 e1 a1 b1 => ?_)
  refine bg_bipush C d_op_append_4 (by decide +kernel) ?_
  refine bg_icmp_lt (tgt := 10) C d_op_append_6 (by decide) ⟨by omega, by omega⟩ ⟨by omega, by omega⟩ (fun h2 => ?_) (fun h2 => ?_)
  · refine bg_aload_n C d_op_append_10 rfl rfl ?_
    refine bg_getr (i := 0) C cf_op rfl (by decide) rfl tw_112 d_op_append_11 ?_
    refine bg_aload_n C d_op_append_14 rfl rfl ?_
    refine bq_geti C cf_op hI 4 4 rfl rfl (by decide) rfl (by decide) rfl tw_116 d_op_append_15 (fun v3 e3 a3 b3 => ?_)
    refine bg_iload_n C d_op_append_18 rfl rfl ?_
    refine bq_iast C hI rfl (by decide) rfl (by omega) (by omega) (by omega) (by omega) d_op_append_19 (fun w4 hI4 e4 => ?_)
    have g4_0 : w4 18 4 = w0 18 4 := by rw [e4]; exact bgU_ne _ (by decide)
    refine bg_aload_n C d_op_append_20 rfl rfl ?_
    refine bg_getr (i := 1) C cf_op rfl (by decide) rfl tw_113 d_op_append_21 ?_
    refine bg_aload_n C d_op_append_24 rfl rfl ?_
    refine bq_geti C cf_op hI4 4 4 rfl rfl (by decide) rfl (by decide) rfl tw_116 d_op_append_25 (fun v5 e5 a5 b5 => ?_)
    refine bg_iload_n C d_op_append_28 rfl rfl ?_
    refine bq_iast C hI4 rfl (by decide) rfl (by omega) (by omega) (by omega) (by omega) d_op_append_29 (fun w6 hI6 e6 => ?_)
    have g6_0 : w6 18 4 = w4 18 4 := by rw [e6]; exact bgU_ne _ (by decide)
    refine bg_aload_n C d_op_append_30 rfl rfl ?_
    refine bg_getr (i := 2) C cf_op rfl (by decide) rfl tw_114 d_op_append_31 ?_
    refine bg_aload_n C d_op_append_34 rfl rfl ?_
    refine bq_geti C cf_op hI6 4 4 rfl rfl (by decide) rfl (by decide) rfl tw_116 d_op_append_35 (fun v7 e7 a7 b7 => ?_)
    refine bg_iload_n C d_op_append_38 rfl rfl ?_
    refine bq_iast C hI6 rfl (by decide) rfl (by omega) (by omega) (by omega) (by omega) d_op_append_39 (fun w8 hI8 e8 => ?_)
    have g8_0 : w8 18 4 = w6 18 4 := by rw [e8]; exact bgU_ne _ (by decide)
    refine bg_aload_n C d_op_append_40 rfl rfl ?_
    refine bg_getr (i := 3) C cf_op rfl (by decide) rfl tw_115 d_op_append_41 ?_
    refine bg_aload_n C d_op_append_44 rfl rfl ?_
    refine bq_geti C cf_op hI8 4 4 rfl rfl (by decide) rfl (by decide) rfl tw_116 d_op_append_45 (fun v9 e9 a9 b9 => ?_)
    refine bg_iload C d_op_append_48 rfl ?_
    refine bq_iast0 C hI8 rfl (by decide) rfl (by omega) (by omega) d_op_append_50 (fun w10 hI10 e10 => ?_)
    have g10_0 : w10 18 4 = w8 18 4 := by rw [e10]; exact bgU_ne _ (by decide)
    refine bg_aload_n C d_op_append_51 rfl rfl ?_
    refine bg_dup C d_op_append_52 rfl ?_
    refine bq_geti C cf_op hI10 4 4 rfl rfl (by decide) rfl (by decide) rfl tw_116 d_op_append_53 (fun v11 e11 a11 b11 => ?_)
    refine bg_iconst C d_op_append_56 ?_
    refine bg_iadd C d_op_append_57 ?_
    refine bq_puti C cf_op hI10 4 4 rfl rfl (by decide) rfl (by decide) rfl (by omega) (by omega) rfl (Or.inl rfl) tw_116 d_op_append_58 (fun w12 hI12 e12 => ?_)
    have g12_0 : w12 18 4 = (v11 + 1) := by rw [e12]; exact bgU_eq
    exact bg_ret C d_op_append_61 (fun h => by cases h) rfl (Nat.zero_le _) (Nat.zero_le _) ⟨rfl, hI12⟩
  · exact bg_ret C d_op_append_9 (fun h => by cases h) rfl (Nat.zero_le _) (Nat.zero_le _) ⟨rfl, hI⟩
def rm_op_copyOne : Room := { frames := 0, cells := 0, slots := 0, locals := 0 }
set_option maxRecDepth 20000 in
set_option maxHeartbeats 4000000 in
theorem m_op_copyOne {G : bgGl} (hG : bgOk G) {w0 : bgW} (hw : bgN w0) {k : Int} (z0 : -2147483648 ≤ k) (z1 : k ≤ 2147483647) : bgM G false 0 0 y_op_copyOne (.code y_op_copyOne co_op_copyOne 3 none) rm_op_copyOne [br 5, br 18, bi k] w0 (bgPv (fun w' => bgRel w0 w')) := by
  refine bg_met hG (by decide +kernel) (bg_cat rfl) (Nat.le_of_ble_eq_true rfl) ?_
  intro K hK hR hex C
  subst hK
  have hI := bgRel.rfl hw
  show bgX K true 0 0 _ w0 0 [some (br 5), some (br 18), some (bi k)] []
  refine bg_iload_n C d_op_copyOne_0 rfl rfl ?_
  refine bg_if_lt (tgt := 10) C d_op_copyOne_1 (by decide) ⟨by omega, by omega⟩ (fun h1 => ?_) (fun h1 => ?_)
  · exact bg_ret C d_op_copyOne_10 (fun h => by cases h) rfl (Nat.zero_le _) (Nat.zero_le _) ⟨rfl, hI⟩
  · refine bg_iload_n C d_op_copyOne_4 rfl rfl ?_
    refine bg_bipush C d_op_copyOne_5 (by decide +kernel) ?_
    refine bg_icmp_lt (tgt := 11) C d_op_copyOne_7 (by decide) ⟨by omega, by omega⟩ ⟨by omega, by omega⟩ (fun h2 => ?_) (fun h2 => ?_)
    · refine bg_aload_n C d_op_copyOne_11 rfl rfl ?_
      refine bg_getr (i := 0) C cf_op rfl (by decide) rfl tw_112 d_op_copyOne_12 ?_
      refine bg_iload_n C d_op_copyOne_15 rfl rfl ?_
      refine bg_aload_n C d_op_copyOne_16 rfl rfl ?_
      refine bg_getr (i := 0) C cf_op rfl (by decide) rfl tw_112 d_op_copyOne_17 ?_
      refine bg_iload_n C d_op_copyOne_20 rfl rfl ?_
      refine bq_iald C hI rfl (by decide) rfl (by omega) (by omega) d_op_copyOne_21 (fun v3 e3 a3 b3 => ?_)
      refine bq_iast C hI rfl (by decide) rfl (by omega) (by omega) (by omega) (by omega) d_op_copyOne_22 (fun w4 hI4 e4 => ?_)
      refine bg_aload_n C d_op_copyOne_23 rfl rfl ?_
      refine bg_getr (i := 1) C cf_op rfl (by decide) rfl tw_113 d_op_copyOne_24 ?_
      refine bg_iload_n C d_op_copyOne_27 rfl rfl ?_
      refine bg_aload_n C d_op_copyOne_28 rfl rfl ?_
      refine bg_getr (i := 1) C cf_op rfl (by decide) rfl tw_113 d_op_copyOne_29 ?_
      refine bg_iload_n C d_op_copyOne_32 rfl rfl ?_
      refine bq_iald C hI4 rfl (by decide) rfl (by omega) (by omega) d_op_copyOne_33 (fun v5 e5 a5 b5 => ?_)
      refine bq_iast C hI4 rfl (by decide) rfl (by omega) (by omega) (by omega) (by omega) d_op_copyOne_34 (fun w6 hI6 e6 => ?_)
      refine bg_aload_n C d_op_copyOne_35 rfl rfl ?_
      refine bg_getr (i := 2) C cf_op rfl (by decide) rfl tw_114 d_op_copyOne_36 ?_
      refine bg_iload_n C d_op_copyOne_39 rfl rfl ?_
      refine bg_aload_n C d_op_copyOne_40 rfl rfl ?_
      refine bg_getr (i := 2) C cf_op rfl (by decide) rfl tw_114 d_op_copyOne_41 ?_
      refine bg_iload_n C d_op_copyOne_44 rfl rfl ?_
      refine bq_iald C hI6 rfl (by decide) rfl (by omega) (by omega) d_op_copyOne_45 (fun v7 e7 a7 b7 => ?_)
      refine bq_iast C hI6 rfl (by decide) rfl (by omega) (by omega) (by omega) (by omega) d_op_copyOne_46 (fun w8 hI8 e8 => ?_)
      refine bg_aload_n C d_op_copyOne_47 rfl rfl ?_
      refine bg_getr (i := 3) C cf_op rfl (by decide) rfl tw_115 d_op_copyOne_48 ?_
      refine bg_iload_n C d_op_copyOne_51 rfl rfl ?_
      refine bg_aload_n C d_op_copyOne_52 rfl rfl ?_
      refine bg_getr (i := 3) C cf_op rfl (by decide) rfl tw_115 d_op_copyOne_53 ?_
      refine bg_iload_n C d_op_copyOne_56 rfl rfl ?_
      refine bq_iald0 C rfl (by omega) (by omega) d_op_copyOne_57 (fun v9 e9 => ?_)
      refine bq_iast0 C hI8 rfl (by decide) rfl (by omega) (by omega) d_op_copyOne_58 (fun w10 hI10 e10 => ?_)
      exact bg_ret C d_op_copyOne_59 (fun h => by cases h) rfl (Nat.zero_le _) (Nat.zero_le _) ⟨rfl, hI10⟩
    · exact bg_ret C d_op_copyOne_10 (fun h => by cases h) rfl (Nat.zero_le _) (Nat.zero_le _) ⟨rfl, hI⟩
def rm_op_doAll : Room := { frames := 1, cells := 0, slots := 0, locals := 24 }
set_option maxRecDepth 20000 in
set_option maxHeartbeats 4000000 in
theorem m_op_doAll {G : bgGl} (hG : bgOk G) {w0 : bgW} (hw : bgN w0) : bgM G false 0 0 y_op_doAll (.code y_op_doAll co_op_doAll 3 none) rm_op_doAll [br 5, br 14] w0 (bgPv (fun w' => bgRel w0 w')) := by
  refine bg_met hG (by decide +kernel) (bg_cat rfl) (Nat.le_of_ble_eq_true rfl) ?_
  intro K hK hR hex C
  subst hK
  have hI := bgRel.rfl hw
  show bgX K true 0 0 _ w0 0 [some (br 5), some (br 14), none] []
  refine bg_iconst C d_op_doAll_0 ?_
  refine bg_istore_n C d_op_doAll_1 rfl (Nat.le_of_ble_eq_true rfl) ?_
  refine bg_weak ?_
  refine bg_loop (α := bgW × Int) (fun a => (20 - a.2).toNat) (fun a => bgRel w0 a.1 ∧ 0 ≤ a.2 ∧ a.2 ≤ 20) (fun a => (a.1, [some (br 5), some (br 14), some (bi a.2)], [])) ?_ (w0, 0) ⟨hI, by (try dsimp only) <;> omega, by (try dsimp only) <;> omega⟩
  rintro ⟨w1, i1⟩ ⟨hI1, q1_0, q1_1⟩ ih2
  try dsimp only at ih2
  try dsimp only at q1_0
  try dsimp only at q1_1
  try dsimp only
  refine bg_iload_n C d_op_doAll_2 rfl rfl ?_
  refine bg_aload_n C d_op_doAll_3 rfl rfl ?_
  refine bq_geti C cf_op hI1 4 4 rfl rfl (by decide) rfl (by decide) rfl tw_116 d_op_doAll_4 (fun v2 e2 a2 b2 => ?_)
  refine bg_icmp_ge (tgt := 50) C d_op_doAll_7 (by decide) ⟨by omega, by omega⟩ ⟨by omega, by omega⟩ (fun h3 => ?_) (fun h3 => ?_)
  · exact bg_ret C d_op_doAll_50 (fun h => by cases h) rfl (Nat.zero_le _) (Nat.zero_le _) ⟨rfl, hI1⟩
  · refine bg_iload_n C d_op_doAll_10 rfl rfl ?_
    refine bg_bipush C d_op_doAll_11 (by decide +kernel) ?_
    refine bg_icmp_ge (tgt := 50) C d_op_doAll_13 (by decide) ⟨by omega, by omega⟩ ⟨by omega, by omega⟩ (fun h4 => ?_) (fun h4 => ?_)
    · exact bg_ret C d_op_doAll_50 (fun h => by cases h) rfl (Nat.zero_le _) (Nat.zero_le _) ⟨rfl, hI1⟩
    · refine bg_aload_n C d_op_doAll_16 rfl rfl ?_
      refine bg_aload_n C d_op_doAll_17 rfl rfl ?_
      refine bg_getr (i := 0) C cf_op rfl (by decide) rfl tw_112 d_op_doAll_18 ?_
      refine bg_iload_n C d_op_doAll_21 rfl rfl ?_
      refine bq_iald C hI1 rfl (by decide) rfl (by omega) (by omega) d_op_doAll_22 (fun v5 e5 a5 b5 => ?_)
      refine bg_aload_n C d_op_doAll_23 rfl rfl ?_
      refine bg_getr (i := 1) C cf_op rfl (by decide) rfl tw_113 d_op_doAll_24 ?_
      refine bg_iload_n C d_op_doAll_27 rfl rfl ?_
      refine bq_iald C hI1 rfl (by decide) rfl (by omega) (by omega) d_op_doAll_28 (fun v6 e6 a6 b6 => ?_)
      refine bg_aload_n C d_op_doAll_29 rfl rfl ?_
      refine bg_getr (i := 2) C cf_op rfl (by decide) rfl tw_114 d_op_doAll_30 ?_
      refine bg_iload_n C d_op_doAll_33 rfl rfl ?_
      refine bq_iald C hI1 rfl (by decide) rfl (by omega) (by omega) d_op_doAll_34 (fun v7 e7 a7 b7 => ?_)
      refine bg_aload_n C d_op_doAll_35 rfl rfl ?_
      refine bg_getr (i := 3) C cf_op rfl (by decide) rfl tw_115 d_op_doAll_36 ?_
      refine bg_iload_n C d_op_doAll_39 rfl rfl ?_
      refine bq_iald0 C rfl (by omega) (by omega) d_op_doAll_40 (fun v8 e8 => ?_)
      refine bg_cv C (m_et_put_vs hG hI1.1 (by omega) (by omega) (by omega) (by omega) (by omega) (by omega)) (bg_invV C cf_et rfl tw_318 ti_et_put ts_et_put tc_et_put tw_40 ⟨by decide, by decide⟩ (nA := 4) (by decide +kernel) rfl d_op_doAll_41 rfl) rfl (by rw [hR]; exact ⟨by decide, by decide⟩) (by rw [hR]; exact ⟨by decide, by decide⟩) (Nat.le_of_ble_eq_true rfl) rfl (fun w9 p9 => ?_)
      have j9 := p9
      have hI9 := hI1.trans j9
      refine bg_iinc C d_op_doAll_44 rfl ?_
      refine bg_goto (l := 2) C d_op_doAll_47 (by decide) ?_
      exact ih2 (w9, (i1 + 1)) ⟨hI9, by (try dsimp only) <;> omega, by (try dsimp only) <;> omega⟩ (by (try dsimp only) <;> omega)
def rm_op_areAbout : Room := { frames := 0, cells := 0, slots := 0, locals := 0 }
set_option maxRecDepth 20000 in
set_option maxHeartbeats 4000000 in
theorem m_op_areAbout {G : bgGl} (hG : bgOk G) {w0 : bgW} (hw : bgN w0) {b : Int} : bgM G true 0 0 y_op_areAbout (.code y_op_areAbout co_op_areAbout 3 (some .boolean)) rm_op_areAbout [br 5, bi b] w0 (bgPi (fun v w' => w0 = w' ∧ 0 ≤ v ∧ v ≤ 1)) := by
  refine bg_met hG (by decide +kernel) (bg_cat rfl) (Nat.le_of_ble_eq_true rfl) ?_
  intro K hK hR hex C
  subst hK
  have hI := bgRel.rfl hw
  show bgX K true 0 0 _ w0 0 [some (br 5), some (bi b), none] []
  refine bg_iconst C d_op_areAbout_0 ?_
  refine bg_istore_n C d_op_areAbout_1 rfl (Nat.le_of_ble_eq_true rfl) ?_
  refine bg_loop (α := Int) (fun a => (20 - a).toNat) (fun a => 0 ≤ a ∧ a ≤ 20) (fun a => (w0, [some (br 5), some (bi b), some (bi a)], [])) ?_ 0 ⟨by (try dsimp only) <;> omega, by (try dsimp only) <;> omega⟩
  rintro i1 ⟨q1_0, q1_1⟩ ih2
  try dsimp only at ih2
  try dsimp only at q1_0
  try dsimp only at q1_1
  try dsimp only
  refine bg_iload_n C d_op_areAbout_2 rfl rfl ?_
  refine bg_aload_n C d_op_areAbout_3 rfl rfl ?_
  refine bq_geti C cf_op hI 4 4 rfl rfl (by decide) rfl (by decide) rfl tw_116 d_op_areAbout_4 (fun v2 e2 a2 b2 => ?_)
  refine bg_icmp_ge (tgt := 36) C d_op_areAbout_7 (by decide) ⟨by omega, by omega⟩ ⟨by omega, by omega⟩ (fun h3 => ?_) (fun h3 => ?_)
  · refine bg_iconst C d_op_areAbout_36 ?_
    exact bg_iret C d_op_areAbout_37 (fun _ => rfl) (Or.inr ⟨rfl, by omega⟩) (Nat.zero_le _) (Nat.zero_le _) ⟨_, rfl, rfl, by omega, by omega⟩
  · refine bg_iload_n C d_op_areAbout_10 rfl rfl ?_
    refine bg_bipush C d_op_areAbout_11 (by decide +kernel) ?_
    refine bg_icmp_ge (tgt := 36) C d_op_areAbout_13 (by decide) ⟨by omega, by omega⟩ ⟨by omega, by omega⟩ (fun h4 => ?_) (fun h4 => ?_)
    · refine bg_iconst C d_op_areAbout_36 ?_
      exact bg_iret C d_op_areAbout_37 (fun _ => rfl) (Or.inr ⟨rfl, by omega⟩) (Nat.zero_le _) (Nat.zero_le _) ⟨_, rfl, rfl, by omega, by omega⟩
    · refine bg_aload_n C d_op_areAbout_16 rfl rfl ?_
      refine bg_getr (i := 0) C cf_op rfl (by decide) rfl tw_112 d_op_areAbout_17 ?_
      refine bg_iload_n C d_op_areAbout_20 rfl rfl ?_
      refine bq_iald C hI rfl (by decide) rfl (by omega) (by omega) d_op_areAbout_21 (fun v5 e5 a5 b5 => ?_)
      refine bg_iconst C d_op_areAbout_22 ?_
      refine bg_idiv0 C d_op_areAbout_23 (by decide +kernel) (fun v6 => ?_)
      refine bg_iload_n C d_op_areAbout_24 rfl rfl ?_
      refine bg_icmp_ne0 (tgt := 30) C d_op_areAbout_25 (by decide) ?_ ?_
      · refine bg_iinc C d_op_areAbout_30 rfl ?_
        refine bg_goto (l := 2) C d_op_areAbout_33 (by decide) ?_
        exact ih2 (i1 + 1) ⟨by omega, by omega⟩ (by omega)
      · refine bg_iconst C d_op_areAbout_28 ?_
        exact bg_iret C d_op_areAbout_29 (fun _ => rfl) (Or.inr ⟨rfl, by omega⟩) (Nat.zero_le _) (Nat.zero_le _) ⟨_, rfl, rfl, by omega, by omega⟩
