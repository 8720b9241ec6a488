def rm_so_writeHead : Room := { frames := 1, cells := 0, slots := 0, locals := 20 }
set_option maxRecDepth 20000 in
set_option maxHeartbeats 4000000 in
theorem m_so_writeHead {G : bgGl} (hG : bgOk G) {w0 : bgW} (hw : bgN w0) {b : Int} (z0 : 0 ≤ b) (z1 : b ≤ 1) : bgM G false 0 0 y_so_writeHead (.code y_so_writeHead co_so_writeHead 2 (some .boolean)) rm_so_writeHead [br 4, bi b] w0 (bgPi (fun v w' => bgRel w0 w' ∧ 0 ≤ v ∧ v ≤ 1)) := by
  refine bg_met hG (by decide +kernel) (bg_cat rfl) (Nat.le_of_ble_eq_true rfl) ?_
  intro K hK hR hex C
  subst hK
  have hI := bgRel.rfl hw
  show bgX K true 0 0 _ w0 0 [some (br 4), some (bi b)] []
  refine bg_aload_n C d_so_writeHead_0 rfl rfl ?_
  refine bg_getr (i := 0) C cf_so rfl (by decide) rfl tw_156 d_so_writeHead_1 ?_
  refine bg_ci C (m_pw_holds hG hI.1) (bg_invV C cf_pw rfl tw_263 ti_pw_holds ts_pw_holds tc_pw_holds tw_36 ⟨by decide, by decide⟩ (nA := 0) (by decide +kernel) rfl d_so_writeHead_4 rfl) rfl (by rw [hR]; exact ⟨by decide, by decide⟩) (by rw [hR]; exact ⟨by decide, by decide⟩) (Nat.le_of_ble_eq_true rfl) rfl (fun v1 w1 p1 => ?_)
  obtain ⟨j1, r1_0, r1_1⟩ := p1
  have hI1 := hI.trans j1
  refine bg_if_ne (tgt := 12) C d_so_writeHead_7 (by decide) ⟨by omega, by omega⟩ (fun h2 => ?_) (fun h2 => ?_)
  · refine bg_aload_n C d_so_writeHead_12 rfl rfl ?_
    refine bg_iload_n C d_so_writeHead_13 rfl rfl ?_
    refine bq_puti C cf_so hI1 4 4 rfl rfl (by decide) rfl (by decide) rfl (by omega) (by omega) rfl (Or.inr ⟨rfl, by omega⟩) tw_161 d_so_writeHead_14 (fun w3 hI3 e3 => ?_)
    refine bg_iconst C d_so_writeHead_17 ?_
    exact bg_iret C d_so_writeHead_18 (fun h => by cases h) (Or.inr ⟨rfl, by omega⟩) (Nat.zero_le _) (Nat.zero_le _) ⟨_, rfl, hI3, by omega, by omega⟩
  · refine bg_iconst C d_so_writeHead_10 ?_
    exact bg_iret C d_so_writeHead_11 (fun h => by cases h) (Or.inr ⟨rfl, by omega⟩) (Nat.zero_le _) (Nat.zero_le _) ⟨_, rfl, hI1, by omega, by omega⟩
def rm_so_writeHome : Room := { frames := 2, cells := 0, slots := 0, locals := 82 }
set_option maxRecDepth 20000 in
set_option maxHeartbeats 4000000 in
theorem m_so_writeHome {G : bgGl} (hG : bgOk G) {w0 : bgW} (hw : bgN w0) {k : Int} (z0 : 0 ≤ k) (z1 : k ≤ 49) : bgM G false 0 0 y_so_writeHome (.code y_so_writeHome co_so_writeHome 3 (some .boolean)) rm_so_writeHome [br 4, bi k, br 14] w0 (bgPi (fun v w' => bgRel w0 w' ∧ 0 ≤ v ∧ v ≤ 1)) := by
  refine bg_met hG (by decide +kernel) (bg_cat rfl) (Nat.le_of_ble_eq_true rfl) ?_
  intro K hK hR hex C
  subst hK
  have hI := bgRel.rfl hw
  show bgX K true 0 0 _ w0 0 [some (br 4), some (bi k), some (br 14)] []
  refine bg_aload_n C d_so_writeHome_0 rfl rfl ?_
  refine bg_getr (i := 0) C cf_so rfl (by decide) rfl tw_156 d_so_writeHome_1 ?_
  refine bg_ci C (m_pw_holds hG hI.1) (bg_invV C cf_pw rfl tw_263 ti_pw_holds ts_pw_holds tc_pw_holds tw_36 ⟨by decide, by decide⟩ (nA := 0) (by decide +kernel) rfl d_so_writeHome_4 rfl) rfl (by rw [hR]; exact ⟨by decide, by decide⟩) (by rw [hR]; exact ⟨by decide, by decide⟩) (Nat.le_of_ble_eq_true rfl) rfl (fun v1 w1 p1 => ?_)
  obtain ⟨j1, r1_0, r1_1⟩ := p1
  have hI1 := hI.trans j1
  refine bg_if_ne (tgt := 12) C d_so_writeHome_7 (by decide) ⟨by omega, by omega⟩ (fun h2 => ?_) (fun h2 => ?_)
  · refine bg_aload_n C d_so_writeHome_12 rfl rfl ?_
    refine bg_getr (i := 3) C cf_so rfl (by decide) rfl tw_159 d_so_writeHome_13 ?_
    refine bg_aload_n C d_so_writeHome_16 rfl rfl ?_
    refine bg_iload_n C d_so_writeHome_17 rfl rfl ?_
    refine bg_cv C (m_et_copyBlock hG hI1.1 (by omega) (by omega)) (bg_invV C cf_et rfl tw_271 ti_et_copyBlock ts_et_copyBlock tc_et_copyBlock tw_40 ⟨by decide, by decide⟩ (nA := 2) (by decide +kernel) rfl d_so_writeHome_18 rfl) rfl (by rw [hR]; exact ⟨by decide, by decide⟩) (by rw [hR]; exact ⟨by decide, by decide⟩) (Nat.le_of_ble_eq_true rfl) rfl (fun w3 p3 => ?_)
    have j3 := p3
    have hI3 := hI1.trans j3
    refine bg_aload_n C d_so_writeHome_21 rfl rfl ?_
    refine bg_getr (i := 1) C cf_so rfl (by decide) rfl tw_157 d_so_writeHome_22 ?_
    refine bg_iload_n C d_so_writeHome_25 rfl rfl ?_
    refine bg_cv C (m_hd_putFirst hG hI3.1) (bg_invV C cf_hd rfl tw_279 ti_hd_putFirst ts_hd_putFirst tc_hd_putFirst tw_37 ⟨by decide, by decide⟩ (nA := 1) (by decide +kernel) rfl d_so_writeHome_26 rfl) rfl (by rw [hR]; exact ⟨by decide, by decide⟩) (by rw [hR]; exact ⟨by decide, by decide⟩) (Nat.le_of_ble_eq_true rfl) rfl (fun w4 p4 => ?_)
    have j4 := p4
    have hI4 := hI3.trans j4
    refine bg_iconst C d_so_writeHome_29 ?_
    exact bg_iret C d_so_writeHome_30 (fun h => by cases h) (Or.inr ⟨rfl, by omega⟩) (Nat.zero_le _) (Nat.zero_le _) ⟨_, rfl, hI4, by omega, by omega⟩
  · refine bg_iconst C d_so_writeHome_10 ?_
    exact bg_iret C d_so_writeHome_11 (fun h => by cases h) (Or.inr ⟨rfl, by omega⟩) (Nat.zero_le _) (Nat.zero_le _) ⟨_, rfl, hI1, by omega, by omega⟩
def rm_so_writeLog : Room := { frames := 1, cells := 0, slots := 0, locals := 22 }
set_option maxRecDepth 20000 in
set_option maxHeartbeats 4000000 in
theorem m_so_writeLog {G : bgGl} (hG : bgOk G) {w0 : bgW} (hw : bgN w0) {k : Int} (z0 : -2147483648 ≤ k) (z1 : k ≤ 2147483647) : bgM G false 0 0 y_so_writeLog (.code y_so_writeLog co_so_writeLog 3 (some .boolean)) rm_so_writeLog [br 4, br 18, bi k] w0 (bgPi (fun v w' => bgRel w0 w' ∧ 0 ≤ v ∧ v ≤ 1)) := by
  refine bg_met hG (by decide +kernel) (bg_cat rfl) (Nat.le_of_ble_eq_true rfl) ?_
  intro K hK hR hex C
  subst hK
  have hI := bgRel.rfl hw
  show bgX K true 0 0 _ w0 0 [some (br 4), some (br 18), some (bi k)] []
  refine bg_aload_n C d_so_writeLog_0 rfl rfl ?_
  refine bg_getr (i := 0) C cf_so rfl (by decide) rfl tw_156 d_so_writeLog_1 ?_
  refine bg_ci C (m_pw_holds hG hI.1) (bg_invV C cf_pw rfl tw_263 ti_pw_holds ts_pw_holds tc_pw_holds tw_36 ⟨by decide, by decide⟩ (nA := 0) (by decide +kernel) rfl d_so_writeLog_4 rfl) rfl (by rw [hR]; exact ⟨by decide, by decide⟩) (by rw [hR]; exact ⟨by decide, by decide⟩) (Nat.le_of_ble_eq_true rfl) rfl (fun v1 w1 p1 => ?_)
  obtain ⟨j1, r1_0, r1_1⟩ := p1
  have hI1 := hI.trans j1
  refine bg_if_ne (tgt := 12) C d_so_writeLog_7 (by decide) ⟨by omega, by omega⟩ (fun h2 => ?_) (fun h2 => ?_)
  · refine bg_aload_n C d_so_writeLog_12 rfl rfl ?_
    refine bg_getr (i := 2) C cf_so rfl (by decide) rfl tw_158 d_so_writeLog_13 ?_
    refine bg_aload_n C d_so_writeLog_16 rfl rfl ?_
    refine bg_iload_n C d_so_writeLog_17 rfl rfl ?_
    refine bg_cv C (m_op_copyOne hG hI1.1 (by omega) (by omega)) (bg_invV C cf_op rfl tw_526 ti_op_copyOne ts_op_copyOne tc_op_copyOne tw_39 ⟨by decide, by decide⟩ (nA := 2) (by decide +kernel) rfl d_so_writeLog_18 rfl) rfl (by rw [hR]; exact ⟨by decide, by decide⟩) (by rw [hR]; exact ⟨by decide, by decide⟩) (Nat.le_of_ble_eq_true rfl) rfl (fun w3 p3 => ?_)
    have j3 := p3
    have hI3 := hI1.trans j3
    refine bg_iconst C d_so_writeLog_21 ?_
    exact bg_iret C d_so_writeLog_22 (fun h => by cases h) (Or.inr ⟨rfl, by omega⟩) (Nat.zero_le _) (Nat.zero_le _) ⟨_, rfl, hI3, by omega, by omega⟩
  · refine bg_iconst C d_so_writeLog_10 ?_
    exact bg_iret C d_so_writeLog_11 (fun h => by cases h) (Or.inr ⟨rfl, by omega⟩) (Nat.zero_le _) (Nat.zero_le _) ⟨_, rfl, hI1, by omega, by omega⟩
def rm_so_writeMark : Room := { frames := 1, cells := 0, slots := 0, locals := 20 }
set_option maxRecDepth 20000 in
set_option maxHeartbeats 4000000 in
theorem m_so_writeMark {G : bgGl} (hG : bgOk G) {w0 : bgW} (hw : bgN w0) {k : Int} (z0 : 0 ≤ k) (z1 : k ≤ 20) : bgM G false 0 0 y_so_writeMark (.code y_so_writeMark co_so_writeMark 2 (some .boolean)) rm_so_writeMark [br 4, bi k] w0 (bgPi (fun v w' => bgRel w0 w' ∧ 0 ≤ v ∧ v ≤ 1)) := by
  refine bg_met hG (by decide +kernel) (bg_cat rfl) (Nat.le_of_ble_eq_true rfl) ?_
  intro K hK hR hex C
  subst hK
  have hI := bgRel.rfl hw
  show bgX K true 0 0 _ w0 0 [some (br 4), some (bi k)] []
  refine bg_aload_n C d_so_writeMark_0 rfl rfl ?_
  refine bg_getr (i := 0) C cf_so rfl (by decide) rfl tw_156 d_so_writeMark_1 ?_
  refine bg_ci C (m_pw_holds hG hI.1) (bg_invV C cf_pw rfl tw_263 ti_pw_holds ts_pw_holds tc_pw_holds tw_36 ⟨by decide, by decide⟩ (nA := 0) (by decide +kernel) rfl d_so_writeMark_4 rfl) rfl (by rw [hR]; exact ⟨by decide, by decide⟩) (by rw [hR]; exact ⟨by decide, by decide⟩) (Nat.le_of_ble_eq_true rfl) rfl (fun v1 w1 p1 => ?_)
  obtain ⟨j1, r1_0, r1_1⟩ := p1
  have hI1 := hI.trans j1
  refine bg_if_ne (tgt := 12) C d_so_writeMark_7 (by decide) ⟨by omega, by omega⟩ (fun h2 => ?_) (fun h2 => ?_)
  · refine bg_aload_n C d_so_writeMark_12 rfl rfl ?_
    refine bg_getr (i := 2) C cf_so rfl (by decide) rfl tw_158 d_so_writeMark_13 ?_
    refine bg_iload_n C d_so_writeMark_16 rfl rfl ?_
    refine bq_puti C cf_op hI1 4 4 rfl rfl (by decide) rfl (by decide) rfl (by omega) (by omega) rfl (Or.inl rfl) tw_117 d_so_writeMark_17 (fun w3 hI3 e3 => ?_)
    refine bg_iconst C d_so_writeMark_20 ?_
    exact bg_iret C d_so_writeMark_21 (fun h => by cases h) (Or.inr ⟨rfl, by omega⟩) (Nat.zero_le _) (Nat.zero_le _) ⟨_, rfl, hI3, by omega, by omega⟩
  · refine bg_iconst C d_so_writeMark_10 ?_
    exact bg_iret C d_so_writeMark_11 (fun h => by cases h) (Or.inr ⟨rfl, by omega⟩) (Nat.zero_le _) (Nat.zero_le _) ⟨_, rfl, hI1, by omega, by omega⟩
def rm_so_bringHome : Room := { frames := 3, cells := 0, slots := 0, locals := 104 }
set_option maxRecDepth 20000 in
set_option maxHeartbeats 4000000 in
theorem m_so_bringHome {G : bgGl} (hG : bgOk G) {w0 : bgW} (hw : bgN w0) : bgM G false 0 0 y_so_bringHome (.code y_so_bringHome co_so_bringHome 3 (some .boolean)) rm_so_bringHome [br 4, br 14] w0 (bgPi (fun v w' => bgRel w0 w' ∧ 0 ≤ v ∧ v ≤ 1)) := by
  refine bg_met hG (by decide +kernel) (bg_cat rfl) (Nat.le_of_ble_eq_true rfl) ?_
  intro K hK hR hex C
  subst hK
  have hI := bgRel.rfl hw
  show bgX K true 0 0 _ w0 0 [some (br 4), some (br 14), none] []
  refine bg_iconst C d_so_bringHome_0 ?_
  refine bg_istore_n C d_so_bringHome_1 rfl (Nat.le_of_ble_eq_true rfl) ?_
  refine bg_weak ?_
  refine bg_loop (α := bgW × Int) (fun a => (50 - a.2).toNat) (fun a => bgRel w0 a.1 ∧ 0 ≤ a.2 ∧ a.2 ≤ 50) (fun a => (a.1, [some (br 4), some (br 14), some (bi a.2)], [])) ?_ (w0, 0) ⟨hI, by (try dsimp only) <;> omega, by (try dsimp only) <;> omega⟩
  rintro ⟨w1, i1⟩ ⟨hI1, q1_0, q1_1⟩ ih2
  try dsimp only at ih2
  try dsimp only at q1_0
  try dsimp only at q1_1
  try dsimp only
  refine bg_iload_n C d_so_bringHome_2 rfl rfl ?_
  refine bg_bipush C d_so_bringHome_3 (by decide +kernel) ?_
  refine bg_icmp_ge (tgt := 36) C d_so_bringHome_5 (by decide) ⟨by omega, by omega⟩ ⟨by omega, by omega⟩ (fun h2 => ?_) (fun h2 => ?_)
  · refine bg_aload_n C d_so_bringHome_36 rfl rfl ?_
    refine bg_iconst C d_so_bringHome_37 ?_
    refine bg_ci C (m_so_writeMark hG hI1.1 (by omega) (by omega)) (bg_invV C cf_so rfl tw_293 ti_so_writeMark ts_so_writeMark tc_so_writeMark tw_38 ⟨by decide, by decide⟩ (nA := 1) (by decide +kernel) rfl d_so_bringHome_38 rfl) rfl (by rw [hR]; exact ⟨by decide, by decide⟩) (by rw [hR]; exact ⟨by decide, by decide⟩) (Nat.le_of_ble_eq_true rfl) rfl (fun v3 w3 p3 => ?_)
    obtain ⟨j3, r3_0, r3_1⟩ := p3
    have hI3 := hI1.trans j3
    exact bg_iret C d_so_bringHome_41 (fun h => by cases h) (Or.inr ⟨rfl, by omega⟩) (Nat.zero_le _) (Nat.zero_le _) ⟨_, rfl, hI3, by omega, by omega⟩
  · refine bg_aload_n C d_so_bringHome_8 rfl rfl ?_
    refine bg_getr (i := 2) C cf_so rfl (by decide) rfl tw_158 d_so_bringHome_9 ?_
    refine bg_iload_n C d_so_bringHome_12 rfl rfl ?_
    refine bg_ci C (m_op_areAbout hG hI1.1) (bg_invV C cf_op rfl tw_323 ti_op_areAbout ts_op_areAbout tc_op_areAbout tw_39 ⟨by decide, by decide⟩ (nA := 1) (by decide +kernel) rfl d_so_bringHome_13 rfl) rfl (by rw [hR]; exact ⟨by decide, by decide⟩) (by rw [hR]; exact ⟨by decide, by decide⟩) (Nat.le_of_ble_eq_true rfl) rfl (fun v4 w4 p4 => ?_)
    obtain ⟨rfl, r4_0, r4_1⟩ := p4
    refine bg_if_eq (tgt := 30) C d_so_bringHome_16 (by decide) ⟨by omega, by omega⟩ (fun h5 => ?_) (fun h5 => ?_)
    · refine bg_iinc C d_so_bringHome_30 rfl ?_
      refine bg_goto (l := 2) C d_so_bringHome_33 (by decide) ?_
      exact ih2 (w1, (i1 + 1)) ⟨hI1, by (try dsimp only) <;> omega, by (try dsimp only) <;> omega⟩ (by (try dsimp only) <;> omega)
    · refine bg_aload_n C d_so_bringHome_19 rfl rfl ?_
      refine bg_iload_n C d_so_bringHome_20 rfl rfl ?_
      refine bg_aload_n C d_so_bringHome_21 rfl rfl ?_
      refine bg_ci C (m_so_writeHome hG hI1.1 (by omega) (by omega)) (bg_invV C cf_so rfl tw_267 ti_so_writeHome ts_so_writeHome tc_so_writeHome tw_38 ⟨by decide, by decide⟩ (nA := 2) (by decide +kernel) rfl d_so_bringHome_22 rfl) rfl (by rw [hR]; exact ⟨by decide, by decide⟩) (by rw [hR]; exact ⟨by decide, by decide⟩) (Nat.le_of_ble_eq_true rfl) rfl (fun v6 w6 p6 => ?_)
      obtain ⟨j6, r6_0, r6_1⟩ := p6
      have hI6 := hI1.trans j6
      refine bg_if_ne (tgt := 30) C d_so_bringHome_25 (by decide) ⟨by omega, by omega⟩ (fun h7 => ?_) (fun h7 => ?_)
      · refine bg_iinc C d_so_bringHome_30 rfl ?_
        refine bg_goto (l := 2) C d_so_bringHome_33 (by decide) ?_
        exact ih2 (w6, (i1 + 1)) ⟨hI6, by (try dsimp only) <;> omega, by (try dsimp only) <;> omega⟩ (by (try dsimp only) <;> omega)
      · refine bg_iconst C d_so_bringHome_28 ?_
        exact bg_iret C d_so_bringHome_29 (fun h => by cases h) (Or.inr ⟨rfl, by omega⟩) (Nat.zero_le _) (Nat.zero_le _) ⟨_, rfl, hI6, by omega, by omega⟩
def rm_so_layOut : Room := { frames := 3, cells := 0, slots := 0, locals := 104 }
set_option maxRecDepth 20000 in
set_option maxHeartbeats 4000000 in
theorem m_so_layOut {G : bgGl} (hG : bgOk G) {w0 : bgW} (hw : bgN w0) : bgM G false 0 0 y_so_layOut (.code y_so_layOut co_so_layOut 3 (some .boolean)) rm_so_layOut [br 4, br 14] w0 (bgPi (fun v w' => bgRel w0 w' ∧ 0 ≤ v ∧ v ≤ 1)) := by
  refine bg_met hG (by decide +kernel) (bg_cat rfl) (Nat.le_of_ble_eq_true rfl) ?_
  intro K hK hR hex C
  subst hK
  have hI := bgRel.rfl hw
  show bgX K true 0 0 _ w0 0 [some (br 4), some (br 14), none] []
  refine bg_aload_n C d_so_layOut_0 rfl rfl ?_
  refine bg_iconst C d_so_layOut_1 ?_
  refine bg_ci C (m_so_writeHead hG hI.1 (by omega) (by omega)) (bg_invV C cf_so rfl tw_259 ti_so_writeHead ts_so_writeHead tc_so_writeHead tw_38 ⟨by decide, by decide⟩ (nA := 1) (by decide +kernel) rfl d_so_layOut_2 rfl) rfl (by rw [hR]; exact ⟨by decide, by decide⟩) (by rw [hR]; exact ⟨by decide, by decide⟩) (Nat.le_of_ble_eq_true rfl) rfl (fun v1 w1 p1 => ?_)
  obtain ⟨j1, r1_0, r1_1⟩ := p1
  have hI1 := hI.trans j1
  refine bg_if_ne (tgt := 10) C d_so_layOut_5 (by decide) ⟨by omega, by omega⟩ (fun h2 => ?_) (fun h2 => ?_)
  · refine bg_aload_n C d_so_layOut_10 rfl rfl ?_
    refine bg_iconst C d_so_layOut_11 ?_
    refine bq_put0 C cf_so hI1 5 5 rfl rfl (by decide) rfl (by decide) rfl rfl rfl tw_163 d_so_layOut_12 (fun w3 hI3 e3 => ?_)
    refine bg_iconst C d_so_layOut_15 ?_
    refine bg_istore_n C d_so_layOut_16 rfl (Nat.le_of_ble_eq_true rfl) ?_
    refine bg_loop (α := bgW × Int) (fun a => (50 - a.2).toNat) (fun a => bgRel w0 a.1 ∧ 0 ≤ a.2 ∧ a.2 ≤ 50) (fun a => (a.1, [some (br 4), some (br 14), some (bi a.2)], [])) ?_ (w3, 0) ⟨hI3, by (try dsimp only) <;> omega, by (try dsimp only) <;> omega⟩
    rintro ⟨w4, i4⟩ ⟨hI4, q4_0, q4_1⟩ ih17
    try dsimp only at ih17
    try dsimp only at q4_0
    try dsimp only at q4_1
    try dsimp only
    refine bg_iload_n C d_so_layOut_17 rfl rfl ?_
    refine bg_bipush C d_so_layOut_18 (by decide +kernel) ?_
    refine bg_icmp_ge (tgt := 40) C d_so_layOut_20 (by decide) ⟨by omega, by omega⟩ ⟨by omega, by omega⟩ (fun h5 => ?_) (fun h5 => ?_)
    · refine bg_aload_n C d_so_layOut_40 rfl rfl ?_
      refine bg_iconst C d_so_layOut_41 ?_
      refine bg_ci C (m_so_writeMark hG hI4.1 (by omega) (by omega)) (bg_invV C cf_so rfl tw_293 ti_so_writeMark ts_so_writeMark tc_so_writeMark tw_38 ⟨by decide, by decide⟩ (nA := 1) (by decide +kernel) rfl d_so_layOut_42 rfl) rfl (by rw [hR]; exact ⟨by decide, by decide⟩) (by rw [hR]; exact ⟨by decide, by decide⟩) (Nat.le_of_ble_eq_true rfl) rfl (fun v6 w6 p6 => ?_)
      obtain ⟨j6, r6_0, r6_1⟩ := p6
      have hI6 := hI4.trans j6
      refine bg_if_eq (tgt := 60) C d_so_layOut_45 (by decide) ⟨by omega, by omega⟩ (fun h7 => ?_) (fun h7 => ?_)
      · refine bg_iconst C d_so_layOut_60 ?_
        exact bg_iret C d_so_layOut_61 (fun h => by cases h) (Or.inr ⟨rfl, by omega⟩) (Nat.zero_le _) (Nat.zero_le _) ⟨_, rfl, hI6, by omega, by omega⟩
      · refine bg_aload_n C d_so_layOut_48 rfl rfl ?_
        refine bg_iconst C d_so_layOut_49 ?_
        refine bg_ci C (m_so_writeHead hG hI6.1 (by omega) (by omega)) (bg_invV C cf_so rfl tw_259 ti_so_writeHead ts_so_writeHead tc_so_writeHead tw_38 ⟨by decide, by decide⟩ (nA := 1) (by decide +kernel) rfl d_so_layOut_50 rfl) rfl (by rw [hR]; exact ⟨by decide, by decide⟩) (by rw [hR]; exact ⟨by decide, by decide⟩) (Nat.le_of_ble_eq_true rfl) rfl (fun v8 w8 p8 => ?_)
        obtain ⟨j8, r8_0, r8_1⟩ := p8
        have hI8 := hI6.trans j8
        refine bg_if_eq (tgt := 60) C d_so_layOut_53 (by decide) ⟨by omega, by omega⟩ (fun h9 => ?_) (fun h9 => ?_)
        · refine bg_iconst C d_so_layOut_60 ?_
          exact bg_iret C d_so_layOut_61 (fun h => by cases h) (Or.inr ⟨rfl, by omega⟩) (Nat.zero_le _) (Nat.zero_le _) ⟨_, rfl, hI8, by omega, by omega⟩
        · refine bg_iconst C d_so_layOut_56 ?_
          refine bg_goto (l := 61) C d_so_layOut_57 (by decide) ?_
          exact bg_iret C d_so_layOut_61 (fun h => by cases h) (Or.inr ⟨rfl, by omega⟩) (Nat.zero_le _) (Nat.zero_le _) ⟨_, rfl, hI8, by omega, by omega⟩
    · refine bg_aload_n C d_so_layOut_23 rfl rfl ?_
      refine bg_iload_n C d_so_layOut_24 rfl rfl ?_
      refine bg_aload_n C d_so_layOut_25 rfl rfl ?_
      refine bg_ci C (m_so_writeHome hG hI4.1 (by omega) (by omega)) (bg_invV C cf_so rfl tw_267 ti_so_writeHome ts_so_writeHome tc_so_writeHome tw_38 ⟨by decide, by decide⟩ (nA := 2) (by decide +kernel) rfl d_so_layOut_26 rfl) rfl (by rw [hR]; exact ⟨by decide, by decide⟩) (by rw [hR]; exact ⟨by decide, by decide⟩) (Nat.le_of_ble_eq_true rfl) rfl (fun v10 w10 p10 => ?_)
      obtain ⟨j10, r10_0, r10_1⟩ := p10
      have hI10 := hI4.trans j10
      refine bg_if_ne (tgt := 34) C d_so_layOut_29 (by decide) ⟨by omega, by omega⟩ (fun h11 => ?_) (fun h11 => ?_)
      · refine bg_iinc C d_so_layOut_34 rfl ?_
        refine bg_goto (l := 17) C d_so_layOut_37 (by decide) ?_
        exact ih17 (w10, (i4 + 1)) ⟨hI10, by (try dsimp only) <;> omega, by (try dsimp only) <;> omega⟩ (by (try dsimp only) <;> omega)
      · refine bg_iconst C d_so_layOut_32 ?_
        exact bg_iret C d_so_layOut_33 (fun h => by cases h) (Or.inr ⟨rfl, by omega⟩) (Nat.zero_le _) (Nat.zero_le _) ⟨_, rfl, hI10, by omega, by omega⟩
  · refine bg_iconst C d_so_layOut_8 ?_
    exact bg_iret C d_so_layOut_9 (fun h => by cases h) (Or.inr ⟨rfl, by omega⟩) (Nat.zero_le _) (Nat.zero_le _) ⟨_, rfl, hI1, by omega, by omega⟩
def rm_so_save : Room := { frames := 4, cells := 0, slots := 0, locals := 126 }
set_option maxRecDepth 20000 in
set_option maxHeartbeats 4000000 in
theorem m_so_save {G : bgGl} (hG : bgOk G) {w0 : bgW} (hw : bgN w0) : bgM G false 0 0 y_so_save (.code y_so_save co_so_save 4 (some .boolean)) rm_so_save [br 4, br 18, br 14] w0 (bgPi (fun v w' => bgRel w0 w' ∧ 0 ≤ v ∧ v ≤ 1)) := by
  refine bg_met hG (by decide +kernel) (bg_cat rfl) (Nat.le_of_ble_eq_true rfl) ?_
  intro K hK hR hex C
  subst hK
  have hI := bgRel.rfl hw
  show bgX K true 0 0 _ w0 0 [some (br 4), some (br 18), some (br 14), none] []
  refine bg_iconst C d_so_save_0 ?_
  refine bg_istore_n C d_so_save_1 rfl (Nat.le_of_ble_eq_true rfl) ?_
  refine bg_weak ?_
  refine bg_loop (α := bgW × Int) (fun a => (20 - a.2).toNat) (fun a => bgRel w0 a.1 ∧ 0 ≤ a.2 ∧ a.2 ≤ 20) (fun a => (a.1, [some (br 4), some (br 18), some (br 14), some (bi a.2)], [])) ?_ (w0, 0) ⟨hI, by (try dsimp only) <;> omega, by (try dsimp only) <;> omega⟩
  rintro ⟨w1, i1⟩ ⟨hI1, q1_0, q1_1⟩ ih2
  try dsimp only at ih2
  try dsimp only at q1_0
  try dsimp only at q1_1
  try dsimp only
  refine bg_iload_n C d_so_save_2 rfl rfl ?_
  refine bg_aload_n C d_so_save_3 rfl rfl ?_
  refine bq_geti C cf_op hI1 4 4 rfl rfl (by decide) rfl (by decide) rfl tw_117 d_so_save_4 (fun v2 e2 a2 b2 => ?_)
  refine bg_icmp_ge (tgt := 27) C d_so_save_7 (by decide) ⟨by omega, by omega⟩ ⟨by omega, by omega⟩ (fun h3 => ?_) (fun h3 => ?_)
  · refine bg_aload_n C d_so_save_27 rfl rfl ?_
    refine bg_aload_n C d_so_save_28 rfl rfl ?_
    refine bq_geti C cf_op hI1 4 4 rfl rfl (by decide) rfl (by decide) rfl tw_117 d_so_save_29 (fun v4 e4 a4 b4 => ?_)
    refine bg_ci C (m_so_writeMark hG hI1.1 (by omega) (by omega)) (bg_invV C cf_so rfl tw_293 ti_so_writeMark ts_so_writeMark tc_so_writeMark tw_38 ⟨by decide, by decide⟩ (nA := 1) (by decide +kernel) rfl d_so_save_32 rfl) rfl (by rw [hR]; exact ⟨by decide, by decide⟩) (by rw [hR]; exact ⟨by decide, by decide⟩) (Nat.le_of_ble_eq_true rfl) rfl (fun v5 w5 p5 => ?_)
    obtain ⟨j5, r5_0, r5_1⟩ := p5
    have hI5 := hI1.trans j5
    refine bg_if_ne (tgt := 40) C d_so_save_35 (by decide) ⟨by omega, by omega⟩ (fun h6 => ?_) (fun h6 => ?_)
    · refine bg_aload_n C d_so_save_40 rfl rfl ?_
      refine bg_dup C d_so_save_41 rfl ?_
      refine bq_get0 C cf_so 5 5 rfl rfl (by decide) rfl tw_163 d_so_save_42 (fun v7 e7 => ?_)
      refine bg_iconst C d_so_save_45 ?_
      refine bg_iadd C d_so_save_46 ?_
      refine bq_put0 C cf_so hI5 5 5 rfl rfl (by decide) rfl (by decide) rfl rfl rfl tw_163 d_so_save_47 (fun w8 hI8 e8 => ?_)
      refine bg_aload_n C d_so_save_50 rfl rfl ?_
      refine bg_aload_n C d_so_save_51 rfl rfl ?_
      refine bg_ci C (m_so_bringHome hG hI8.1) (bg_invV C cf_so rfl tw_319 ti_so_bringHome ts_so_bringHome tc_so_bringHome tw_38 ⟨by decide, by decide⟩ (nA := 1) (by decide +kernel) rfl d_so_save_52 rfl) rfl (by rw [hR]; exact ⟨by decide, by decide⟩) (by rw [hR]; exact ⟨by decide, by decide⟩) (Nat.le_of_ble_eq_true rfl) rfl (fun v9 w9 p9 => ?_)
      obtain ⟨j9, r9_0, r9_1⟩ := p9
      have hI9 := hI8.trans j9
      exact bg_iret C d_so_save_55 (fun h => by cases h) (Or.inr ⟨rfl, by omega⟩) (Nat.zero_le _) (Nat.zero_le _) ⟨_, rfl, hI9, by omega, by omega⟩
    · refine bg_iconst C d_so_save_38 ?_
      exact bg_iret C d_so_save_39 (fun h => by cases h) (Or.inr ⟨rfl, by omega⟩) (Nat.zero_le _) (Nat.zero_le _) ⟨_, rfl, hI5, by omega, by omega⟩
  · refine bg_aload_n C d_so_save_10 rfl rfl ?_
    refine bg_aload_n C d_so_save_11 rfl rfl ?_
    refine bg_iload_n C d_so_save_12 rfl rfl ?_
    refine bg_ci C (m_so_writeLog hG hI1.1 (by omega) (by omega)) (bg_invV C cf_so rfl tw_522 ti_so_writeLog ts_so_writeLog tc_so_writeLog tw_38 ⟨by decide, by decide⟩ (nA := 2) (by decide +kernel) rfl d_so_save_13 rfl) rfl (by rw [hR]; exact ⟨by decide, by decide⟩) (by rw [hR]; exact ⟨by decide, by decide⟩) (Nat.le_of_ble_eq_true rfl) rfl (fun v10 w10 p10 => ?_)
    obtain ⟨j10, r10_0, r10_1⟩ := p10
    have hI10 := hI1.trans j10
    refine bg_if_ne (tgt := 21) C d_so_save_16 (by decide) ⟨by omega, by omega⟩ (fun h11 => ?_) (fun h11 => ?_)
    · refine bg_iinc C d_so_save_21 rfl ?_
      refine bg_goto (l := 2) C d_so_save_24 (by decide) ?_
      exact ih2 (w10, (i1 + 1)) ⟨hI10, by (try dsimp only) <;> omega, by (try dsimp only) <;> omega⟩ (by (try dsimp only) <;> omega)
    · refine bg_iconst C d_so_save_19 ?_
      exact bg_iret C d_so_save_20 (fun h => by cases h) (Or.inr ⟨rfl, by omega⟩) (Nat.zero_le _) (Nat.zero_le _) ⟨_, rfl, hI10, by omega, by omega⟩
def rm_so_replay : Room := { frames := 4, cells := 0, slots := 0, locals := 126 }
set_option maxRecDepth 20000 in
set_option maxHeartbeats 4000000 in
theorem m_so_replay {G : bgGl} (hG : bgOk G) {w0 : bgW} (hw : bgN w0) : bgM G false 0 0 y_so_replay (.code y_so_replay co_so_replay 2 (some .boolean)) rm_so_replay [br 4, br 14] w0 (bgPi (fun v w' => bgRel w0 w' ∧ 0 ≤ v ∧ v ≤ 1)) := by
  refine bg_met hG (by decide +kernel) (bg_cat rfl) (Nat.le_of_ble_eq_true rfl) ?_
  intro K hK hR hex C
  subst hK
  have hI := bgRel.rfl hw
  show bgX K true 0 0 _ w0 0 [some (br 4), some (br 14)] []
  refine bg_aload_n C d_so_replay_0 rfl rfl ?_
  refine bg_aload_n C d_so_replay_1 rfl rfl ?_
  refine bg_getr (i := 3) C cf_so rfl (by decide) rfl tw_159 d_so_replay_2 ?_
  refine bg_cv C (m_et_copyAll hG hI.1) (bg_invV C cf_et rfl tw_309 ti_et_copyAll ts_et_copyAll tc_et_copyAll tw_40 ⟨by decide, by decide⟩ (nA := 1) (by decide +kernel) rfl d_so_replay_5 rfl) rfl (by rw [hR]; exact ⟨by decide, by decide⟩) (by rw [hR]; exact ⟨by decide, by decide⟩) (Nat.le_of_ble_eq_true rfl) rfl (fun w1 p1 => ?_)
  have j1 := p1
  have hI1 := hI.trans j1
  refine bg_aload_n C d_so_replay_8 rfl rfl ?_
  refine bg_getr (i := 2) C cf_so rfl (by decide) rfl tw_158 d_so_replay_9 ?_
  refine bg_aload_n C d_so_replay_12 rfl rfl ?_
  refine bg_cv C (m_op_doAll hG hI1.1) (bg_invV C cf_op rfl tw_314 ti_op_doAll ts_op_doAll tc_op_doAll tw_39 ⟨by decide, by decide⟩ (nA := 1) (by decide +kernel) rfl d_so_replay_13 rfl) rfl (by rw [hR]; exact ⟨by decide, by decide⟩) (by rw [hR]; exact ⟨by decide, by decide⟩) (Nat.le_of_ble_eq_true rfl) rfl (fun w2 p2 => ?_)
  have j2 := p2
  have hI2 := hI1.trans j2
  refine bg_aload_n C d_so_replay_16 rfl rfl ?_
  refine bg_getr (i := 2) C cf_so rfl (by decide) rfl tw_158 d_so_replay_17 ?_
  refine bq_geti C cf_op hI2 4 4 rfl rfl (by decide) rfl (by decide) rfl tw_117 d_so_replay_20 (fun v3 e3 a3 b3 => ?_)
  refine bg_if_eq (tgt := 34) C d_so_replay_23 (by decide) ⟨by omega, by omega⟩ (fun h4 => ?_) (fun h4 => ?_)
  · refine bg_iconst C d_so_replay_34 ?_
    refine bg_goto (l := 39) C d_so_replay_35 (by decide) ?_
    exact bg_iret C d_so_replay_39 (fun h => by cases h) (Or.inr ⟨rfl, by omega⟩) (Nat.zero_le _) (Nat.zero_le _) ⟨_, rfl, hI2, by omega, by omega⟩
  · refine bg_aload_n C d_so_replay_26 rfl rfl ?_
    refine bg_aload_n C d_so_replay_27 rfl rfl ?_
    refine bg_ci C (m_so_bringHome hG hI2.1) (bg_invV C cf_so rfl tw_319 ti_so_bringHome ts_so_bringHome tc_so_bringHome tw_38 ⟨by decide, by decide⟩ (nA := 1) (by decide +kernel) rfl d_so_replay_28 rfl) rfl (by rw [hR]; exact ⟨by decide, by decide⟩) (by rw [hR]; exact ⟨by decide, by decide⟩) (Nat.le_of_ble_eq_true rfl) rfl (fun v5 w5 p5 => ?_)
    obtain ⟨j5, r5_0, r5_1⟩ := p5
    have hI5 := hI2.trans j5
    refine bg_if_eq (tgt := 38) C d_so_replay_31 (by decide) ⟨by omega, by omega⟩ (fun h6 => ?_) (fun h6 => ?_)
    · refine bg_iconst C d_so_replay_38 ?_
      exact bg_iret C d_so_replay_39 (fun h => by cases h) (Or.inr ⟨rfl, by omega⟩) (Nat.zero_le _) (Nat.zero_le _) ⟨_, rfl, hI5, by omega, by omega⟩
    · refine bg_iconst C d_so_replay_34 ?_
      refine bg_goto (l := 39) C d_so_replay_35 (by decide) ?_
      exact bg_iret C d_so_replay_39 (fun h => by cases h) (Or.inr ⟨rfl, by omega⟩) (Nat.zero_le _) (Nat.zero_le _) ⟨_, rfl, hI5, by omega, by omega⟩
