/-! the law's helpers: the class's ranges; the reference stays as it was; 'out' may change -/
def lwRel (w0 w : bgW) : Prop := bgN w ∧ ∀ k i, bgMo ≤ k → k < 36 → w k i = w0 k i
theorem lwRel.of {w0 w : bgW} (h : bgRel w0 w) : lwRel w0 w := ⟨h.1, fun k i hk _ => h.2 k i hk⟩
theorem lwRel.out {w0 w : bgW} {i v : Int} (h : lwRel w0 w) : lwRel w0 (bgU w 36 i v) := by
  refine ⟨fun k j hk => ?_, fun k j hk h2 => ?_⟩
  · have e : bgU w 36 i v k j = w k j := bgU_ne j (by have : bgMo = 27 := rfl; omega)
    rw [e]
    exact h.1 k j hk
  · rw [bgU_ne j (by omega)]
    exact h.2 k j hk h2
def rm_lw_begin : Room := { frames := 8, cells := 1, slots := 6, locals := 122 }
set_option maxRecDepth 20000 in
set_option maxHeartbeats 4000000 in
theorem m_lw_begin {G : bgGl} (hG : bgOk G) {w0 : bgW} (hw : bgN w0) : bgM G false 1 6 y_lw_begin (.codeWith y_lw_begin co_lw_begin 2 (some .int) hs_lw_begin) rm_lw_begin [br 0] w0 (bgPi (fun v w' => lwRel w0 w')) := by
  refine bg_metW hG (by decide +kernel) (bg_cat rfl) (Nat.le_of_ble_eq_true rfl) ?_
  intro K hK hR hex C
  subst hK
  have hI := bgRel.rfl hw
  show bgX K true 0 0 _ w0 0 [some (br 0), none] []
  refine bg_aload_n C d_lw_begin_0 rfl rfl ?_
  refine bg_cvt C (m_bg_begin hG hI.1) (bg_invV C cf_bg rfl tw_331 ti_bg_begin ts_bg_begin tc_bg_begin tw_35 ⟨by decide, by decide⟩ (nA := 0) (by decide +kernel) rfl d_lw_begin_1 rfl) rfl (by rw [hR]; exact ⟨by decide, by decide⟩) (by rw [hR]; exact ⟨by decide, by decide⟩) (Nat.le_of_ble_eq_true rfl) rfl (fun w1 p1 => ?_) (fun X1 w1 p1 => ?_)
  · have j1 := p1
    refine bg_goto (l := 10) C d_lw_begin_4 (by decide) ?_
    refine bg_iconst C d_lw_begin_10 ?_
    exact bg_iret C d_lw_begin_11 (fun h => by cases h) (Or.inl rfl) (by decide) (by decide) ⟨_, rfl, (lwRel.of j1)⟩
  · obtain ⟨rfl, hX⟩ := p1
    subst hX
    refine bg_hand (X := 0) (i := 1) C hex (bg_fdHit C tw_330 cx_0 (by decide) (by decide)) (Nat.le_of_ble_eq_true rfl) (Or.inl ⟨1, rfl, d_lw_begin_7⟩) ?_
    refine bg_iconst C d_lw_begin_8 ?_
    exact bg_iret C d_lw_begin_9 (fun h => by cases h) (Or.inl rfl) (by decide) (by decide) ⟨_, rfl, (lwRel.of hI)⟩
def rm_lw_add : Room := { frames := 9, cells := 1, slots := 6, locals := 146 }
set_option maxRecDepth 20000 in
set_option maxHeartbeats 4000000 in
theorem m_lw_add {G : bgGl} (hG : bgOk G) {w0 : bgW} (hw : bgN w0) {f t x : Int} (z0 : -2147483648 ≤ f) (z1 : f ≤ 2147483647) (z2 : -2147483648 ≤ t) (z3 : t ≤ 2147483647) (z4 : -2147483648 ≤ x) (z5 : x ≤ 2147483647) : bgM G false 1 6 y_lw_add (.codeWith y_lw_add co_lw_add 6 (some .int) hs_lw_add) rm_lw_add [br 0, bi f, bi t, bi x, br 36] w0 (bgPi (fun v w' => lwRel w0 w')) := by
  refine bg_metW hG (by decide +kernel) (bg_cat rfl) (Nat.le_of_ble_eq_true rfl) ?_
  intro K hK hR hex C
  subst hK
  have hI := bgRel.rfl hw
  show bgX K true 0 0 _ w0 0 [some (br 0), some (bi f), some (bi t), some (bi x), some (br 36), none] []
  refine bg_aload C d_lw_add_0 rfl ?_
  refine bg_iconst C d_lw_add_2 ?_
  refine bg_aload_n C d_lw_add_3 rfl rfl ?_
  refine bg_iload_n C d_lw_add_4 rfl rfl ?_
  refine bg_iload_n C d_lw_add_5 rfl rfl ?_
  refine bg_iload_n C d_lw_add_6 rfl rfl ?_
  refine bg_cit C (m_bg_add hG hI.1 (by omega) (by omega) (by omega) (by omega) (by omega) (by omega)) (bg_invV C cf_bg rfl tw_415 ti_bg_add ts_bg_add tc_bg_add tw_35 ⟨by decide, by decide⟩ (nA := 3) (by decide +kernel) rfl d_lw_add_7 rfl) rfl (by rw [hR]; exact ⟨by decide, by decide⟩) (by rw [hR]; exact ⟨by decide, by decide⟩) (Nat.le_of_ble_eq_true rfl) rfl (fun v1 w1 p1 => ?_) (fun X1 w1 p1 => ?_)
  · have j1 := p1
    refine bg_i2l C d_lw_add_10 (fun v8 => ?_)
    refine bg_last C rfl (by decide) (by decide) d_lw_add_11 (fun w9 e9 => ?_)
    have hI9 : lwRel w0 w9 := by rw [e9]; exact ((lwRel.of j1)).out
    refine bg_goto (l := 27) C d_lw_add_12 (by decide) ?_
    refine bg_iconst C d_lw_add_27 ?_
    exact bg_iret C d_lw_add_28 (fun h => by cases h) (Or.inl rfl) (by decide) (by decide) ⟨_, rfl, hI9⟩
  · obtain ⟨rfl, hX⟩ := p1
    rcases hX with rfl | rfl | rfl
    · refine bg_hand (X := 0) (i := 5) C hex (bg_fdHit C tw_330 cx_0 (by decide) (by decide)) (Nat.le_of_ble_eq_true rfl) (Or.inr d_lw_add_15) ?_
      refine bg_iconst C d_lw_add_17 ?_
      exact bg_iret C d_lw_add_18 (fun h => by cases h) (Or.inl rfl) (by decide) (by decide) ⟨_, rfl, (lwRel.of hI)⟩
    · refine bg_hand (X := 1) (i := 5) C hex (bg_fdSkip C tw_330 (by decide +kernel) (by decide) (by decide) (bg_fdHit C tw_413 cx_1 (by decide) (by decide))) (Nat.le_of_ble_eq_true rfl) (Or.inr d_lw_add_19) ?_
      refine bg_iconst C d_lw_add_21 ?_
      exact bg_iret C d_lw_add_22 (fun h => by cases h) (Or.inl rfl) (by decide) (by decide) ⟨_, rfl, (lwRel.of hI)⟩
    · refine bg_hand (X := 2) (i := 5) C hex (bg_fdSkip C tw_330 (by decide +kernel) (by decide) (by decide) (bg_fdSkip C tw_413 (by decide +kernel) (by decide) (by decide) (bg_fdHit C tw_414 cx_2 (by decide) (by decide)))) (Nat.le_of_ble_eq_true rfl) (Or.inr d_lw_add_23) ?_
      refine bg_iconst C d_lw_add_25 ?_
      exact bg_iret C d_lw_add_26 (fun h => by cases h) (Or.inl rfl) (by decide) (by decide) ⟨_, rfl, (lwRel.of hI)⟩
def rm_lw_remove : Room := { frames := 9, cells := 1, slots := 6, locals := 143 }
set_option maxRecDepth 20000 in
set_option maxHeartbeats 4000000 in
theorem m_lw_remove {G : bgGl} (hG : bgOk G) {w0 : bgW} (hw : bgN w0) {e : Int} (z0 : -2147483648 ≤ e) (z1 : e ≤ 2147483647) : bgM G false 1 6 y_lw_remove (.codeWith y_lw_remove co_lw_remove 3 (some .int) hs_lw_remove) rm_lw_remove [br 0, bi e] w0 (bgPi (fun v w' => lwRel w0 w')) := by
  refine bg_metW hG (by decide +kernel) (bg_cat rfl) (Nat.le_of_ble_eq_true rfl) ?_
  intro K hK hR hex C
  subst hK
  have hI := bgRel.rfl hw
  show bgX K true 0 0 _ w0 0 [some (br 0), some (bi e), none] []
  refine bg_aload_n C d_lw_remove_0 rfl rfl ?_
  refine bg_iload_n C d_lw_remove_1 rfl rfl ?_
  refine bg_cvt C (m_bg_remove hG hI.1 (by omega) (by omega)) (bg_invV C cf_bg rfl tw_483 ti_bg_remove ts_bg_remove tc_bg_remove tw_35 ⟨by decide, by decide⟩ (nA := 1) (by decide +kernel) rfl d_lw_remove_2 rfl) rfl (by rw [hR]; exact ⟨by decide, by decide⟩) (by rw [hR]; exact ⟨by decide, by decide⟩) (Nat.le_of_ble_eq_true rfl) rfl (fun w1 p1 => ?_) (fun X1 w1 p1 => ?_)
  · have j1 := p1
    refine bg_goto (l := 17) C d_lw_remove_5 (by decide) ?_
    refine bg_iconst C d_lw_remove_17 ?_
    exact bg_iret C d_lw_remove_18 (fun h => by cases h) (Or.inl rfl) (by decide) (by decide) ⟨_, rfl, (lwRel.of j1)⟩
  · obtain ⟨rfl, hX⟩ := p1
    rcases hX with rfl | rfl | rfl
    · refine bg_hand (X := 0) (i := 2) C hex (bg_fdHit C tw_330 cx_0 (by decide) (by decide)) (Nat.le_of_ble_eq_true rfl) (Or.inl ⟨2, rfl, d_lw_remove_8⟩) ?_
      refine bg_iconst C d_lw_remove_9 ?_
      exact bg_iret C d_lw_remove_10 (fun h => by cases h) (Or.inl rfl) (by decide) (by decide) ⟨_, rfl, (lwRel.of hI)⟩
    · refine bg_hand (X := 2) (i := 2) C hex (bg_fdSkip C tw_330 (by decide +kernel) (by decide) (by decide) (bg_fdSkip C tw_482 (by decide +kernel) (by decide) (by decide) (bg_fdHit C tw_414 cx_2 (by decide) (by decide)))) (Nat.le_of_ble_eq_true rfl) (Or.inl ⟨2, rfl, d_lw_remove_14⟩) ?_
      refine bg_iconst C d_lw_remove_15 ?_
      exact bg_iret C d_lw_remove_16 (fun h => by cases h) (Or.inl rfl) (by decide) (by decide) ⟨_, rfl, (lwRel.of hI)⟩
    · refine bg_hand (X := 3) (i := 2) C hex (bg_fdSkip C tw_330 (by decide +kernel) (by decide) (by decide) (bg_fdHit C tw_482 cx_3 (by decide) (by decide))) (Nat.le_of_ble_eq_true rfl) (Or.inl ⟨2, rfl, d_lw_remove_11⟩) ?_
      refine bg_iconst C d_lw_remove_12 ?_
      exact bg_iret C d_lw_remove_13 (fun h => by cases h) (Or.inl rfl) (by decide) (by decide) ⟨_, rfl, (lwRel.of hI)⟩
def rm_lw_commit : Room := { frames := 9, cells := 1, slots := 6, locals := 170 }
set_option maxRecDepth 20000 in
set_option maxHeartbeats 4000000 in
theorem m_lw_commit {G : bgGl} (hG : bgOk G) {w0 : bgW} (hw : bgN w0) : bgM G false 1 6 y_lw_commit (.codeWith y_lw_commit co_lw_commit 3 (some .int) hs_lw_commit) rm_lw_commit [br 0, br 36] w0 (bgPi (fun v w' => lwRel w0 w')) := by
  refine bg_metW hG (by decide +kernel) (bg_cat rfl) (Nat.le_of_ble_eq_true rfl) ?_
  intro K hK hR hex C
  subst hK
  have hI := bgRel.rfl hw
  show bgX K true 0 0 _ w0 0 [some (br 0), some (br 36), none] []
  refine bg_aload_n C d_lw_commit_0 rfl rfl ?_
  refine bg_iconst C d_lw_commit_1 ?_
  refine bg_aload_n C d_lw_commit_2 rfl rfl ?_
  refine bg_cit C (m_bg_commit hG hI.1) (bg_invV C cf_bg rfl tw_514 ti_bg_commit ts_bg_commit tc_bg_commit tw_35 ⟨by decide, by decide⟩ (nA := 0) (by decide +kernel) rfl d_lw_commit_3 rfl) rfl (by rw [hR]; exact ⟨by decide, by decide⟩) (by rw [hR]; exact ⟨by decide, by decide⟩) (Nat.le_of_ble_eq_true rfl) rfl (fun v1 w1 p1 => ?_) (fun X1 w1 p1 => ?_)
  · obtain ⟨j1, r1_0, r1_1⟩ := p1
    refine bg_if_eq (tgt := 13) C d_lw_commit_6 (by decide) ⟨by omega, by omega⟩ (fun h7 => ?_) (fun h7 => ?_)
    · refine bg_lconst (v := 0) C d_lw_commit_13 (by decide) ?_
      refine bg_last C rfl (by decide) (by decide) d_lw_commit_14 (fun w9 e9 => ?_)
      have hI9 : lwRel w0 w9 := by rw [e9]; exact ((lwRel.of j1)).out
      refine bg_goto (l := 21) C d_lw_commit_15 (by decide) ?_
      refine bg_iconst C d_lw_commit_21 ?_
      exact bg_iret C d_lw_commit_22 (fun h => by cases h) (Or.inl rfl) (by decide) (by decide) ⟨_, rfl, hI9⟩
    · refine bg_lconst (v := 1) C d_lw_commit_9 (by decide) ?_
      refine bg_goto (l := 14) C d_lw_commit_10 (by decide) ?_
      refine bg_last C rfl (by decide) (by decide) d_lw_commit_14 (fun w9 e9 => ?_)
      have hI9 : lwRel w0 w9 := by rw [e9]; exact ((lwRel.of j1)).out
      refine bg_goto (l := 21) C d_lw_commit_15 (by decide) ?_
      refine bg_iconst C d_lw_commit_21 ?_
      exact bg_iret C d_lw_commit_22 (fun h => by cases h) (Or.inl rfl) (by decide) (by decide) ⟨_, rfl, hI9⟩
  · obtain ⟨rfl, hX⟩ := p1
    subst hX
    refine bg_hand (X := 0) (i := 2) C hex (bg_fdHit C tw_330 cx_0 (by decide) (by decide)) (Nat.le_of_ble_eq_true rfl) (Or.inl ⟨2, rfl, d_lw_commit_18⟩) ?_
    refine bg_iconst C d_lw_commit_19 ?_
    exact bg_iret C d_lw_commit_20 (fun h => by cases h) (Or.inl rfl) (by decide) (by decide) ⟨_, rfl, (lwRel.of hI)⟩
def rm_lw_abort : Room := { frames := 9, cells := 1, slots := 6, locals := 143 }
set_option maxRecDepth 20000 in
set_option maxHeartbeats 4000000 in
theorem m_lw_abort {G : bgGl} (hG : bgOk G) {w0 : bgW} (hw : bgN w0) : bgM G false 1 6 y_lw_abort (.codeWith y_lw_abort co_lw_abort 3 (some .int) hs_lw_abort) rm_lw_abort [br 0, br 36] w0 (bgPi (fun v w' => lwRel w0 w')) := by
  refine bg_metW hG (by decide +kernel) (bg_cat rfl) (Nat.le_of_ble_eq_true rfl) ?_
  intro K hK hR hex C
  subst hK
  have hI := bgRel.rfl hw
  show bgX K true 0 0 _ w0 0 [some (br 0), some (br 36), none] []
  refine bg_aload_n C d_lw_abort_0 rfl rfl ?_
  refine bg_iconst C d_lw_abort_1 ?_
  refine bg_aload_n C d_lw_abort_2 rfl rfl ?_
  refine bg_cit C (m_bg_abort hG hI.1) (bg_invV C cf_bg rfl tw_533 ti_bg_abort ts_bg_abort tc_bg_abort tw_35 ⟨by decide, by decide⟩ (nA := 0) (by decide +kernel) rfl d_lw_abort_3 rfl) rfl (by rw [hR]; exact ⟨by decide, by decide⟩) (by rw [hR]; exact ⟨by decide, by decide⟩) (Nat.le_of_ble_eq_true rfl) rfl (fun v1 w1 p1 => ?_) (fun X1 w1 p1 => ?_)
  · have j1 := p1
    refine bg_i2l C d_lw_abort_6 (fun v8 => ?_)
    refine bg_last C rfl (by decide) (by decide) d_lw_abort_7 (fun w9 e9 => ?_)
    have hI9 : lwRel w0 w9 := by rw [e9]; exact ((lwRel.of j1)).out
    refine bg_goto (l := 14) C d_lw_abort_8 (by decide) ?_
    refine bg_iconst C d_lw_abort_14 ?_
    exact bg_iret C d_lw_abort_15 (fun h => by cases h) (Or.inl rfl) (by decide) (by decide) ⟨_, rfl, hI9⟩
  · obtain ⟨rfl, hX⟩ := p1
    subst hX
    refine bg_hand (X := 0) (i := 2) C hex (bg_fdHit C tw_330 cx_0 (by decide) (by decide)) (Nat.le_of_ble_eq_true rfl) (Or.inl ⟨2, rfl, d_lw_abort_11⟩) ?_
    refine bg_iconst C d_lw_abort_12 ?_
    exact bg_iret C d_lw_abort_13 (fun h => by cases h) (Or.inl rfl) (by decide) (by decide) ⟨_, rfl, (lwRel.of hI)⟩
def rm_lw_arm : Room := { frames := 7, cells := 1, slots := 6, locals := 103 }
set_option maxRecDepth 20000 in
set_option maxHeartbeats 4000000 in
theorem m_lw_arm {G : bgGl} (hG : bgOk G) {w0 : bgW} (hw : bgN w0) {x : Int} (z0 : -2147483648 ≤ x) (z1 : x ≤ 2147483647) : bgM G false 1 6 y_lw_arm (.codeWith y_lw_arm co_lw_arm 3 (some .int) hs_lw_arm) rm_lw_arm [br 0, bi x] w0 (bgPi (fun v w' => lwRel w0 w' ∧ 0 ≤ v ∧ v ≤ 1 ∧ (v = 0 → -1 ≤ x) ∧ (v = 1 → x < -1))) := by
  refine bg_metW hG (by decide +kernel) (bg_cat rfl) (Nat.le_of_ble_eq_true rfl) ?_
  intro K hK hR hex C
  subst hK
  have hI := bgRel.rfl hw
  show bgX K true 0 0 _ w0 0 [some (br 0), some (bi x), none] []
  refine bg_aload_n C d_lw_arm_0 rfl rfl ?_
  refine bg_iload_n C d_lw_arm_1 rfl rfl ?_
  refine bg_cvt C (m_bg_arm hG hI.1 (by omega) (by omega)) (bg_invV C cf_bg rfl tw_541 ti_bg_arm ts_bg_arm tc_bg_arm tw_35 ⟨by decide, by decide⟩ (nA := 1) (by decide +kernel) rfl d_lw_arm_2 rfl) rfl (by rw [hR]; exact ⟨by decide, by decide⟩) (by rw [hR]; exact ⟨by decide, by decide⟩) (Nat.le_of_ble_eq_true rfl) rfl (fun w1 p1 => ?_) (fun X1 w1 p1 => ?_)
  · obtain ⟨j1, r1_0⟩ := p1
    refine bg_goto (l := 11) C d_lw_arm_5 (by decide) ?_
    refine bg_iconst C d_lw_arm_11 ?_
    exact bg_iret C d_lw_arm_12 (fun h => by cases h) (Or.inl rfl) (by decide) (by decide) ⟨_, rfl, (lwRel.of j1), by omega, by omega, fun _ => by omega, fun h => by omega⟩
  · obtain ⟨rfl, hX, s1_0⟩ := p1
    subst hX
    refine bg_hand (X := 1) (i := 2) C hex (bg_fdHit C tw_413 cx_1 (by decide) (by decide)) (Nat.le_of_ble_eq_true rfl) (Or.inl ⟨2, rfl, d_lw_arm_8⟩) ?_
    refine bg_iconst C d_lw_arm_9 ?_
    exact bg_iret C d_lw_arm_10 (fun h => by cases h) (Or.inl rfl) (by decide) (by decide) ⟨_, rfl, (lwRel.of hI), by omega, by omega, fun h => by omega, fun _ => by omega⟩
def rm_lw_edge : Room := { frames := 8, cells := 1, slots := 6, locals := 125 }
set_option maxRecDepth 20000 in
set_option maxHeartbeats 4000000 in
theorem m_lw_edge {G : bgGl} (hG : bgOk G) {w0 : bgW} (hw : bgN w0) {e k : Int} (z0 : -2147483648 ≤ e) (z1 : e ≤ 2147483647) (z2 : -2147483648 ≤ k) (z3 : k ≤ 2147483647) : bgM G false 1 6 y_lw_edge (.codeWith y_lw_edge co_lw_edge 5 (some .int) hs_lw_edge) rm_lw_edge [br 0, bi e, bi k, br 36] w0 (bgPi (fun v w' => lwRel w0 w')) := by
  refine bg_metW hG (by decide +kernel) (bg_cat rfl) (Nat.le_of_ble_eq_true rfl) ?_
  intro K hK hR hex C
  subst hK
  have hI := bgRel.rfl hw
  show bgX K true 0 0 _ w0 0 [some (br 0), some (bi e), some (bi k), some (br 36), none] []
  refine bg_aload_n C d_lw_edge_0 rfl rfl ?_
  refine bg_iconst C d_lw_edge_1 ?_
  refine bg_aload_n C d_lw_edge_2 rfl rfl ?_
  refine bg_iload_n C d_lw_edge_3 rfl rfl ?_
  refine bg_iload_n C d_lw_edge_4 rfl rfl ?_
  refine bg_cit C (m_bg_edge hG hI.1 (by omega) (by omega) (by omega) (by omega)) (bg_invV C cf_bg rfl tw_549 ti_bg_edge ts_bg_edge tc_bg_edge tw_35 ⟨by decide, by decide⟩ (nA := 2) (by decide +kernel) rfl d_lw_edge_5 rfl) rfl (by rw [hR]; exact ⟨by decide, by decide⟩) (by rw [hR]; exact ⟨by decide, by decide⟩) (Nat.le_of_ble_eq_true rfl) rfl (fun v1 w1 p1 => ?_) (fun X1 w1 p1 => ?_)
  · have j1 := p1
    refine bg_i2l C d_lw_edge_8 (fun v8 => ?_)
    refine bg_last C rfl (by decide) (by decide) d_lw_edge_9 (fun w9 e9 => ?_)
    have hI9 : lwRel w0 w9 := by rw [e9]; exact ((lwRel.of j1)).out
    refine bg_goto (l := 25) C d_lw_edge_10 (by decide) ?_
    refine bg_iconst C d_lw_edge_25 ?_
    exact bg_iret C d_lw_edge_26 (fun h => by cases h) (Or.inl rfl) (by decide) (by decide) ⟨_, rfl, hI9⟩
  · obtain ⟨rfl, hX⟩ := p1
    rcases hX with rfl | rfl | rfl
    · refine bg_hand (X := 0) (i := 4) C hex (bg_fdHit C tw_330 cx_0 (by decide) (by decide)) (Nat.le_of_ble_eq_true rfl) (Or.inr d_lw_edge_13) ?_
      refine bg_iconst C d_lw_edge_15 ?_
      exact bg_iret C d_lw_edge_16 (fun h => by cases h) (Or.inl rfl) (by decide) (by decide) ⟨_, rfl, (lwRel.of hI)⟩
    · refine bg_hand (X := 1) (i := 4) C hex (bg_fdSkip C tw_330 (by decide +kernel) (by decide) (by decide) (bg_fdSkip C tw_482 (by decide +kernel) (by decide) (by decide) (bg_fdHit C tw_413 cx_1 (by decide) (by decide)))) (Nat.le_of_ble_eq_true rfl) (Or.inr d_lw_edge_21) ?_
      refine bg_iconst C d_lw_edge_23 ?_
      exact bg_iret C d_lw_edge_24 (fun h => by cases h) (Or.inl rfl) (by decide) (by decide) ⟨_, rfl, (lwRel.of hI)⟩
    · refine bg_hand (X := 3) (i := 4) C hex (bg_fdSkip C tw_330 (by decide +kernel) (by decide) (by decide) (bg_fdHit C tw_482 cx_3 (by decide) (by decide))) (Nat.le_of_ble_eq_true rfl) (Or.inr d_lw_edge_17) ?_
      refine bg_iconst C d_lw_edge_19 ?_
      exact bg_iret C d_lw_edge_20 (fun h => by cases h) (Or.inl rfl) (by decide) (by decide) ⟨_, rfl, (lwRel.of hI)⟩
def rm_lw_room : Room := { frames := 7, cells := 1, slots := 6, locals := 103 }
set_option maxRecDepth 20000 in
set_option maxHeartbeats 4000000 in
theorem m_lw_room {G : bgGl} (hG : bgOk G) {w0 : bgW} (hw : bgN w0) {x : Int} (z0 : -2147483648 ≤ x) (z1 : x ≤ 2147483647) : bgM G false 1 6 y_lw_room (.codeWith y_lw_room co_lw_room 3 (some .int) hs_lw_room) rm_lw_room [br 0, bi x] w0 (bgPi (fun v w' => lwRel w0 w' ∧ 0 ≤ v ∧ v ≤ 1 ∧ (v = 0 → 1 ≤ x ∧ x ≤ 50) ∧ (v = 1 → (x < 1 ∨ 50 < x)))) := by
  refine bg_metW hG (by decide +kernel) (bg_cat rfl) (Nat.le_of_ble_eq_true rfl) ?_
  intro K hK hR hex C
  subst hK
  have hI := bgRel.rfl hw
  show bgX K true 0 0 _ w0 0 [some (br 0), some (bi x), none] []
  refine bg_aload_n C d_lw_room_0 rfl rfl ?_
  refine bg_iload_n C d_lw_room_1 rfl rfl ?_
  refine bg_cvt C (m_bg_room hG hI.1 (by omega) (by omega)) (bg_invV C cf_bg rfl tw_562 ti_bg_room ts_bg_room tc_bg_room tw_35 ⟨by decide, by decide⟩ (nA := 1) (by decide +kernel) rfl d_lw_room_2 rfl) rfl (by rw [hR]; exact ⟨by decide, by decide⟩) (by rw [hR]; exact ⟨by decide, by decide⟩) (Nat.le_of_ble_eq_true rfl) rfl (fun w1 p1 => ?_) (fun X1 w1 p1 => ?_)
  · obtain ⟨j1, r1_0, r1_1⟩ := p1
    refine bg_goto (l := 11) C d_lw_room_5 (by decide) ?_
    refine bg_iconst C d_lw_room_11 ?_
    exact bg_iret C d_lw_room_12 (fun h => by cases h) (Or.inl rfl) (by decide) (by decide) ⟨_, rfl, (lwRel.of j1), by omega, by omega, fun _ => ⟨by omega, by omega⟩, fun h => by omega⟩
  · obtain ⟨rfl, hX, s1_0⟩ := p1
    subst hX
    refine bg_hand (X := 1) (i := 2) C hex (bg_fdHit C tw_413 cx_1 (by decide) (by decide)) (Nat.le_of_ble_eq_true rfl) (Or.inl ⟨2, rfl, d_lw_room_8⟩) ?_
    refine bg_iconst C d_lw_room_9 ?_
    exact bg_iret C d_lw_room_10 (fun h => by cases h) (Or.inl rfl) (by decide) (by decide) ⟨_, rfl, (lwRel.of hI), by omega, by omega, fun h => by omega, fun _ => by omega⟩
def rm_lw_run : Room := { frames := 8, cells := 1, slots := 6, locals := 125 }
set_option maxRecDepth 20000 in
set_option maxHeartbeats 4000000 in
theorem m_lw_run {G : bgGl} (hG : bgOk G) {w0 : bgW} (hw : bgN w0) {x : Int} (z0 : -2147483648 ≤ x) (z1 : x ≤ 2147483647) : bgM G false 1 6 y_lw_run (.codeWith y_lw_run co_lw_run 4 (some .int) hs_lw_run) rm_lw_run [br 0, bi x, br 36] w0 (bgPi (fun v w' => lwRel w0 w')) := by
  refine bg_metW hG (by decide +kernel) (bg_cat rfl) (Nat.le_of_ble_eq_true rfl) ?_
  intro K hK hR hex C
  subst hK
  have hI := bgRel.rfl hw
  show bgX K true 0 0 _ w0 0 [some (br 0), some (bi x), some (br 36), none] []
  refine bg_aload_n C d_lw_run_0 rfl rfl ?_
  refine bg_iconst C d_lw_run_1 ?_
  refine bg_aload_n C d_lw_run_2 rfl rfl ?_
  refine bg_iload_n C d_lw_run_3 rfl rfl ?_
  refine bg_cit C (m_bg_run hG hI.1 (by omega) (by omega)) (bg_invV C cf_bg rfl tw_574 ti_bg_run ts_bg_run tc_bg_run tw_35 ⟨by decide, by decide⟩ (nA := 1) (by decide +kernel) rfl d_lw_run_4 rfl) rfl (by rw [hR]; exact ⟨by decide, by decide⟩) (by rw [hR]; exact ⟨by decide, by decide⟩) (Nat.le_of_ble_eq_true rfl) rfl (fun v1 w1 p1 => ?_) (fun X1 w1 p1 => ?_)
  · have j1 := p1
    refine bg_i2l C d_lw_run_7 (fun v8 => ?_)
    refine bg_last C rfl (by decide) (by decide) d_lw_run_8 (fun w9 e9 => ?_)
    have hI9 : lwRel w0 w9 := by rw [e9]; exact ((lwRel.of j1)).out
    refine bg_goto (l := 18) C d_lw_run_9 (by decide) ?_
    refine bg_iconst C d_lw_run_18 ?_
    exact bg_iret C d_lw_run_19 (fun h => by cases h) (Or.inl rfl) (by decide) (by decide) ⟨_, rfl, hI9⟩
  · obtain ⟨rfl, hX⟩ := p1
    rcases hX with rfl | rfl
    · refine bg_hand (X := 0) (i := 3) C hex (bg_fdHit C tw_330 cx_0 (by decide) (by decide)) (Nat.le_of_ble_eq_true rfl) (Or.inl ⟨3, rfl, d_lw_run_12⟩) ?_
      refine bg_iconst C d_lw_run_13 ?_
      exact bg_iret C d_lw_run_14 (fun h => by cases h) (Or.inl rfl) (by decide) (by decide) ⟨_, rfl, (lwRel.of hI)⟩
    · refine bg_hand (X := 1) (i := 3) C hex (bg_fdSkip C tw_330 (by decide +kernel) (by decide) (by decide) (bg_fdHit C tw_413 cx_1 (by decide) (by decide))) (Nat.le_of_ble_eq_true rfl) (Or.inl ⟨3, rfl, d_lw_run_15⟩) ?_
      refine bg_iconst C d_lw_run_16 ?_
      exact bg_iret C d_lw_run_17 (fun h => by cases h) (Or.inl rfl) (by decide) (by decide) ⟨_, rfl, (lwRel.of hI)⟩
def rm_lw_distance : Room := { frames := 9, cells := 1, slots := 6, locals := 145 }
set_option maxRecDepth 20000 in
set_option maxHeartbeats 4000000 in
theorem m_lw_distance {G : bgGl} (hG : bgOk G) {w0 : bgW} (hw : bgN w0) {x : Int} (z0 : -2147483648 ≤ x) (z1 : x ≤ 2147483647) : bgM G false 1 6 y_lw_distance (.codeWith y_lw_distance co_lw_distance 4 (some .int) hs_lw_distance) rm_lw_distance [br 0, bi x, br 36] w0 (bgPi (fun v w' => lwRel w0 w')) := by
  refine bg_metW hG (by decide +kernel) (bg_cat rfl) (Nat.le_of_ble_eq_true rfl) ?_
  intro K hK hR hex C
  subst hK
  have hI := bgRel.rfl hw
  show bgX K true 0 0 _ w0 0 [some (br 0), some (bi x), some (br 36), none] []
  refine bg_aload_n C d_lw_distance_0 rfl rfl ?_
  refine bg_iconst C d_lw_distance_1 ?_
  refine bg_aload_n C d_lw_distance_2 rfl rfl ?_
  refine bg_iload_n C d_lw_distance_3 rfl rfl ?_
  refine bg_cit C (m_bg_distance hG hI.1 (by omega) (by omega)) (bg_invV C cf_bg rfl tw_603 ti_bg_distance ts_bg_distance tc_bg_distance tw_35 ⟨by decide, by decide⟩ (nA := 1) (by decide +kernel) rfl d_lw_distance_4 rfl) rfl (by rw [hR]; exact ⟨by decide, by decide⟩) (by rw [hR]; exact ⟨by decide, by decide⟩) (Nat.le_of_ble_eq_true rfl) rfl (fun v1 w1 p1 => ?_) (fun X1 w1 p1 => ?_)
  · obtain rfl := p1
    refine bg_i2l C d_lw_distance_7 (fun v8 => ?_)
    refine bg_last C rfl (by decide) (by decide) d_lw_distance_8 (fun w9 e9 => ?_)
    have hI9 : lwRel w0 w9 := by rw [e9]; exact ((lwRel.of hI)).out
    refine bg_goto (l := 18) C d_lw_distance_9 (by decide) ?_
    refine bg_iconst C d_lw_distance_18 ?_
    exact bg_iret C d_lw_distance_19 (fun h => by cases h) (Or.inl rfl) (by decide) (by decide) ⟨_, rfl, hI9⟩
  · obtain ⟨rfl, hX⟩ := p1
    rcases hX with rfl | rfl
    · refine bg_hand (X := 0) (i := 3) C hex (bg_fdHit C tw_330 cx_0 (by decide) (by decide)) (Nat.le_of_ble_eq_true rfl) (Or.inl ⟨3, rfl, d_lw_distance_12⟩) ?_
      refine bg_iconst C d_lw_distance_13 ?_
      exact bg_iret C d_lw_distance_14 (fun h => by cases h) (Or.inl rfl) (by decide) (by decide) ⟨_, rfl, (lwRel.of hI)⟩
    · refine bg_hand (X := 1) (i := 3) C hex (bg_fdSkip C tw_330 (by decide +kernel) (by decide) (by decide) (bg_fdHit C tw_413 cx_1 (by decide) (by decide))) (Nat.le_of_ble_eq_true rfl) (Or.inl ⟨3, rfl, d_lw_distance_15⟩) ?_
      refine bg_iconst C d_lw_distance_16 ?_
      exact bg_iret C d_lw_distance_17 (fun h => by cases h) (Or.inl rfl) (by decide) (by decide) ⟨_, rfl, (lwRel.of hI)⟩
def rm_lw_parent : Room := { frames := 9, cells := 1, slots := 6, locals := 145 }
set_option maxRecDepth 20000 in
set_option maxHeartbeats 4000000 in
theorem m_lw_parent {G : bgGl} (hG : bgOk G) {w0 : bgW} (hw : bgN w0) {x : Int} (z0 : -2147483648 ≤ x) (z1 : x ≤ 2147483647) : bgM G false 1 6 y_lw_parent (.codeWith y_lw_parent co_lw_parent 4 (some .int) hs_lw_parent) rm_lw_parent [br 0, bi x, br 36] w0 (bgPi (fun v w' => lwRel w0 w')) := by
  refine bg_metW hG (by decide +kernel) (bg_cat rfl) (Nat.le_of_ble_eq_true rfl) ?_
  intro K hK hR hex C
  subst hK
  have hI := bgRel.rfl hw
  show bgX K true 0 0 _ w0 0 [some (br 0), some (bi x), some (br 36), none] []
  refine bg_aload_n C d_lw_parent_0 rfl rfl ?_
  refine bg_iconst C d_lw_parent_1 ?_
  refine bg_aload_n C d_lw_parent_2 rfl rfl ?_
  refine bg_iload_n C d_lw_parent_3 rfl rfl ?_
  refine bg_cit C (m_bg_parent hG hI.1 (by omega) (by omega)) (bg_invV C cf_bg rfl tw_615 ti_bg_parent ts_bg_parent tc_bg_parent tw_35 ⟨by decide, by decide⟩ (nA := 1) (by decide +kernel) rfl d_lw_parent_4 rfl) rfl (by rw [hR]; exact ⟨by decide, by decide⟩) (by rw [hR]; exact ⟨by decide, by decide⟩) (Nat.le_of_ble_eq_true rfl) rfl (fun v1 w1 p1 => ?_) (fun X1 w1 p1 => ?_)
  · obtain rfl := p1
    refine bg_i2l C d_lw_parent_7 (fun v8 => ?_)
    refine bg_last C rfl (by decide) (by decide) d_lw_parent_8 (fun w9 e9 => ?_)
    have hI9 : lwRel w0 w9 := by rw [e9]; exact ((lwRel.of hI)).out
    refine bg_goto (l := 18) C d_lw_parent_9 (by decide) ?_
    refine bg_iconst C d_lw_parent_18 ?_
    exact bg_iret C d_lw_parent_19 (fun h => by cases h) (Or.inl rfl) (by decide) (by decide) ⟨_, rfl, hI9⟩
  · obtain ⟨rfl, hX⟩ := p1
    rcases hX with rfl | rfl
    · refine bg_hand (X := 0) (i := 3) C hex (bg_fdHit C tw_330 cx_0 (by decide) (by decide)) (Nat.le_of_ble_eq_true rfl) (Or.inl ⟨3, rfl, d_lw_parent_12⟩) ?_
      refine bg_iconst C d_lw_parent_13 ?_
      exact bg_iret C d_lw_parent_14 (fun h => by cases h) (Or.inl rfl) (by decide) (by decide) ⟨_, rfl, (lwRel.of hI)⟩
    · refine bg_hand (X := 1) (i := 3) C hex (bg_fdSkip C tw_330 (by decide +kernel) (by decide) (by decide) (bg_fdHit C tw_413 cx_1 (by decide) (by decide))) (Nat.le_of_ble_eq_true rfl) (Or.inl ⟨3, rfl, d_lw_parent_15⟩) ?_
      refine bg_iconst C d_lw_parent_16 ?_
      exact bg_iret C d_lw_parent_17 (fun h => by cases h) (Or.inl rfl) (by decide) (by decide) ⟨_, rfl, (lwRel.of hI)⟩
def rm_lw_way : Room := { frames := 9, cells := 1, slots := 6, locals := 147 }
set_option maxRecDepth 20000 in
set_option maxHeartbeats 4000000 in
theorem m_lw_way {G : bgGl} (hG : bgOk G) {w0 : bgW} (hw : bgN w0) {x k : Int} (z0 : -2147483648 ≤ x) (z1 : x ≤ 2147483647) (z2 : -2147483648 ≤ k) (z3 : k ≤ 2147483647) : bgM G false 1 6 y_lw_way (.codeWith y_lw_way co_lw_way 5 (some .int) hs_lw_way) rm_lw_way [br 0, bi x, bi k, br 36] w0 (bgPi (fun v w' => lwRel w0 w')) := by
  refine bg_metW hG (by decide +kernel) (bg_cat rfl) (Nat.le_of_ble_eq_true rfl) ?_
  intro K hK hR hex C
  subst hK
  have hI := bgRel.rfl hw
  show bgX K true 0 0 _ w0 0 [some (br 0), some (bi x), some (bi k), some (br 36), none] []
  refine bg_aload_n C d_lw_way_0 rfl rfl ?_
  refine bg_iconst C d_lw_way_1 ?_
  refine bg_aload_n C d_lw_way_2 rfl rfl ?_
  refine bg_iload_n C d_lw_way_3 rfl rfl ?_
  refine bg_iload_n C d_lw_way_4 rfl rfl ?_
  refine bg_cit C (m_bg_way hG hI.1 (by omega) (by omega) (by omega) (by omega)) (bg_invV C cf_bg rfl tw_623 ti_bg_way ts_bg_way tc_bg_way tw_35 ⟨by decide, by decide⟩ (nA := 2) (by decide +kernel) rfl d_lw_way_5 rfl) rfl (by rw [hR]; exact ⟨by decide, by decide⟩) (by rw [hR]; exact ⟨by decide, by decide⟩) (Nat.le_of_ble_eq_true rfl) rfl (fun v1 w1 p1 => ?_) (fun X1 w1 p1 => ?_)
  · obtain rfl := p1
    refine bg_i2l C d_lw_way_8 (fun v8 => ?_)
    refine bg_last C rfl (by decide) (by decide) d_lw_way_9 (fun w9 e9 => ?_)
    have hI9 : lwRel w0 w9 := by rw [e9]; exact ((lwRel.of hI)).out
    refine bg_goto (l := 25) C d_lw_way_10 (by decide) ?_
    refine bg_iconst C d_lw_way_25 ?_
    exact bg_iret C d_lw_way_26 (fun h => by cases h) (Or.inl rfl) (by decide) (by decide) ⟨_, rfl, hI9⟩
  · obtain ⟨rfl, hX⟩ := p1
    rcases hX with rfl | rfl | rfl
    · refine bg_hand (X := 0) (i := 4) C hex (bg_fdHit C tw_330 cx_0 (by decide) (by decide)) (Nat.le_of_ble_eq_true rfl) (Or.inr d_lw_way_13) ?_
      refine bg_iconst C d_lw_way_15 ?_
      exact bg_iret C d_lw_way_16 (fun h => by cases h) (Or.inl rfl) (by decide) (by decide) ⟨_, rfl, (lwRel.of hI)⟩
    · refine bg_hand (X := 1) (i := 4) C hex (bg_fdSkip C tw_330 (by decide +kernel) (by decide) (by decide) (bg_fdHit C tw_413 cx_1 (by decide) (by decide))) (Nat.le_of_ble_eq_true rfl) (Or.inr d_lw_way_17) ?_
      refine bg_iconst C d_lw_way_19 ?_
      exact bg_iret C d_lw_way_20 (fun h => by cases h) (Or.inl rfl) (by decide) (by decide) ⟨_, rfl, (lwRel.of hI)⟩
    · refine bg_hand (X := 4) (i := 4) C hex (bg_fdSkip C tw_330 (by decide +kernel) (by decide) (by decide) (bg_fdSkip C tw_413 (by decide +kernel) (by decide) (by decide) (bg_fdHit C tw_622 cx_4 (by decide) (by decide)))) (Nat.le_of_ble_eq_true rfl) (Or.inr d_lw_way_21) ?_
      refine bg_iconst C d_lw_way_23 ?_
      exact bg_iret C d_lw_way_24 (fun h => by cases h) (Or.inl rfl) (by decide) (by decide) ⟨_, rfl, (lwRel.of hI)⟩
def rm_lw_atHand : Room := { frames := 7, cells := 1, slots := 6, locals := 103 }
set_option maxRecDepth 20000 in
set_option maxHeartbeats 4000000 in
theorem m_lw_atHand {G : bgGl} (hG : bgOk G) {w0 : bgW} (hw : bgN w0) {k : Int} (z0 : -2147483648 ≤ k) (z1 : k ≤ 2147483647) : bgM G false 1 6 y_lw_atHand (.codeWith y_lw_atHand co_lw_atHand 4 (some .int) hs_lw_atHand) rm_lw_atHand [br 0, bi k, br 36] w0 (bgPi (fun v w' => lwRel w0 w')) := by
  refine bg_metW hG (by decide +kernel) (bg_cat rfl) (Nat.le_of_ble_eq_true rfl) ?_
  intro K hK hR hex C
  subst hK
  have hI := bgRel.rfl hw
  show bgX K true 0 0 _ w0 0 [some (br 0), some (bi k), some (br 36), none] []
  refine bg_aload_n C d_lw_atHand_0 rfl rfl ?_
  refine bg_iconst C d_lw_atHand_1 ?_
  refine bg_aload_n C d_lw_atHand_2 rfl rfl ?_
  refine bg_iload_n C d_lw_atHand_3 rfl rfl ?_
  refine bg_cit C (m_bg_atHand hG hI.1 (by omega) (by omega)) (bg_invV C cf_bg rfl tw_654 ti_bg_atHand ts_bg_atHand tc_bg_atHand tw_35 ⟨by decide, by decide⟩ (nA := 1) (by decide +kernel) rfl d_lw_atHand_4 rfl) rfl (by rw [hR]; exact ⟨by decide, by decide⟩) (by rw [hR]; exact ⟨by decide, by decide⟩) (Nat.le_of_ble_eq_true rfl) rfl (fun v1 w1 p1 => ?_) (fun X1 w1 p1 => ?_)
  · obtain rfl := p1
    refine bg_i2l C d_lw_atHand_7 (fun v8 => ?_)
    refine bg_last C rfl (by decide) (by decide) d_lw_atHand_8 (fun w9 e9 => ?_)
    have hI9 : lwRel w0 w9 := by rw [e9]; exact ((lwRel.of hI)).out
    refine bg_goto (l := 15) C d_lw_atHand_9 (by decide) ?_
    refine bg_iconst C d_lw_atHand_15 ?_
    exact bg_iret C d_lw_atHand_16 (fun h => by cases h) (Or.inl rfl) (by decide) (by decide) ⟨_, rfl, hI9⟩
  · obtain ⟨rfl, hX⟩ := p1
    subst hX
    refine bg_hand (X := 4) (i := 3) C hex (bg_fdHit C tw_622 cx_4 (by decide) (by decide)) (Nat.le_of_ble_eq_true rfl) (Or.inl ⟨3, rfl, d_lw_atHand_12⟩) ?_
    refine bg_iconst C d_lw_atHand_13 ?_
    exact bg_iret C d_lw_atHand_14 (fun h => by cases h) (Or.inl rfl) (by decide) (by decide) ⟨_, rfl, (lwRel.of hI)⟩
def rm_lw_count : Room := { frames := 7, cells := 1, slots := 6, locals := 103 }
set_option maxRecDepth 20000 in
set_option maxHeartbeats 4000000 in
theorem m_lw_count {G : bgGl} (hG : bgOk G) {w0 : bgW} (hw : bgN w0) {k : Int} (z0 : -2147483648 ≤ k) (z1 : k ≤ 2147483647) : bgM G false 1 6 y_lw_count (.codeWith y_lw_count co_lw_count 4 (some .int) hs_lw_count) rm_lw_count [br 0, bi k, br 36] w0 (bgPi (fun v w' => lwRel w0 w')) := by
  refine bg_metW hG (by decide +kernel) (bg_cat rfl) (Nat.le_of_ble_eq_true rfl) ?_
  intro K hK hR hex C
  subst hK
  have hI := bgRel.rfl hw
  show bgX K true 0 0 _ w0 0 [some (br 0), some (bi k), some (br 36), none] []
  refine bg_aload_n C d_lw_count_0 rfl rfl ?_
  refine bg_iconst C d_lw_count_1 ?_
  refine bg_aload_n C d_lw_count_2 rfl rfl ?_
  refine bg_iload_n C d_lw_count_3 rfl rfl ?_
  refine bg_cit C (m_bg_count hG hI.1 (by omega) (by omega)) (bg_invV C cf_bg rfl tw_662 ti_bg_count ts_bg_count tc_bg_count tw_35 ⟨by decide, by decide⟩ (nA := 1) (by decide +kernel) rfl d_lw_count_4 rfl) rfl (by rw [hR]; exact ⟨by decide, by decide⟩) (by rw [hR]; exact ⟨by decide, by decide⟩) (Nat.le_of_ble_eq_true rfl) rfl (fun v1 w1 p1 => ?_) (fun X1 w1 p1 => ?_)
  · obtain rfl := p1
    refine bg_i2l C d_lw_count_7 (fun v8 => ?_)
    refine bg_last C rfl (by decide) (by decide) d_lw_count_8 (fun w9 e9 => ?_)
    have hI9 : lwRel w0 w9 := by rw [e9]; exact ((lwRel.of hI)).out
    refine bg_goto (l := 15) C d_lw_count_9 (by decide) ?_
    refine bg_iconst C d_lw_count_15 ?_
    exact bg_iret C d_lw_count_16 (fun h => by cases h) (Or.inl rfl) (by decide) (by decide) ⟨_, rfl, hI9⟩
  · obtain ⟨rfl, hX⟩ := p1
    subst hX
    refine bg_hand (X := 1) (i := 3) C hex (bg_fdHit C tw_413 cx_1 (by decide) (by decide)) (Nat.le_of_ble_eq_true rfl) (Or.inl ⟨3, rfl, d_lw_count_12⟩) ?_
    refine bg_iconst C d_lw_count_13 ?_
    exact bg_iret C d_lw_count_14 (fun h => by cases h) (Or.inl rfl) (by decide) (by decide) ⟨_, rfl, (lwRel.of hI)⟩
