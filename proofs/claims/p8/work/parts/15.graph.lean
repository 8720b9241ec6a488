def rm_bg_closeTransaction : Room := { frames := 0, cells := 0, slots := 0, locals := 0 }
set_option maxRecDepth 20000 in
set_option maxHeartbeats 4000000 in
theorem m_bg_closeTransaction {G : bgGl} (hG : bgOk G) {w0 : bgW} (hw : bgN w0) : bgM G false 0 0 y_bg_closeTransaction (.code y_bg_closeTransaction co_bg_closeTransaction 1 none) rm_bg_closeTransaction [br 0] w0 (bgPv (fun w' => bgRel w0 w')) := by
  refine bg_met hG (by decide +kernel) (bg_cat rfl) (Nat.le_of_ble_eq_true rfl) ?_
  intro K hK hR hex C
  subst hK
  have hI := bgRel.rfl hw
  show bgX K true 0 0 _ w0 0 [some (br 0)] []
  refine bg_aload_n C d_bg_closeTransaction_0 rfl rfl ?_
  refine bg_iconst C d_bg_closeTransaction_1 ?_
  refine bq_puti C cf_bg hI 7 7 rfl rfl (by decide) rfl (by decide) rfl (by omega) (by omega) rfl (Or.inr ⟨rfl, by omega⟩) tw_211 d_bg_closeTransaction_2 (fun w1 hI1 e1 => ?_)
  refine bg_aload_n C d_bg_closeTransaction_5 rfl rfl ?_
  refine bg_getr (i := 4) C cf_bg rfl (by decide) rfl tw_208 d_bg_closeTransaction_6 ?_
  refine bg_iconst C d_bg_closeTransaction_9 ?_
  refine bq_puti C cf_op hI1 4 4 rfl rfl (by decide) rfl (by decide) rfl (by omega) (by omega) rfl (Or.inl rfl) tw_118 d_bg_closeTransaction_10 (fun w2 hI2 e2 => ?_)
  exact bg_ret C d_bg_closeTransaction_13 (fun h => by cases h) rfl (Nat.zero_le _) (Nat.zero_le _) ⟨rfl, hI2⟩
def rm_bg_startAnew : Room := { frames := 1, cells := 0, slots := 0, locals := 20 }
set_option maxRecDepth 20000 in
set_option maxHeartbeats 4000000 in
theorem m_bg_startAnew {G : bgGl} (hG : bgOk G) {w0 : bgW} (hw : bgN w0) : bgM G false 0 0 y_bg_startAnew (.code y_bg_startAnew co_bg_startAnew 1 none) rm_bg_startAnew [br 0] w0 (bgPv (fun w' => bgRel w0 w')) := by
  refine bg_met hG (by decide +kernel) (bg_cat rfl) (Nat.le_of_ble_eq_true rfl) ?_
  intro K hK hR hex C
  subst hK
  have hI := bgRel.rfl hw
  show bgX K true 0 0 _ w0 0 [some (br 0)] []
  refine bg_aload_n C d_bg_startAnew_0 rfl rfl ?_
  refine bg_cv C (m_bg_closeTransaction hG hI.1) (bg_invV C cf_bg rfl tw_240 ti_bg_closeTransaction ts_bg_closeTransaction tc_bg_closeTransaction tw_35 ⟨by decide, by decide⟩ (nA := 0) (by decide +kernel) rfl d_bg_startAnew_1 rfl) rfl (by rw [hR]; exact ⟨by decide, by decide⟩) (by rw [hR]; exact ⟨by decide, by decide⟩) (Nat.le_of_ble_eq_true rfl) rfl (fun w1 p1 => ?_)
  have j1 := p1
  have hI1 := hI.trans j1
  refine bg_aload_n C d_bg_startAnew_4 rfl rfl ?_
  refine bg_getr (i := 5) C cf_bg rfl (by decide) rfl tw_209 d_bg_startAnew_5 ?_
  refine bg_cv C (m_wy_forget hG hI1.1) (bg_invV C cf_wy rfl tw_244 ti_wy_forget ts_wy_forget tc_wy_forget tw_41 ⟨by decide, by decide⟩ (nA := 0) (by decide +kernel) rfl d_bg_startAnew_8 rfl) rfl (by rw [hR]; exact ⟨by decide, by decide⟩) (by rw [hR]; exact ⟨by decide, by decide⟩) (Nat.le_of_ble_eq_true rfl) rfl (fun w2 p2 => ?_)
  have j2 := p2
  have hI2 := hI1.trans j2
  refine bg_aload_n C d_bg_startAnew_11 rfl rfl ?_
  refine bg_getr (i := 1) C cf_bg rfl (by decide) rfl tw_205 d_bg_startAnew_12 ?_
  refine bg_iconst C d_bg_startAnew_15 ?_
  refine bq_puti C cf_hd hI2 1 1 rfl rfl (by decide) rfl (by decide) rfl (by omega) (by omega) rfl (Or.inl rfl) tw_86 d_bg_startAnew_16 (fun w3 hI3 e3 => ?_)
  exact bg_ret C d_bg_startAnew_19 (fun h => by cases h) rfl (Nat.zero_le _) (Nat.zero_le _) ⟨rfl, hI3⟩
def rm_bg_settleState : Room := { frames := 0, cells := 0, slots := 0, locals := 0 }
set_option maxRecDepth 20000 in
set_option maxHeartbeats 4000000 in
theorem m_bg_settleState {G : bgGl} (hG : bgOk G) {w0 : bgW} (hw : bgN w0) {x : Int} (z0 : 0 ≤ x) (z1 : x ≤ 1) : bgM G false 0 0 y_bg_settleState (.code y_bg_settleState co_bg_settleState 2 none) rm_bg_settleState [br 0, bi x] w0 (bgPv (fun w' => bgRel w0 w')) := by
  refine bg_met hG (by decide +kernel) (bg_cat rfl) (Nat.le_of_ble_eq_true rfl) ?_
  intro K hK hR hex C
  subst hK
  have hI := bgRel.rfl hw
  show bgX K true 0 0 _ w0 0 [some (br 0), some (bi x)] []
  refine bg_aload_n C d_bg_settleState_0 rfl rfl ?_
  refine bg_iload_n C d_bg_settleState_1 rfl rfl ?_
  refine bq_puti C cf_bg hI 6 6 rfl rfl (by decide) rfl (by decide) rfl (by omega) (by omega) rfl (Or.inr ⟨rfl, by omega⟩) tw_210 d_bg_settleState_2 (fun w1 hI1 e1 => ?_)
  refine bg_iload_n C d_bg_settleState_5 rfl rfl ?_
  refine bg_if_eq (tgt := 20) C d_bg_settleState_6 (by decide) ⟨by omega, by omega⟩ (fun h2 => ?_) (fun h2 => ?_)
  · exact bg_ret C d_bg_settleState_20 (fun h => by cases h) rfl (Nat.zero_le _) (Nat.zero_le _) ⟨rfl, hI1⟩
  · refine bg_aload_n C d_bg_settleState_9 rfl rfl ?_
    refine bg_aload_n C d_bg_settleState_10 rfl rfl ?_
    refine bg_getr (i := 2) C cf_bg rfl (by decide) rfl tw_206 d_bg_settleState_11 ?_
    refine bq_get0 C cf_so 5 5 rfl rfl (by decide) rfl tw_164 d_bg_settleState_14 (fun v3 e3 => ?_)
    refine bq_put0 C cf_bg hI1 8 8 rfl rfl (by decide) rfl (by decide) rfl rfl rfl tw_212 d_bg_settleState_17 (fun w4 hI4 e4 => ?_)
    exact bg_ret C d_bg_settleState_20 (fun h => by cases h) rfl (Nat.zero_le _) (Nat.zero_le _) ⟨rfl, hI4⟩
def rm_bg_operate : Room := { frames := 1, cells := 0, slots := 0, locals := 24 }
set_option maxRecDepth 20000 in
set_option maxHeartbeats 4000000 in
theorem m_bg_operate {G : bgGl} (hG : bgOk G) {w0 : bgW} (hw : bgN w0) {e f t x : Int} (z0 : -1 ≤ e) (z1 : e ≤ 199) (z2 : 0 ≤ f) (z3 : f ≤ 63) (z4 : 0 ≤ t) (z5 : t ≤ 63) : bgM G false 0 0 y_bg_operate (.code y_bg_operate co_bg_operate 5 none) rm_bg_operate [br 0, bi e, bi f, bi t, bi x] w0 (bgPv (fun w' => bgRel w0 w')) := by
  refine bg_met hG (by decide +kernel) (bg_cat rfl) (Nat.le_of_ble_eq_true rfl) ?_
  intro K hK hR hex C
  subst hK
  have hI := bgRel.rfl hw
  show bgX K true 0 0 _ w0 0 [some (br 0), some (bi e), some (bi f), some (bi t), some (bi x)] []
  refine bg_aload_n C d_bg_operate_0 rfl rfl ?_
  refine bg_getr (i := 4) C cf_bg rfl (by decide) rfl tw_208 d_bg_operate_1 ?_
  refine bg_iload_n C d_bg_operate_4 rfl rfl ?_
  refine bg_iload_n C d_bg_operate_5 rfl rfl ?_
  refine bg_iload_n C d_bg_operate_6 rfl rfl ?_
  refine bg_iload C d_bg_operate_7 rfl ?_
  refine bg_cv C (m_op_append hG hI.1 (by omega) (by omega) (by omega) (by omega) (by omega) (by omega)) (bg_invV C cf_op rfl tw_474 ti_op_append ts_op_append tc_op_append tw_39 ⟨by decide, by decide⟩ (nA := 4) (by decide +kernel) rfl d_bg_operate_9 rfl) rfl (by rw [hR]; exact ⟨by decide, by decide⟩) (by rw [hR]; exact ⟨by decide, by decide⟩) (Nat.le_of_ble_eq_true rfl) rfl (fun w1 p1 => ?_)
  have j1 := p1
  have hI1 := hI.trans j1
  refine bg_aload_n C d_bg_operate_12 rfl rfl ?_
  refine bg_getr (i := 3) C cf_bg rfl (by decide) rfl tw_207 d_bg_operate_13 ?_
  refine bg_iload_n C d_bg_operate_16 rfl rfl ?_
  refine bg_iload_n C d_bg_operate_17 rfl rfl ?_
  refine bg_iload_n C d_bg_operate_18 rfl rfl ?_
  refine bg_iload C d_bg_operate_19 rfl ?_
  refine bg_cv C (m_et_put_vs hG hI1.1 (by omega) (by omega) (by omega) (by omega) (by omega) (by omega)) (bg_invV C cf_et rfl tw_478 ti_et_put ts_et_put tc_et_put tw_40 ⟨by decide, by decide⟩ (nA := 4) (by decide +kernel) rfl d_bg_operate_21 rfl) rfl (by rw [hR]; exact ⟨by decide, by decide⟩) (by rw [hR]; exact ⟨by decide, by decide⟩) (Nat.le_of_ble_eq_true rfl) rfl (fun w2 p2 => ?_)
  have j2 := p2
  have hI2 := hI1.trans j2
  refine bg_aload_n C d_bg_operate_24 rfl rfl ?_
  refine bg_getr (i := 5) C cf_bg rfl (by decide) rfl tw_209 d_bg_operate_25 ?_
  refine bg_cv C (m_wy_forget hG hI2.1) (bg_invV C cf_wy rfl tw_244 ti_wy_forget ts_wy_forget tc_wy_forget tw_41 ⟨by decide, by decide⟩ (nA := 0) (by decide +kernel) rfl d_bg_operate_28 rfl) rfl (by rw [hR]; exact ⟨by decide, by decide⟩) (by rw [hR]; exact ⟨by decide, by decide⟩) (Nat.le_of_ble_eq_true rfl) rfl (fun w3 p3 => ?_)
  have j3 := p3
  have hI3 := hI2.trans j3
  exact bg_ret C d_bg_operate_31 (fun h => by cases h) rfl (Nat.zero_le _) (Nat.zero_le _) ⟨rfl, hI3⟩
def rm_bg_mustBeUp : Room := { frames := 6, cells := 1, slots := 6, locals := 82 }
set_option maxRecDepth 20000 in
set_option maxHeartbeats 4000000 in
theorem m_bg_mustBeUp {G : bgGl} (hG : bgOk G) {w0 : bgW} (hw : bgN w0) : bgM G true 0 0 y_bg_mustBeUp (.code y_bg_mustBeUp co_bg_mustBeUp 1 none) rm_bg_mustBeUp [br 0] w0 (bgPvt (fun w' => w0 = w') (fun X w' => w0 = w' ∧ (X = 0))) := by
  refine bg_met hG (by decide +kernel) (bg_cat rfl) (Nat.le_of_ble_eq_true rfl) ?_
  intro K hK hR hex C
  subst hK
  have hI := bgRel.rfl hw
  show bgX K true 0 0 _ w0 0 [some (br 0)] []
  refine bg_aload_n C d_bg_mustBeUp_0 rfl rfl ?_
  refine bq_geti C cf_bg hI 6 6 rfl rfl (by decide) rfl (by decide) rfl tw_210 d_bg_mustBeUp_1 (fun v1 e1 a1 b1 => ?_)
  refine bg_if_ne (tgt := 17) C d_bg_mustBeUp_4 (by decide) ⟨by omega, by omega⟩ (fun h2 => ?_) (fun h2 => ?_)
  · exact bg_ret C d_bg_mustBeUp_17 (fun _ => rfl) rfl (Nat.zero_le _) (Nat.zero_le _) (Or.inl ⟨rfl, rfl⟩)
  · exact bg_throw (X := 0) (names := xn) C hex rfl d_bg_mustBeUp_7 d_bg_mustBeUp_10 d_bg_mustBeUp_11 d_bg_mustBeUp_13 d_bg_mustBeUp_16 tw_339 xi_0 xj_0 tl_382 xa_0 (by decide +kernel) xf (by rw [hR]; decide) (by rw [hR]; decide) rfl (by rw [hR]; decide) (by rw [hR]; decide) (by decide) (by decide) (Or.inr ⟨_, rfl, rfl, by omega⟩)
def rm_bg_mustBeOpen : Room := { frames := 7, cells := 1, slots := 6, locals := 102 }
set_option maxRecDepth 20000 in
set_option maxHeartbeats 4000000 in
theorem m_bg_mustBeOpen {G : bgGl} (hG : bgOk G) {w0 : bgW} (hw : bgN w0) : bgM G true 0 0 y_bg_mustBeOpen (.code y_bg_mustBeOpen co_bg_mustBeOpen 1 none) rm_bg_mustBeOpen [br 0] w0 (bgPvt (fun w' => w0 = w') (fun X w' => w0 = w' ∧ (X = 0))) := by
  refine bg_met hG (by decide +kernel) (bg_cat rfl) (Nat.le_of_ble_eq_true rfl) ?_
  intro K hK hR hex C
  subst hK
  have hI := bgRel.rfl hw
  show bgX K true 0 0 _ w0 0 [some (br 0)] []
  refine bg_aload_n C d_bg_mustBeOpen_0 rfl rfl ?_
  refine bg_cvt C (m_bg_mustBeUp hG hI.1) (bg_invV C cf_bg rfl tw_335 ti_bg_mustBeUp ts_bg_mustBeUp tc_bg_mustBeUp tw_35 ⟨by decide, by decide⟩ (nA := 0) (by decide +kernel) rfl d_bg_mustBeOpen_1 rfl) rfl (by rw [hR]; exact ⟨by decide, by decide⟩) (by rw [hR]; exact ⟨by decide, by decide⟩) (Nat.le_of_ble_eq_true rfl) rfl (fun w1 p1 => ?_) (fun X1 w1 p1 => bg_thru C (fun _ => rfl) hex (by decide) (by decide) ?_)
  · obtain rfl := p1
    refine bg_aload_n C d_bg_mustBeOpen_4 rfl rfl ?_
    refine bq_geti C cf_bg hI 7 7 rfl rfl (by decide) rfl (by decide) rfl tw_211 d_bg_mustBeOpen_5 (fun v2 e2 a2 b2 => ?_)
    refine bg_if_ne (tgt := 21) C d_bg_mustBeOpen_8 (by decide) ⟨by omega, by omega⟩ (fun h3 => ?_) (fun h3 => ?_)
    · exact bg_ret C d_bg_mustBeOpen_21 (fun _ => rfl) rfl (Nat.zero_le _) (Nat.zero_le _) (Or.inl ⟨rfl, rfl⟩)
    · exact bg_throw (X := 0) (names := xn) C hex rfl d_bg_mustBeOpen_11 d_bg_mustBeOpen_14 d_bg_mustBeOpen_15 d_bg_mustBeOpen_17 d_bg_mustBeOpen_20 tw_339 xi_0 xj_0 tl_423 xa_0 (by decide +kernel) xf (by rw [hR]; decide) (by rw [hR]; decide) rfl (by rw [hR]; decide) (by rw [hR]; decide) (by decide) (by decide) (Or.inr ⟨_, rfl, rfl, by omega⟩)
  · exact Or.inr ⟨_, rfl, p1.1, by have := p1.2; omega⟩
def rm_bg_mustBeVertex : Room := { frames := 6, cells := 1, slots := 6, locals := 82 }
set_option maxRecDepth 20000 in
set_option maxHeartbeats 4000000 in
theorem m_bg_mustBeVertex {G : bgGl} (hG : bgOk G) {w0 : bgW} (hw : bgN w0) {x : Int} (z0 : -2147483648 ≤ x) (z1 : x ≤ 2147483647) : bgM G true 0 0 y_bg_mustBeVertex (.code y_bg_mustBeVertex co_bg_mustBeVertex 2 none) rm_bg_mustBeVertex [br 0, bi x] w0 (bgPvt (fun w' => w0 = w' ∧ 0 ≤ x ∧ x ≤ 63) (fun X w' => w0 = w' ∧ (X = 1))) := by
  refine bg_met hG (by decide +kernel) (bg_cat rfl) (Nat.le_of_ble_eq_true rfl) ?_
  intro K hK hR hex C
  subst hK
  have hI := bgRel.rfl hw
  show bgX K true 0 0 _ w0 0 [some (br 0), some (bi x)] []
  refine bg_iload_n C d_bg_mustBeVertex_0 rfl rfl ?_
  refine bg_if_lt (tgt := 10) C d_bg_mustBeVertex_1 (by decide) ⟨by omega, by omega⟩ (fun h1 => ?_) (fun h1 => ?_)
  · exact bg_throw (X := 1) (names := xn) C hex rfl d_bg_mustBeVertex_10 d_bg_mustBeVertex_13 d_bg_mustBeVertex_14 d_bg_mustBeVertex_16 d_bg_mustBeVertex_19 tw_428 xi_1 xj_1 tl_437 xa_1 (by decide +kernel) xf (by rw [hR]; decide) (by rw [hR]; decide) rfl (by rw [hR]; decide) (by rw [hR]; decide) (by decide) (by decide) (Or.inr ⟨_, rfl, rfl, by omega⟩)
  · refine bg_iload_n C d_bg_mustBeVertex_4 rfl rfl ?_
    refine bg_bipush C d_bg_mustBeVertex_5 (by decide +kernel) ?_
    refine bg_icmp_lt (tgt := 20) C d_bg_mustBeVertex_7 (by decide) ⟨by omega, by omega⟩ ⟨by omega, by omega⟩ (fun h2 => ?_) (fun h2 => ?_)
    · exact bg_ret C d_bg_mustBeVertex_20 (fun _ => rfl) rfl (Nat.zero_le _) (Nat.zero_le _) (Or.inl ⟨rfl, rfl, by omega, by omega⟩)
    · exact bg_throw (X := 1) (names := xn) C hex rfl d_bg_mustBeVertex_10 d_bg_mustBeVertex_13 d_bg_mustBeVertex_14 d_bg_mustBeVertex_16 d_bg_mustBeVertex_19 tw_428 xi_1 xj_1 tl_437 xa_1 (by decide +kernel) xf (by rw [hR]; decide) (by rw [hR]; decide) rfl (by rw [hR]; decide) (by rw [hR]; decide) (by decide) (by decide) (Or.inr ⟨_, rfl, rfl, by omega⟩)
def rm_bg_mustBeVisible : Room := { frames := 6, cells := 1, slots := 6, locals := 82 }
set_option maxRecDepth 20000 in
set_option maxHeartbeats 4000000 in
theorem m_bg_mustBeVisible {G : bgGl} (hG : bgOk G) {w0 : bgW} (hw : bgN w0) {e : Int} (z0 : -2147483648 ≤ e) (z1 : e ≤ 2147483647) : bgM G true 0 0 y_bg_mustBeVisible (.code y_bg_mustBeVisible co_bg_mustBeVisible 2 none) rm_bg_mustBeVisible [br 0, bi e] w0 (bgPvt (fun w' => w0 = w' ∧ 0 ≤ e ∧ e ≤ 199) (fun X w' => w0 = w' ∧ (X = 3))) := by
  refine bg_met hG (by decide +kernel) (bg_cat rfl) (Nat.le_of_ble_eq_true rfl) ?_
  intro K hK hR hex C
  subst hK
  have hI := bgRel.rfl hw
  show bgX K true 0 0 _ w0 0 [some (br 0), some (bi e)] []
  refine bg_aload_n C d_bg_mustBeVisible_0 rfl rfl ?_
  refine bg_getr (i := 3) C cf_bg rfl (by decide) rfl tw_207 d_bg_mustBeVisible_1 ?_
  refine bg_iload_n C d_bg_mustBeVisible_4 rfl rfl ?_
  refine bg_ci C (m_et_has hG hI.1 (by omega) (by omega)) (bg_invV C cf_et rfl tw_491 ti_et_has ts_et_has tc_et_has tw_40 ⟨by decide, by decide⟩ (nA := 1) (by decide +kernel) rfl d_bg_mustBeVisible_5 rfl) rfl (by rw [hR]; exact ⟨by decide, by decide⟩) (by rw [hR]; exact ⟨by decide, by decide⟩) (Nat.le_of_ble_eq_true rfl) rfl (fun v1 w1 p1 => ?_)
  obtain ⟨rfl, r1_0, r1_1, r1_2⟩ := p1
  refine bg_if_ne (tgt := 21) C d_bg_mustBeVisible_8 (by decide) ⟨by omega, by omega⟩ (fun h2 => ?_) (fun h2 => ?_)
  · exact bg_ret C d_bg_mustBeVisible_21 (fun _ => rfl) rfl (Nat.zero_le _) (Nat.zero_le _) (Or.inl ⟨rfl, rfl, by omega, by omega⟩)
  · exact bg_throwN (X := 3) (names := xm) C hex rfl d_bg_mustBeVisible_11 d_bg_mustBeVisible_14 d_bg_mustBeVisible_15 d_bg_mustBeVisible_17 d_bg_mustBeVisible_20 tw_495 xi_3 xj_3 tl_504 xa_3 xe_0 xe_1 xe_2 xe_5 (by decide +kernel) (by decide +kernel) xg (by rw [hR]; decide) (by rw [hR]; decide) rfl (by rw [hR]; decide) (by rw [hR]; decide) (by decide) (by decide) (Or.inr ⟨_, rfl, rfl, by omega⟩)
def rm_bg_mustHaveRoomForOperation : Room := { frames := 6, cells := 1, slots := 6, locals := 82 }
set_option maxRecDepth 20000 in
set_option maxHeartbeats 4000000 in
theorem m_bg_mustHaveRoomForOperation {G : bgGl} (hG : bgOk G) {w0 : bgW} (hw : bgN w0) : bgM G true 0 0 y_bg_mustHaveRoomForOperation (.code y_bg_mustHaveRoomForOperation co_bg_mustHaveRoomForOperation 1 none) rm_bg_mustHaveRoomForOperation [br 0] w0 (bgPvt (fun w' => w0 = w') (fun X w' => w0 = w' ∧ (X = 2))) := by
  refine bg_met hG (by decide +kernel) (bg_cat rfl) (Nat.le_of_ble_eq_true rfl) ?_
  intro K hK hR hex C
  subst hK
  have hI := bgRel.rfl hw
  show bgX K true 0 0 _ w0 0 [some (br 0)] []
  refine bg_aload_n C d_bg_mustHaveRoomForOperation_0 rfl rfl ?_
  refine bg_getr (i := 4) C cf_bg rfl (by decide) rfl tw_208 d_bg_mustHaveRoomForOperation_1 ?_
  refine bq_geti C cf_op hI 4 4 rfl rfl (by decide) rfl (by decide) rfl tw_118 d_bg_mustHaveRoomForOperation_4 (fun v1 e1 a1 b1 => ?_)
  refine bg_bipush C d_bg_mustHaveRoomForOperation_7 (by decide +kernel) ?_
  refine bg_icmp_ne (tgt := 22) C d_bg_mustHaveRoomForOperation_9 (by decide) ⟨by omega, by omega⟩ ⟨by omega, by omega⟩ (fun h2 => ?_) (fun h2 => ?_)
  · exact bg_ret C d_bg_mustHaveRoomForOperation_22 (fun _ => rfl) rfl (Nat.zero_le _) (Nat.zero_le _) (Or.inl ⟨rfl, rfl⟩)
  · exact bg_throw (X := 2) (names := xn) C hex rfl d_bg_mustHaveRoomForOperation_12 d_bg_mustHaveRoomForOperation_15 d_bg_mustHaveRoomForOperation_16 d_bg_mustHaveRoomForOperation_18 d_bg_mustHaveRoomForOperation_21 tw_445 xi_2 xj_2 tl_465 xa_2 (by decide +kernel) xf (by rw [hR]; decide) (by rw [hR]; decide) rfl (by rw [hR]; decide) (by rw [hR]; decide) (by decide) (by decide) (Or.inr ⟨_, rfl, rfl, by omega⟩)
def rm_bg_mustHaveWayTo : Room := { frames := 7, cells := 1, slots := 6, locals := 103 }
set_option maxRecDepth 20000 in
set_option maxHeartbeats 4000000 in
theorem m_bg_mustHaveWayTo {G : bgGl} (hG : bgOk G) {w0 : bgW} (hw : bgN w0) {x : Int} (z0 : -2147483648 ≤ x) (z1 : x ≤ 2147483647) : bgM G true 0 0 y_bg_mustHaveWayTo (.code y_bg_mustHaveWayTo co_bg_mustHaveWayTo 2 none) rm_bg_mustHaveWayTo [br 0, bi x] w0 (bgPvt (fun w' => w0 = w' ∧ 0 ≤ x ∧ x ≤ 63) (fun X w' => w0 = w' ∧ (X = 0 ∨ X = 1))) := by
  refine bg_met hG (by decide +kernel) (bg_cat rfl) (Nat.le_of_ble_eq_true rfl) ?_
  intro K hK hR hex C
  subst hK
  have hI := bgRel.rfl hw
  show bgX K true 0 0 _ w0 0 [some (br 0), some (bi x)] []
  refine bg_aload_n C d_bg_mustHaveWayTo_0 rfl rfl ?_
  refine bg_cvt C (m_bg_mustBeUp hG hI.1) (bg_invV C cf_bg rfl tw_335 ti_bg_mustBeUp ts_bg_mustBeUp tc_bg_mustBeUp tw_35 ⟨by decide, by decide⟩ (nA := 0) (by decide +kernel) rfl d_bg_mustHaveWayTo_1 rfl) rfl (by rw [hR]; exact ⟨by decide, by decide⟩) (by rw [hR]; exact ⟨by decide, by decide⟩) (Nat.le_of_ble_eq_true rfl) rfl (fun w1 p1 => ?_) (fun X1 w1 p1 => bg_thru C (fun _ => rfl) hex (by decide) (by decide) ?_)
  · obtain rfl := p1
    refine bg_aload_n C d_bg_mustHaveWayTo_4 rfl rfl ?_
    refine bg_getr (i := 5) C cf_bg rfl (by decide) rfl tw_209 d_bg_mustHaveWayTo_5 ?_
    refine bq_geti C cf_wy hI 3 3 rfl rfl (by decide) rfl (by decide) rfl tw_194 d_bg_mustHaveWayTo_8 (fun v2 e2 a2 b2 => ?_)
    refine bg_if_ne (tgt := 24) C d_bg_mustHaveWayTo_11 (by decide) ⟨by omega, by omega⟩ (fun h3 => ?_) (fun h3 => ?_)
    · refine bg_aload_n C d_bg_mustHaveWayTo_24 rfl rfl ?_
      refine bg_iload_n C d_bg_mustHaveWayTo_25 rfl rfl ?_
      refine bg_cvt C (m_bg_mustBeVertex hG hI.1 (by omega) (by omega)) (bg_invV C cf_bg rfl tw_424 ti_bg_mustBeVertex ts_bg_mustBeVertex tc_bg_mustBeVertex tw_35 ⟨by decide, by decide⟩ (nA := 1) (by decide +kernel) rfl d_bg_mustHaveWayTo_26 rfl) rfl (by rw [hR]; exact ⟨by decide, by decide⟩) (by rw [hR]; exact ⟨by decide, by decide⟩) (Nat.le_of_ble_eq_true rfl) rfl (fun w4 p4 => ?_) (fun X4 w4 p4 => bg_thru C (fun _ => rfl) hex (by decide) (by decide) ?_)
      · obtain ⟨rfl, r4_0, r4_1⟩ := p4
        exact bg_ret C d_bg_mustHaveWayTo_29 (fun _ => rfl) rfl (Nat.zero_le _) (Nat.zero_le _) (Or.inl ⟨rfl, rfl, by omega, by omega⟩)
      · exact Or.inr ⟨_, rfl, p4.1, by have := p4.2; omega⟩
    · exact bg_throw (X := 0) (names := xn) C hex rfl d_bg_mustHaveWayTo_14 d_bg_mustHaveWayTo_17 d_bg_mustHaveWayTo_18 d_bg_mustHaveWayTo_20 d_bg_mustHaveWayTo_23 tw_339 xi_0 xj_0 tl_611 xa_0 (by decide +kernel) xf (by rw [hR]; decide) (by rw [hR]; decide) rfl (by rw [hR]; decide) (by rw [hR]; decide) (by decide) (by decide) (Or.inr ⟨_, rfl, rfl, by omega⟩)
  · exact Or.inr ⟨_, rfl, p1.1, by have := p1.2; omega⟩
def rm_bg_format : Room := { frames := 4, cells := 0, slots := 0, locals := 126 }
set_option maxRecDepth 20000 in
set_option maxHeartbeats 4000000 in
theorem m_bg_format {G : bgGl} (hG : bgOk G) {w0 : bgW} (hw : bgN w0) : bgM G false 0 0 y_bg_format (.code y_bg_format co_bg_format 1 (some .boolean)) rm_bg_format [br 0] w0 (bgPi (fun v w' => bgRel w0 w' ∧ 0 ≤ v ∧ v ≤ 1)) := by
  refine bg_met hG (by decide +kernel) (bg_cat rfl) (Nat.le_of_ble_eq_true rfl) ?_
  intro K hK hR hex C
  subst hK
  have hI := bgRel.rfl hw
  show bgX K true 0 0 _ w0 0 [some (br 0)] []
  refine bg_aload_n C d_bg_format_0 rfl rfl ?_
  refine bg_cv C (m_bg_startAnew hG hI.1) (bg_invV C cf_bg rfl tw_236 ti_bg_startAnew ts_bg_startAnew tc_bg_startAnew tw_35 ⟨by decide, by decide⟩ (nA := 0) (by decide +kernel) rfl d_bg_format_1 rfl) rfl (by rw [hR]; exact ⟨by decide, by decide⟩) (by rw [hR]; exact ⟨by decide, by decide⟩) (Nat.le_of_ble_eq_true rfl) rfl (fun w1 p1 => ?_)
  have j1 := p1
  have hI1 := hI.trans j1
  refine bg_aload_n C d_bg_format_4 rfl rfl ?_
  refine bg_getr (i := 3) C cf_bg rfl (by decide) rfl tw_207 d_bg_format_5 ?_
  refine bg_cv C (m_et_erase hG hI1.1) (bg_invV C cf_et rfl tw_248 ti_et_erase ts_et_erase tc_et_erase tw_40 ⟨by decide, by decide⟩ (nA := 0) (by decide +kernel) rfl d_bg_format_8 rfl) rfl (by rw [hR]; exact ⟨by decide, by decide⟩) (by rw [hR]; exact ⟨by decide, by decide⟩) (Nat.le_of_ble_eq_true rfl) rfl (fun w2 p2 => ?_)
  have j2 := p2
  have hI2 := hI1.trans j2
  refine bg_aload_n C d_bg_format_11 rfl rfl ?_
  refine bg_aload_n C d_bg_format_12 rfl rfl ?_
  refine bg_getr (i := 2) C cf_bg rfl (by decide) rfl tw_206 d_bg_format_13 ?_
  refine bg_aload_n C d_bg_format_16 rfl rfl ?_
  refine bg_getr (i := 3) C cf_bg rfl (by decide) rfl tw_207 d_bg_format_17 ?_
  refine bg_ci C (m_so_layOut hG hI2.1) (bg_invV C cf_so rfl tw_255 ti_so_layOut ts_so_layOut tc_so_layOut tw_38 ⟨by decide, by decide⟩ (nA := 1) (by decide +kernel) rfl d_bg_format_20 rfl) rfl (by rw [hR]; exact ⟨by decide, by decide⟩) (by rw [hR]; exact ⟨by decide, by decide⟩) (Nat.le_of_ble_eq_true rfl) rfl (fun v3 w3 p3 => ?_)
  obtain ⟨j3, r3_0, r3_1⟩ := p3
  have hI3 := hI2.trans j3
  refine bg_cv C (m_bg_settleState hG hI3.1 (by omega) (by omega)) (bg_invV C cf_bg rfl tw_297 ti_bg_settleState ts_bg_settleState tc_bg_settleState tw_35 ⟨by decide, by decide⟩ (nA := 1) (by decide +kernel) rfl d_bg_format_23 rfl) rfl (by rw [hR]; exact ⟨by decide, by decide⟩) (by rw [hR]; exact ⟨by decide, by decide⟩) (Nat.le_of_ble_eq_true rfl) rfl (fun w4 p4 => ?_)
  have j4 := p4
  have hI4 := hI3.trans j4
  refine bg_aload_n C d_bg_format_26 rfl rfl ?_
  refine bq_geti C cf_bg hI4 6 6 rfl rfl (by decide) rfl (by decide) rfl tw_210 d_bg_format_27 (fun v5 e5 a5 b5 => ?_)
  exact bg_iret C d_bg_format_30 (fun h => by cases h) (Or.inr ⟨rfl, by omega⟩) (Nat.zero_le _) (Nat.zero_le _) ⟨_, rfl, hI4, by omega, by omega⟩
def rm_bg_begin : Room := { frames := 7, cells := 1, slots := 6, locals := 102 }
set_option maxRecDepth 20000 in
set_option maxHeartbeats 4000000 in
theorem m_bg_begin {G : bgGl} (hG : bgOk G) {w0 : bgW} (hw : bgN w0) : bgM G false 0 0 y_bg_begin (.code y_bg_begin co_bg_begin 1 none) rm_bg_begin [br 0] w0 (bgPvt (fun w' => bgRel w0 w') (fun X w' => w0 = w' ∧ (X = 0))) := by
  refine bg_met hG (by decide +kernel) (bg_cat rfl) (Nat.le_of_ble_eq_true rfl) ?_
  intro K hK hR hex C
  subst hK
  have hI := bgRel.rfl hw
  show bgX K true 0 0 _ w0 0 [some (br 0)] []
  refine bg_aload_n C d_bg_begin_0 rfl rfl ?_
  refine bg_cvt C (m_bg_mustBeUp hG hI.1) (bg_invV C cf_bg rfl tw_335 ti_bg_mustBeUp ts_bg_mustBeUp tc_bg_mustBeUp tw_35 ⟨by decide, by decide⟩ (nA := 0) (by decide +kernel) rfl d_bg_begin_1 rfl) rfl (by rw [hR]; exact ⟨by decide, by decide⟩) (by rw [hR]; exact ⟨by decide, by decide⟩) (Nat.le_of_ble_eq_true rfl) rfl (fun w1 p1 => ?_) (fun X1 w1 p1 => bg_thru C (fun h => by cases h) hex (by decide) (by decide) ?_)
  · obtain rfl := p1
    refine bg_aload_n C d_bg_begin_4 rfl rfl ?_
    refine bq_geti C cf_bg hI 7 7 rfl rfl (by decide) rfl (by decide) rfl tw_211 d_bg_begin_5 (fun v2 e2 a2 b2 => ?_)
    refine bg_if_eq (tgt := 21) C d_bg_begin_8 (by decide) ⟨by omega, by omega⟩ (fun h3 => ?_) (fun h3 => ?_)
    · refine bg_aload_n C d_bg_begin_21 rfl rfl ?_
      refine bg_iconst C d_bg_begin_22 ?_
      refine bq_puti C cf_bg hI 7 7 rfl rfl (by decide) rfl (by decide) rfl (by omega) (by omega) rfl (Or.inr ⟨rfl, by omega⟩) tw_211 d_bg_begin_23 (fun w4 hI4 e4 => ?_)
      exact bg_ret C d_bg_begin_26 (fun h => by cases h) rfl (Nat.zero_le _) (Nat.zero_le _) (Or.inl ⟨rfl, hI4⟩)
    · exact bg_throw (X := 0) (names := xn) C hex rfl d_bg_begin_11 d_bg_begin_14 d_bg_begin_15 d_bg_begin_17 d_bg_begin_20 tw_339 xi_0 xj_0 tl_409 xa_0 (by decide +kernel) xf (by rw [hR]; decide) (by rw [hR]; decide) rfl (by rw [hR]; decide) (by rw [hR]; decide) (by decide) (by decide) (Or.inr ⟨_, rfl, rfl, by omega⟩)
  · exact Or.inr ⟨_, rfl, p1.1, by have := p1.2; omega⟩
def rm_bg_add : Room := { frames := 8, cells := 1, slots := 6, locals := 122 }
set_option maxRecDepth 20000 in
set_option maxHeartbeats 4000000 in
theorem m_bg_add {G : bgGl} (hG : bgOk G) {w0 : bgW} (hw : bgN w0) {f t x : Int} (z0 : -2147483648 ≤ f) (z1 : f ≤ 2147483647) (z2 : -2147483648 ≤ t) (z3 : t ≤ 2147483647) (z4 : -2147483648 ≤ x) (z5 : x ≤ 2147483647) : bgM G false 0 0 y_bg_add (.code y_bg_add co_bg_add 5 (some .int)) rm_bg_add [br 0, bi f, bi t, bi x] w0 (bgPit (fun v w' => bgRel w0 w') (fun X w' => w0 = w' ∧ (X = 0 ∨ X = 1 ∨ X = 2))) := by
  refine bg_met hG (by decide +kernel) (bg_cat rfl) (Nat.le_of_ble_eq_true rfl) ?_
  intro K hK hR hex C
  subst hK
  have hI := bgRel.rfl hw
  show bgX K true 0 0 _ w0 0 [some (br 0), some (bi f), some (bi t), some (bi x), none] []
  refine bg_aload_n C d_bg_add_0 rfl rfl ?_
  refine bg_cvt C (m_bg_mustBeOpen hG hI.1) (bg_invV C cf_bg rfl tw_419 ti_bg_mustBeOpen ts_bg_mustBeOpen tc_bg_mustBeOpen tw_35 ⟨by decide, by decide⟩ (nA := 0) (by decide +kernel) rfl d_bg_add_1 rfl) rfl (by rw [hR]; exact ⟨by decide, by decide⟩) (by rw [hR]; exact ⟨by decide, by decide⟩) (Nat.le_of_ble_eq_true rfl) rfl (fun w1 p1 => ?_) (fun X1 w1 p1 => bg_thru C (fun h => by cases h) hex (by decide) (by decide) ?_)
  · obtain rfl := p1
    refine bg_aload_n C d_bg_add_4 rfl rfl ?_
    refine bg_iload_n C d_bg_add_5 rfl rfl ?_
    refine bg_cvt C (m_bg_mustBeVertex hG hI.1 (by omega) (by omega)) (bg_invV C cf_bg rfl tw_424 ti_bg_mustBeVertex ts_bg_mustBeVertex tc_bg_mustBeVertex tw_35 ⟨by decide, by decide⟩ (nA := 1) (by decide +kernel) rfl d_bg_add_6 rfl) rfl (by rw [hR]; exact ⟨by decide, by decide⟩) (by rw [hR]; exact ⟨by decide, by decide⟩) (Nat.le_of_ble_eq_true rfl) rfl (fun w2 p2 => ?_) (fun X2 w2 p2 => bg_thru C (fun h => by cases h) hex (by decide) (by decide) ?_)
    · obtain ⟨rfl, r2_0, r2_1⟩ := p2
      refine bg_aload_n C d_bg_add_9 rfl rfl ?_
      refine bg_iload_n C d_bg_add_10 rfl rfl ?_
      refine bg_cvt C (m_bg_mustBeVertex hG hI.1 (by omega) (by omega)) (bg_invV C cf_bg rfl tw_424 ti_bg_mustBeVertex ts_bg_mustBeVertex tc_bg_mustBeVertex tw_35 ⟨by decide, by decide⟩ (nA := 1) (by decide +kernel) rfl d_bg_add_11 rfl) rfl (by rw [hR]; exact ⟨by decide, by decide⟩) (by rw [hR]; exact ⟨by decide, by decide⟩) (Nat.le_of_ble_eq_true rfl) rfl (fun w3 p3 => ?_) (fun X3 w3 p3 => bg_thru C (fun h => by cases h) hex (by decide) (by decide) ?_)
      · obtain ⟨rfl, r3_0, r3_1⟩ := p3
        refine bg_iload_n C d_bg_add_14 rfl rfl ?_
        refine bg_iconst C d_bg_add_15 ?_
        refine bg_icmp_lt (tgt := 26) C d_bg_add_16 (by decide) ⟨by omega, by omega⟩ ⟨by omega, by omega⟩ (fun h4 => ?_) (fun h4 => ?_)
        · exact bg_throw (X := 1) (names := xn) C hex rfl d_bg_add_26 d_bg_add_29 d_bg_add_30 d_bg_add_32 d_bg_add_35 tw_428 xi_1 xj_1 tl_444 xa_1 (by decide +kernel) xf (by rw [hR]; decide) (by rw [hR]; decide) rfl (by rw [hR]; decide) (by rw [hR]; decide) (by decide) (by decide) (Or.inr ⟨_, rfl, rfl, by omega⟩)
        · refine bg_iload_n C d_bg_add_19 rfl rfl ?_
          refine bg_sipush C d_bg_add_20 (by decide +kernel) ?_
          refine bg_icmp_le (tgt := 36) C d_bg_add_23 (by decide) ⟨by omega, by omega⟩ ⟨by omega, by omega⟩ (fun h5 => ?_) (fun h5 => ?_)
          · refine bg_aload_n C d_bg_add_36 rfl rfl ?_
            refine bg_getr (i := 3) C cf_bg rfl (by decide) rfl tw_207 d_bg_add_37 ?_
            refine bq_get0 C cf_et 3 3 rfl rfl (by decide) rfl tw_146 d_bg_add_40 (fun v6 e6 => ?_)
            refine bg_sipush C d_bg_add_43 (by decide +kernel) ?_
            refine bg_icmp_ne0 (tgt := 59) C d_bg_add_46 (by decide) ?_ ?_
            · refine bg_aload_n C d_bg_add_59 rfl rfl ?_
              refine bg_cvt C (m_bg_mustHaveRoomForOperation hG hI.1) (bg_invV C cf_bg rfl tw_461 ti_bg_mustHaveRoomForOperation ts_bg_mustHaveRoomForOperation tc_bg_mustHaveRoomForOperation tw_35 ⟨by decide, by decide⟩ (nA := 0) (by decide +kernel) rfl d_bg_add_60 rfl) rfl (by rw [hR]; exact ⟨by decide, by decide⟩) (by rw [hR]; exact ⟨by decide, by decide⟩) (Nat.le_of_ble_eq_true rfl) rfl (fun w8 p8 => ?_) (fun X8 w8 p8 => bg_thru C (fun h => by cases h) hex (by decide) (by decide) ?_)
              · obtain rfl := p8
                refine bg_aload_n C d_bg_add_63 rfl rfl ?_
                refine bg_getr (i := 3) C cf_bg rfl (by decide) rfl tw_207 d_bg_add_64 ?_
                refine bg_ci C (m_et_leastFree hG hI.1) (bg_invV C cf_et rfl tw_466 ti_et_leastFree ts_et_leastFree tc_et_leastFree tw_40 ⟨by decide, by decide⟩ (nA := 0) (by decide +kernel) rfl d_bg_add_67 rfl) rfl (by rw [hR]; exact ⟨by decide, by decide⟩) (by rw [hR]; exact ⟨by decide, by decide⟩) (Nat.le_of_ble_eq_true rfl) rfl (fun v9 w9 p9 => ?_)
                obtain ⟨rfl, r9_0, r9_1⟩ := p9
                refine bg_istore C d_bg_add_70 (Nat.le_of_ble_eq_true rfl) ?_
                refine bg_aload_n C d_bg_add_72 rfl rfl ?_
                refine bg_iload C d_bg_add_73 rfl ?_
                refine bg_iload_n C d_bg_add_75 rfl rfl ?_
                refine bg_iload_n C d_bg_add_76 rfl rfl ?_
                refine bg_iload_n C d_bg_add_77 rfl rfl ?_
                refine bg_cv C (m_bg_operate hG hI.1 (by omega) (by omega) (by omega) (by omega) (by omega) (by omega)) (bg_invV C cf_bg rfl tw_470 ti_bg_operate ts_bg_operate tc_bg_operate tw_35 ⟨by decide, by decide⟩ (nA := 4) (by decide +kernel) rfl d_bg_add_78 rfl) rfl (by rw [hR]; exact ⟨by decide, by decide⟩) (by rw [hR]; exact ⟨by decide, by decide⟩) (Nat.le_of_ble_eq_true rfl) rfl (fun w10 p10 => ?_)
                have j10 := p10
                have hI10 := hI.trans j10
                refine bg_iload C d_bg_add_81 rfl ?_
                exact bg_iret C d_bg_add_83 (fun h => by cases h) (Or.inl rfl) (Nat.zero_le _) (Nat.zero_le _) (Or.inl ⟨_, rfl, hI10⟩)
              · exact Or.inr ⟨_, rfl, p8.1, by have := p8.2; omega⟩
            · exact bg_throw (X := 2) (names := xn) C hex rfl d_bg_add_49 d_bg_add_52 d_bg_add_53 d_bg_add_55 d_bg_add_58 tw_445 xi_2 xj_2 tl_454 xa_2 (by decide +kernel) xf (by rw [hR]; decide) (by rw [hR]; decide) rfl (by rw [hR]; decide) (by rw [hR]; decide) (by decide) (by decide) (Or.inr ⟨_, rfl, rfl, by omega⟩)
          · exact bg_throw (X := 1) (names := xn) C hex rfl d_bg_add_26 d_bg_add_29 d_bg_add_30 d_bg_add_32 d_bg_add_35 tw_428 xi_1 xj_1 tl_444 xa_1 (by decide +kernel) xf (by rw [hR]; decide) (by rw [hR]; decide) rfl (by rw [hR]; decide) (by rw [hR]; decide) (by decide) (by decide) (Or.inr ⟨_, rfl, rfl, by omega⟩)
      · exact Or.inr ⟨_, rfl, p3.1, by have := p3.2; omega⟩
    · exact Or.inr ⟨_, rfl, p2.1, by have := p2.2; omega⟩
  · exact Or.inr ⟨_, rfl, p1.1, by have := p1.2; omega⟩
def rm_bg_remove : Room := { frames := 8, cells := 1, slots := 6, locals := 122 }
set_option maxRecDepth 20000 in
set_option maxHeartbeats 4000000 in
theorem m_bg_remove {G : bgGl} (hG : bgOk G) {w0 : bgW} (hw : bgN w0) {e : Int} (z0 : -2147483648 ≤ e) (z1 : e ≤ 2147483647) : bgM G false 0 0 y_bg_remove (.code y_bg_remove co_bg_remove 2 none) rm_bg_remove [br 0, bi e] w0 (bgPvt (fun w' => bgRel w0 w') (fun X w' => w0 = w' ∧ (X = 0 ∨ X = 2 ∨ X = 3))) := by
  refine bg_met hG (by decide +kernel) (bg_cat rfl) (Nat.le_of_ble_eq_true rfl) ?_
  intro K hK hR hex C
  subst hK
  have hI := bgRel.rfl hw
  show bgX K true 0 0 _ w0 0 [some (br 0), some (bi e)] []
  refine bg_aload_n C d_bg_remove_0 rfl rfl ?_
  refine bg_cvt C (m_bg_mustBeOpen hG hI.1) (bg_invV C cf_bg rfl tw_419 ti_bg_mustBeOpen ts_bg_mustBeOpen tc_bg_mustBeOpen tw_35 ⟨by decide, by decide⟩ (nA := 0) (by decide +kernel) rfl d_bg_remove_1 rfl) rfl (by rw [hR]; exact ⟨by decide, by decide⟩) (by rw [hR]; exact ⟨by decide, by decide⟩) (Nat.le_of_ble_eq_true rfl) rfl (fun w1 p1 => ?_) (fun X1 w1 p1 => bg_thru C (fun h => by cases h) hex (by decide) (by decide) ?_)
  · obtain rfl := p1
    refine bg_aload_n C d_bg_remove_4 rfl rfl ?_
    refine bg_iload_n C d_bg_remove_5 rfl rfl ?_
    refine bg_cvt C (m_bg_mustBeVisible hG hI.1 (by omega) (by omega)) (bg_invV C cf_bg rfl tw_487 ti_bg_mustBeVisible ts_bg_mustBeVisible tc_bg_mustBeVisible tw_35 ⟨by decide, by decide⟩ (nA := 1) (by decide +kernel) rfl d_bg_remove_6 rfl) rfl (by rw [hR]; exact ⟨by decide, by decide⟩) (by rw [hR]; exact ⟨by decide, by decide⟩) (Nat.le_of_ble_eq_true rfl) rfl (fun w2 p2 => ?_) (fun X2 w2 p2 => bg_thru C (fun h => by cases h) hex (by decide) (by decide) ?_)
    · obtain ⟨rfl, r2_0, r2_1⟩ := p2
      refine bg_aload_n C d_bg_remove_9 rfl rfl ?_
      refine bg_cvt C (m_bg_mustHaveRoomForOperation hG hI.1) (bg_invV C cf_bg rfl tw_461 ti_bg_mustHaveRoomForOperation ts_bg_mustHaveRoomForOperation tc_bg_mustHaveRoomForOperation tw_35 ⟨by decide, by decide⟩ (nA := 0) (by decide +kernel) rfl d_bg_remove_10 rfl) rfl (by rw [hR]; exact ⟨by decide, by decide⟩) (by rw [hR]; exact ⟨by decide, by decide⟩) (Nat.le_of_ble_eq_true rfl) rfl (fun w3 p3 => ?_) (fun X3 w3 p3 => bg_thru C (fun h => by cases h) hex (by decide) (by decide) ?_)
      · obtain rfl := p3
        refine bg_aload_n C d_bg_remove_13 rfl rfl ?_
        refine bg_iload_n C d_bg_remove_14 rfl rfl ?_
        refine bg_iconst C d_bg_remove_15 ?_
        refine bg_iconst C d_bg_remove_16 ?_
        refine bg_iconst C d_bg_remove_17 ?_
        refine bg_cv C (m_bg_operate hG hI.1 (by omega) (by omega) (by omega) (by omega) (by omega) (by omega)) (bg_invV C cf_bg rfl tw_470 ti_bg_operate ts_bg_operate tc_bg_operate tw_35 ⟨by decide, by decide⟩ (nA := 4) (by decide +kernel) rfl d_bg_remove_18 rfl) rfl (by rw [hR]; exact ⟨by decide, by decide⟩) (by rw [hR]; exact ⟨by decide, by decide⟩) (Nat.le_of_ble_eq_true rfl) rfl (fun w4 p4 => ?_)
        have j4 := p4
        have hI4 := hI.trans j4
        exact bg_ret C d_bg_remove_21 (fun h => by cases h) rfl (Nat.zero_le _) (Nat.zero_le _) (Or.inl ⟨rfl, hI4⟩)
      · exact Or.inr ⟨_, rfl, p3.1, by have := p3.2; omega⟩
    · exact Or.inr ⟨_, rfl, p2.1, by have := p2.2; omega⟩
  · exact Or.inr ⟨_, rfl, p1.1, by have := p1.2; omega⟩
def rm_bg_edge : Room := { frames := 7, cells := 1, slots := 6, locals := 103 }
set_option maxRecDepth 20000 in
set_option maxHeartbeats 4000000 in
theorem m_bg_edge {G : bgGl} (hG : bgOk G) {w0 : bgW} (hw : bgN w0) {e k : Int} (z0 : -2147483648 ≤ e) (z1 : e ≤ 2147483647) (z2 : -2147483648 ≤ k) (z3 : k ≤ 2147483647) : bgM G false 0 0 y_bg_edge (.code y_bg_edge co_bg_edge 3 (some .int)) rm_bg_edge [br 0, bi e, bi k] w0 (bgPit (fun v w' => bgRel w0 w') (fun X w' => w0 = w' ∧ (X = 0 ∨ X = 1 ∨ X = 3))) := by
  refine bg_met hG (by decide +kernel) (bg_cat rfl) (Nat.le_of_ble_eq_true rfl) ?_
  intro K hK hR hex C
  subst hK
  have hI := bgRel.rfl hw
  show bgX K true 0 0 _ w0 0 [some (br 0), some (bi e), some (bi k)] []
  refine bg_aload_n C d_bg_edge_0 rfl rfl ?_
  refine bg_cvt C (m_bg_mustBeUp hG hI.1) (bg_invV C cf_bg rfl tw_335 ti_bg_mustBeUp ts_bg_mustBeUp tc_bg_mustBeUp tw_35 ⟨by decide, by decide⟩ (nA := 0) (by decide +kernel) rfl d_bg_edge_1 rfl) rfl (by rw [hR]; exact ⟨by decide, by decide⟩) (by rw [hR]; exact ⟨by decide, by decide⟩) (Nat.le_of_ble_eq_true rfl) rfl (fun w1 p1 => ?_) (fun X1 w1 p1 => bg_thru C (fun h => by cases h) hex (by decide) (by decide) ?_)
  · obtain rfl := p1
    refine bg_aload_n C d_bg_edge_4 rfl rfl ?_
    refine bg_iload_n C d_bg_edge_5 rfl rfl ?_
    refine bg_cvt C (m_bg_mustBeVisible hG hI.1 (by omega) (by omega)) (bg_invV C cf_bg rfl tw_487 ti_bg_mustBeVisible ts_bg_mustBeVisible tc_bg_mustBeVisible tw_35 ⟨by decide, by decide⟩ (nA := 1) (by decide +kernel) rfl d_bg_edge_6 rfl) rfl (by rw [hR]; exact ⟨by decide, by decide⟩) (by rw [hR]; exact ⟨by decide, by decide⟩) (Nat.le_of_ble_eq_true rfl) rfl (fun w2 p2 => ?_) (fun X2 w2 p2 => bg_thru C (fun h => by cases h) hex (by decide) (by decide) ?_)
    · obtain ⟨rfl, r2_0, r2_1⟩ := p2
      refine bg_iload_n C d_bg_edge_9 rfl rfl ?_
      refine bg_if_lt (tgt := 18) C d_bg_edge_10 (by decide) ⟨by omega, by omega⟩ (fun h3 => ?_) (fun h3 => ?_)
      · exact bg_throw (X := 1) (names := xn) C hex rfl d_bg_edge_18 d_bg_edge_21 d_bg_edge_22 d_bg_edge_24 d_bg_edge_27 tw_428 xi_1 xj_1 tl_553 xa_1 (by decide +kernel) xf (by rw [hR]; decide) (by rw [hR]; decide) rfl (by rw [hR]; decide) (by rw [hR]; decide) (by decide) (by decide) (Or.inr ⟨_, rfl, rfl, by omega⟩)
      · refine bg_iload_n C d_bg_edge_13 rfl rfl ?_
        refine bg_iconst C d_bg_edge_14 ?_
        refine bg_icmp_le (tgt := 28) C d_bg_edge_15 (by decide) ⟨by omega, by omega⟩ ⟨by omega, by omega⟩ (fun h4 => ?_) (fun h4 => ?_)
        · refine bg_aload_n C d_bg_edge_28 rfl rfl ?_
          refine bg_getr (i := 1) C cf_bg rfl (by decide) rfl tw_205 d_bg_edge_29 ?_
          refine bg_iload_n C d_bg_edge_32 rfl rfl ?_
          refine bg_iconst C d_bg_edge_33 ?_
          refine bg_idiv0 C d_bg_edge_34 (by decide +kernel) (fun v5 => ?_)
          refine bg_cv C (m_hd_look hG hI.1) (bg_invV C cf_hd rfl tw_554 ti_hd_look ts_hd_look tc_hd_look tw_37 ⟨by decide, by decide⟩ (nA := 1) (by decide +kernel) rfl d_bg_edge_35 rfl) rfl (by rw [hR]; exact ⟨by decide, by decide⟩) (by rw [hR]; exact ⟨by decide, by decide⟩) (Nat.le_of_ble_eq_true rfl) rfl (fun w6 p6 => ?_)
          have j6 := p6
          have hI6 := hI.trans j6
          refine bg_iload_n C d_bg_edge_38 rfl rfl ?_
          refine bg_if_ne (tgt := 52) C d_bg_edge_39 (by decide) ⟨by omega, by omega⟩ (fun h7 => ?_) (fun h7 => ?_)
          · refine bg_iload_n C d_bg_edge_52 rfl rfl ?_
            refine bg_iconst C d_bg_edge_53 ?_
            refine bg_icmp_ne (tgt := 69) C d_bg_edge_54 (by decide) ⟨by omega, by omega⟩ ⟨by omega, by omega⟩ (fun h8 => ?_) (fun h8 => ?_)
            · refine bg_aload_n C d_bg_edge_69 rfl rfl ?_
              refine bg_getr (i := 3) C cf_bg rfl (by decide) rfl tw_207 d_bg_edge_70 ?_
              refine bg_getr (i := 2) C cf_et rfl (by decide) rfl tw_144 d_bg_edge_73 ?_
              refine bg_iload_n C d_bg_edge_76 rfl rfl ?_
              refine bq_iald0 C rfl (by omega) (by omega) d_bg_edge_77 (fun v9 e9 => ?_)
              exact bg_iret C d_bg_edge_78 (fun h => by cases h) (Or.inl rfl) (Nat.zero_le _) (Nat.zero_le _) (Or.inl ⟨_, rfl, hI6⟩)
            · refine bg_aload_n C d_bg_edge_57 rfl rfl ?_
              refine bg_getr (i := 3) C cf_bg rfl (by decide) rfl tw_207 d_bg_edge_58 ?_
              refine bg_getr (i := 1) C cf_et rfl (by decide) rfl tw_141 d_bg_edge_61 ?_
              refine bg_iload_n C d_bg_edge_64 rfl rfl ?_
              refine bq_iald C hI6 rfl (by decide) rfl (by omega) (by omega) d_bg_edge_65 (fun v10 e10 a10 b10 => ?_)
              refine bg_goto (l := 78) C d_bg_edge_66 (by decide) ?_
              exact bg_iret C d_bg_edge_78 (fun h => by cases h) (Or.inl rfl) (Nat.zero_le _) (Nat.zero_le _) (Or.inl ⟨_, rfl, hI6⟩)
          · refine bg_aload_n C d_bg_edge_42 rfl rfl ?_
            refine bg_getr (i := 3) C cf_bg rfl (by decide) rfl tw_207 d_bg_edge_43 ?_
            refine bg_getr (i := 0) C cf_et rfl (by decide) rfl tw_138 d_bg_edge_46 ?_
            refine bg_iload_n C d_bg_edge_49 rfl rfl ?_
            refine bq_iald C hI6 rfl (by decide) rfl (by omega) (by omega) d_bg_edge_50 (fun v11 e11 a11 b11 => ?_)
            exact bg_iret C d_bg_edge_51 (fun h => by cases h) (Or.inl rfl) (Nat.zero_le _) (Nat.zero_le _) (Or.inl ⟨_, rfl, hI6⟩)
        · exact bg_throw (X := 1) (names := xn) C hex rfl d_bg_edge_18 d_bg_edge_21 d_bg_edge_22 d_bg_edge_24 d_bg_edge_27 tw_428 xi_1 xj_1 tl_553 xa_1 (by decide +kernel) xf (by rw [hR]; decide) (by rw [hR]; decide) rfl (by rw [hR]; decide) (by rw [hR]; decide) (by decide) (by decide) (Or.inr ⟨_, rfl, rfl, by omega⟩)
    · exact Or.inr ⟨_, rfl, p2.1, by have := p2.2; omega⟩
  · exact Or.inr ⟨_, rfl, p1.1, by have := p1.2; omega⟩
def rm_bg_commit : Room := { frames := 8, cells := 1, slots := 6, locals := 149 }
set_option maxRecDepth 20000 in
set_option maxHeartbeats 4000000 in
theorem m_bg_commit {G : bgGl} (hG : bgOk G) {w0 : bgW} (hw : bgN w0) : bgM G false 0 0 y_bg_commit (.code y_bg_commit co_bg_commit 2 (some .boolean)) rm_bg_commit [br 0] w0 (bgPit (fun v w' => bgRel w0 w' ∧ 0 ≤ v ∧ v ≤ 1) (fun X w' => w0 = w' ∧ (X = 0))) := by
  refine bg_met hG (by decide +kernel) (bg_cat rfl) (Nat.le_of_ble_eq_true rfl) ?_
  intro K hK hR hex C
  subst hK
  have hI := bgRel.rfl hw
  show bgX K true 0 0 _ w0 0 [some (br 0), none] []
  refine bg_aload_n C d_bg_commit_0 rfl rfl ?_
  refine bg_cvt C (m_bg_mustBeOpen hG hI.1) (bg_invV C cf_bg rfl tw_419 ti_bg_mustBeOpen ts_bg_mustBeOpen tc_bg_mustBeOpen tw_35 ⟨by decide, by decide⟩ (nA := 0) (by decide +kernel) rfl d_bg_commit_1 rfl) rfl (by rw [hR]; exact ⟨by decide, by decide⟩) (by rw [hR]; exact ⟨by decide, by decide⟩) (Nat.le_of_ble_eq_true rfl) rfl (fun w1 p1 => ?_) (fun X1 w1 p1 => bg_thru C (fun h => by cases h) hex (by decide) (by decide) ?_)
  · obtain rfl := p1
    refine bg_aload_n C d_bg_commit_4 rfl rfl ?_
    refine bg_getr (i := 4) C cf_bg rfl (by decide) rfl tw_208 d_bg_commit_5 ?_
    refine bq_geti C cf_op hI 4 4 rfl rfl (by decide) rfl (by decide) rfl tw_118 d_bg_commit_8 (fun v2 e2 a2 b2 => ?_)
    refine bg_if_eq (tgt := 32) C d_bg_commit_11 (by decide) ⟨by omega, by omega⟩ (fun h3 => ?_) (fun h3 => ?_)
    · refine bg_iconst C d_bg_commit_32 ?_
      refine bg_goto (l := 37) C d_bg_commit_33 (by decide) ?_
      refine bg_istore_n C d_bg_commit_37 rfl (Nat.le_of_ble_eq_true rfl) ?_
      refine bg_aload_n C d_bg_commit_38 rfl rfl ?_
      refine bg_cv C (m_bg_closeTransaction hG hI.1) (bg_invV C cf_bg rfl tw_240 ti_bg_closeTransaction ts_bg_closeTransaction tc_bg_closeTransaction tw_35 ⟨by decide, by decide⟩ (nA := 0) (by decide +kernel) rfl d_bg_commit_39 rfl) rfl (by rw [hR]; exact ⟨by decide, by decide⟩) (by rw [hR]; exact ⟨by decide, by decide⟩) (Nat.le_of_ble_eq_true rfl) rfl (fun w4 p4 => ?_)
      have j4 := p4
      have hI4 := hI.trans j4
      refine bg_aload_n C d_bg_commit_42 rfl rfl ?_
      refine bg_iload_n C d_bg_commit_43 rfl rfl ?_
      refine bg_cv C (m_bg_settleState hG hI4.1 (by omega) (by omega)) (bg_invV C cf_bg rfl tw_297 ti_bg_settleState ts_bg_settleState tc_bg_settleState tw_35 ⟨by decide, by decide⟩ (nA := 1) (by decide +kernel) rfl d_bg_commit_44 rfl) rfl (by rw [hR]; exact ⟨by decide, by decide⟩) (by rw [hR]; exact ⟨by decide, by decide⟩) (Nat.le_of_ble_eq_true rfl) rfl (fun w5 p5 => ?_)
      have j5 := p5
      have hI5 := hI4.trans j5
      refine bg_iload_n C d_bg_commit_47 rfl rfl ?_
      exact bg_iret C d_bg_commit_48 (fun h => by cases h) (Or.inr ⟨rfl, by omega⟩) (Nat.zero_le _) (Nat.zero_le _) (Or.inl ⟨_, rfl, hI5, by omega, by omega⟩)
    · refine bg_aload_n C d_bg_commit_14 rfl rfl ?_
      refine bg_getr (i := 2) C cf_bg rfl (by decide) rfl tw_206 d_bg_commit_15 ?_
      refine bg_aload_n C d_bg_commit_18 rfl rfl ?_
      refine bg_getr (i := 4) C cf_bg rfl (by decide) rfl tw_208 d_bg_commit_19 ?_
      refine bg_aload_n C d_bg_commit_22 rfl rfl ?_
      refine bg_getr (i := 3) C cf_bg rfl (by decide) rfl tw_207 d_bg_commit_23 ?_
      refine bg_ci C (m_so_save hG hI.1) (bg_invV C cf_so rfl tw_518 ti_so_save ts_so_save tc_so_save tw_38 ⟨by decide, by decide⟩ (nA := 2) (by decide +kernel) rfl d_bg_commit_26 rfl) rfl (by rw [hR]; exact ⟨by decide, by decide⟩) (by rw [hR]; exact ⟨by decide, by decide⟩) (Nat.le_of_ble_eq_true rfl) rfl (fun v6 w6 p6 => ?_)
      obtain ⟨j6, r6_0, r6_1⟩ := p6
      have hI6 := hI.trans j6
      refine bg_if_eq (tgt := 36) C d_bg_commit_29 (by decide) ⟨by omega, by omega⟩ (fun h7 => ?_) (fun h7 => ?_)
      · refine bg_iconst C d_bg_commit_36 ?_
        refine bg_istore_n C d_bg_commit_37 rfl (Nat.le_of_ble_eq_true rfl) ?_
        refine bg_aload_n C d_bg_commit_38 rfl rfl ?_
        refine bg_cv C (m_bg_closeTransaction hG hI6.1) (bg_invV C cf_bg rfl tw_240 ti_bg_closeTransaction ts_bg_closeTransaction tc_bg_closeTransaction tw_35 ⟨by decide, by decide⟩ (nA := 0) (by decide +kernel) rfl d_bg_commit_39 rfl) rfl (by rw [hR]; exact ⟨by decide, by decide⟩) (by rw [hR]; exact ⟨by decide, by decide⟩) (Nat.le_of_ble_eq_true rfl) rfl (fun w8 p8 => ?_)
        have j8 := p8
        have hI8 := hI6.trans j8
        refine bg_aload_n C d_bg_commit_42 rfl rfl ?_
        refine bg_iload_n C d_bg_commit_43 rfl rfl ?_
        refine bg_cv C (m_bg_settleState hG hI8.1 (by omega) (by omega)) (bg_invV C cf_bg rfl tw_297 ti_bg_settleState ts_bg_settleState tc_bg_settleState tw_35 ⟨by decide, by decide⟩ (nA := 1) (by decide +kernel) rfl d_bg_commit_44 rfl) rfl (by rw [hR]; exact ⟨by decide, by decide⟩) (by rw [hR]; exact ⟨by decide, by decide⟩) (Nat.le_of_ble_eq_true rfl) rfl (fun w9 p9 => ?_)
        have j9 := p9
        have hI9 := hI8.trans j9
        refine bg_iload_n C d_bg_commit_47 rfl rfl ?_
        exact bg_iret C d_bg_commit_48 (fun h => by cases h) (Or.inr ⟨rfl, by omega⟩) (Nat.zero_le _) (Nat.zero_le _) (Or.inl ⟨_, rfl, hI9, by omega, by omega⟩)
      · refine bg_iconst C d_bg_commit_32 ?_
        refine bg_goto (l := 37) C d_bg_commit_33 (by decide) ?_
        refine bg_istore_n C d_bg_commit_37 rfl (Nat.le_of_ble_eq_true rfl) ?_
        refine bg_aload_n C d_bg_commit_38 rfl rfl ?_
        refine bg_cv C (m_bg_closeTransaction hG hI6.1) (bg_invV C cf_bg rfl tw_240 ti_bg_closeTransaction ts_bg_closeTransaction tc_bg_closeTransaction tw_35 ⟨by decide, by decide⟩ (nA := 0) (by decide +kernel) rfl d_bg_commit_39 rfl) rfl (by rw [hR]; exact ⟨by decide, by decide⟩) (by rw [hR]; exact ⟨by decide, by decide⟩) (Nat.le_of_ble_eq_true rfl) rfl (fun w10 p10 => ?_)
        have j10 := p10
        have hI10 := hI6.trans j10
        refine bg_aload_n C d_bg_commit_42 rfl rfl ?_
        refine bg_iload_n C d_bg_commit_43 rfl rfl ?_
        refine bg_cv C (m_bg_settleState hG hI10.1 (by omega) (by omega)) (bg_invV C cf_bg rfl tw_297 ti_bg_settleState ts_bg_settleState tc_bg_settleState tw_35 ⟨by decide, by decide⟩ (nA := 1) (by decide +kernel) rfl d_bg_commit_44 rfl) rfl (by rw [hR]; exact ⟨by decide, by decide⟩) (by rw [hR]; exact ⟨by decide, by decide⟩) (Nat.le_of_ble_eq_true rfl) rfl (fun w11 p11 => ?_)
        have j11 := p11
        have hI11 := hI10.trans j11
        refine bg_iload_n C d_bg_commit_47 rfl rfl ?_
        exact bg_iret C d_bg_commit_48 (fun h => by cases h) (Or.inr ⟨rfl, by omega⟩) (Nat.zero_le _) (Nat.zero_le _) (Or.inl ⟨_, rfl, hI11, by omega, by omega⟩)
  · exact Or.inr ⟨_, rfl, p1.1, by have := p1.2; omega⟩
def rm_bg_abort : Room := { frames := 8, cells := 1, slots := 6, locals := 122 }
set_option maxRecDepth 20000 in
set_option maxHeartbeats 4000000 in
theorem m_bg_abort {G : bgGl} (hG : bgOk G) {w0 : bgW} (hw : bgN w0) : bgM G false 0 0 y_bg_abort (.code y_bg_abort co_bg_abort 2 (some .int)) rm_bg_abort [br 0] w0 (bgPit (fun v w' => bgRel w0 w') (fun X w' => w0 = w' ∧ (X = 0))) := by
  refine bg_met hG (by decide +kernel) (bg_cat rfl) (Nat.le_of_ble_eq_true rfl) ?_
  intro K hK hR hex C
  subst hK
  have hI := bgRel.rfl hw
  show bgX K true 0 0 _ w0 0 [some (br 0), none] []
  refine bg_aload_n C d_bg_abort_0 rfl rfl ?_
  refine bg_cvt C (m_bg_mustBeOpen hG hI.1) (bg_invV C cf_bg rfl tw_419 ti_bg_mustBeOpen ts_bg_mustBeOpen tc_bg_mustBeOpen tw_35 ⟨by decide, by decide⟩ (nA := 0) (by decide +kernel) rfl d_bg_abort_1 rfl) rfl (by rw [hR]; exact ⟨by decide, by decide⟩) (by rw [hR]; exact ⟨by decide, by decide⟩) (Nat.le_of_ble_eq_true rfl) rfl (fun w1 p1 => ?_) (fun X1 w1 p1 => bg_thru C (fun h => by cases h) hex (by decide) (by decide) ?_)
  · obtain rfl := p1
    refine bg_aload_n C d_bg_abort_4 rfl rfl ?_
    refine bg_getr (i := 4) C cf_bg rfl (by decide) rfl tw_208 d_bg_abort_5 ?_
    refine bq_geti C cf_op hI 4 4 rfl rfl (by decide) rfl (by decide) rfl tw_118 d_bg_abort_8 (fun v2 e2 a2 b2 => ?_)
    refine bg_istore_n C d_bg_abort_11 rfl (Nat.le_of_ble_eq_true rfl) ?_
    refine bg_aload_n C d_bg_abort_12 rfl rfl ?_
    refine bg_cv C (m_bg_closeTransaction hG hI.1) (bg_invV C cf_bg rfl tw_240 ti_bg_closeTransaction ts_bg_closeTransaction tc_bg_closeTransaction tw_35 ⟨by decide, by decide⟩ (nA := 0) (by decide +kernel) rfl d_bg_abort_13 rfl) rfl (by rw [hR]; exact ⟨by decide, by decide⟩) (by rw [hR]; exact ⟨by decide, by decide⟩) (Nat.le_of_ble_eq_true rfl) rfl (fun w3 p3 => ?_)
    have j3 := p3
    have hI3 := hI.trans j3
    refine bg_iload_n C d_bg_abort_16 rfl rfl ?_
    refine bg_if_le (tgt := 41) C d_bg_abort_17 (by decide) ⟨by omega, by omega⟩ (fun h4 => ?_) (fun h4 => ?_)
    · refine bg_iload_n C d_bg_abort_41 rfl rfl ?_
      exact bg_iret C d_bg_abort_42 (fun h => by cases h) (Or.inl rfl) (Nat.zero_le _) (Nat.zero_le _) (Or.inl ⟨_, rfl, hI3⟩)
    · refine bg_aload_n C d_bg_abort_20 rfl rfl ?_
      refine bg_getr (i := 3) C cf_bg rfl (by decide) rfl tw_207 d_bg_abort_21 ?_
      refine bg_aload_n C d_bg_abort_24 rfl rfl ?_
      refine bg_getr (i := 2) C cf_bg rfl (by decide) rfl tw_206 d_bg_abort_25 ?_
      refine bg_getr (i := 3) C cf_so rfl (by decide) rfl tw_160 d_bg_abort_28 ?_
      refine bg_cv C (m_et_copyAll hG hI3.1) (bg_invV C cf_et rfl tw_537 ti_et_copyAll ts_et_copyAll tc_et_copyAll tw_40 ⟨by decide, by decide⟩ (nA := 1) (by decide +kernel) rfl d_bg_abort_31 rfl) rfl (by rw [hR]; exact ⟨by decide, by decide⟩) (by rw [hR]; exact ⟨by decide, by decide⟩) (Nat.le_of_ble_eq_true rfl) rfl (fun w5 p5 => ?_)
      have j5 := p5
      have hI5 := hI3.trans j5
      refine bg_aload_n C d_bg_abort_34 rfl rfl ?_
      refine bg_getr (i := 5) C cf_bg rfl (by decide) rfl tw_209 d_bg_abort_35 ?_
      refine bg_cv C (m_wy_forget hG hI5.1) (bg_invV C cf_wy rfl tw_244 ti_wy_forget ts_wy_forget tc_wy_forget tw_41 ⟨by decide, by decide⟩ (nA := 0) (by decide +kernel) rfl d_bg_abort_38 rfl) rfl (by rw [hR]; exact ⟨by decide, by decide⟩) (by rw [hR]; exact ⟨by decide, by decide⟩) (Nat.le_of_ble_eq_true rfl) rfl (fun w6 p6 => ?_)
      have j6 := p6
      have hI6 := hI5.trans j6
      refine bg_iload_n C d_bg_abort_41 rfl rfl ?_
      exact bg_iret C d_bg_abort_42 (fun h => by cases h) (Or.inl rfl) (Nat.zero_le _) (Nat.zero_le _) (Or.inl ⟨_, rfl, hI6⟩)
  · exact Or.inr ⟨_, rfl, p1.1, by have := p1.2; omega⟩
def rm_bg_arm : Room := { frames := 6, cells := 1, slots := 6, locals := 82 }
set_option maxRecDepth 20000 in
set_option maxHeartbeats 4000000 in
theorem m_bg_arm {G : bgGl} (hG : bgOk G) {w0 : bgW} (hw : bgN w0) {x : Int} (z0 : -2147483648 ≤ x) (z1 : x ≤ 2147483647) : bgM G false 0 0 y_bg_arm (.code y_bg_arm co_bg_arm 2 none) rm_bg_arm [br 0, bi x] w0 (bgPvt (fun w' => bgRel w0 w' ∧ -1 ≤ x) (fun X w' => w0 = w' ∧ (X = 1) ∧ x < -1)) := by
  refine bg_met hG (by decide +kernel) (bg_cat rfl) (Nat.le_of_ble_eq_true rfl) ?_
  intro K hK hR hex C
  subst hK
  have hI := bgRel.rfl hw
  show bgX K true 0 0 _ w0 0 [some (br 0), some (bi x)] []
  refine bg_iload_n C d_bg_arm_0 rfl rfl ?_
  refine bg_iconst C d_bg_arm_1 ?_
  refine bg_icmp_ge (tgt := 15) C d_bg_arm_2 (by decide) ⟨by omega, by omega⟩ ⟨by omega, by omega⟩ (fun h1 => ?_) (fun h1 => ?_)
  · refine bg_aload_n C d_bg_arm_15 rfl rfl ?_
    refine bg_getr (i := 0) C cf_bg rfl (by decide) rfl tw_204 d_bg_arm_16 ?_
    refine bg_iload_n C d_bg_arm_19 rfl rfl ?_
    refine bq_put0 C cf_pw hI 0 0 rfl rfl (by decide) rfl (by decide) rfl rfl rfl tw_69 d_bg_arm_20 (fun w2 hI2 e2 => ?_)
    exact bg_ret C d_bg_arm_23 (fun h => by cases h) rfl (Nat.zero_le _) (Nat.zero_le _) (Or.inl ⟨rfl, hI2, by omega⟩)
  · exact bg_throw (X := 1) (names := xn) C hex rfl d_bg_arm_5 d_bg_arm_8 d_bg_arm_9 d_bg_arm_11 d_bg_arm_14 tw_428 xi_1 xj_1 tl_545 xa_1 (by decide +kernel) xf (by rw [hR]; decide) (by rw [hR]; decide) rfl (by rw [hR]; decide) (by rw [hR]; decide) (by decide) (by decide) (Or.inr ⟨_, rfl, rfl, by omega, by omega⟩)
def rm_bg_recover : Room := { frames := 5, cells := 0, slots := 0, locals := 147 }
set_option maxRecDepth 20000 in
set_option maxHeartbeats 4000000 in
theorem m_bg_recover {G : bgGl} (hG : bgOk G) {w0 : bgW} (hw : bgN w0) : bgM G false 0 0 y_bg_recover (.code y_bg_recover co_bg_recover 2 (some .int)) rm_bg_recover [br 0] w0 (bgPi (fun v w' => bgRel w0 w')) := by
  refine bg_met hG (by decide +kernel) (bg_cat rfl) (Nat.le_of_ble_eq_true rfl) ?_
  intro K hK hR hex C
  subst hK
  have hI := bgRel.rfl hw
  show bgX K true 0 0 _ w0 0 [some (br 0), none] []
  refine bg_aload_n C d_bg_recover_0 rfl rfl ?_
  refine bg_cv C (m_bg_startAnew hG hI.1) (bg_invV C cf_bg rfl tw_236 ti_bg_startAnew ts_bg_startAnew tc_bg_startAnew tw_35 ⟨by decide, by decide⟩ (nA := 0) (by decide +kernel) rfl d_bg_recover_1 rfl) rfl (by rw [hR]; exact ⟨by decide, by decide⟩) (by rw [hR]; exact ⟨by decide, by decide⟩) (Nat.le_of_ble_eq_true rfl) rfl (fun w1 p1 => ?_)
  have j1 := p1
  have hI1 := hI.trans j1
  refine bg_aload_n C d_bg_recover_4 rfl rfl ?_
  refine bg_getr (i := 2) C cf_bg rfl (by decide) rfl tw_206 d_bg_recover_5 ?_
  refine bg_aload_n C d_bg_recover_8 rfl rfl ?_
  refine bg_getr (i := 3) C cf_bg rfl (by decide) rfl tw_207 d_bg_recover_9 ?_
  refine bg_ci C (m_so_replay hG hI1.1) (bg_invV C cf_so rfl tw_305 ti_so_replay ts_so_replay tc_so_replay tw_38 ⟨by decide, by decide⟩ (nA := 1) (by decide +kernel) rfl d_bg_recover_12 rfl) rfl (by rw [hR]; exact ⟨by decide, by decide⟩) (by rw [hR]; exact ⟨by decide, by decide⟩) (Nat.le_of_ble_eq_true rfl) rfl (fun v2 w2 p2 => ?_)
  obtain ⟨j2, r2_0, r2_1⟩ := p2
  have hI2 := hI1.trans j2
  refine bg_istore_n C d_bg_recover_15 rfl (Nat.le_of_ble_eq_true rfl) ?_
  refine bg_aload_n C d_bg_recover_16 rfl rfl ?_
  refine bg_iload_n C d_bg_recover_17 rfl rfl ?_
  refine bg_if_eq (tgt := 35) C d_bg_recover_18 (by decide) ⟨by omega, by omega⟩ (fun h3 => ?_) (fun h3 => ?_)
  · refine bg_iconst C d_bg_recover_35 ?_
    refine bg_cv C (m_bg_settleState hG hI2.1 (by omega) (by omega)) (bg_invV C cf_bg rfl tw_297 ti_bg_settleState ts_bg_settleState tc_bg_settleState tw_35 ⟨by decide, by decide⟩ (nA := 1) (by decide +kernel) rfl d_bg_recover_36 rfl) rfl (by rw [hR]; exact ⟨by decide, by decide⟩) (by rw [hR]; exact ⟨by decide, by decide⟩) (Nat.le_of_ble_eq_true rfl) rfl (fun w4 p4 => ?_)
    have j4 := p4
    have hI4 := hI2.trans j4
    refine bg_iload_n C d_bg_recover_39 rfl rfl ?_
    refine bg_if_ne (tgt := 45) C d_bg_recover_40 (by decide) ⟨by omega, by omega⟩ (fun h5 => ?_) (fun h5 => ?_)
    · refine bg_aload_n C d_bg_recover_45 rfl rfl ?_
      refine bg_getr (i := 2) C cf_bg rfl (by decide) rfl tw_206 d_bg_recover_46 ?_
      refine bq_geti C cf_so hI4 4 4 rfl rfl (by decide) rfl (by decide) rfl tw_162 d_bg_recover_49 (fun v6 e6 a6 b6 => ?_)
      refine bg_if_eq (tgt := 59) C d_bg_recover_52 (by decide) ⟨by omega, by omega⟩ (fun h7 => ?_) (fun h7 => ?_)
      · refine bg_iconst C d_bg_recover_59 ?_
        exact bg_iret C d_bg_recover_60 (fun h => by cases h) (Or.inl rfl) (Nat.zero_le _) (Nat.zero_le _) ⟨_, rfl, hI4⟩
      · refine bg_iconst C d_bg_recover_55 ?_
        refine bg_goto (l := 60) C d_bg_recover_56 (by decide) ?_
        exact bg_iret C d_bg_recover_60 (fun h => by cases h) (Or.inl rfl) (Nat.zero_le _) (Nat.zero_le _) ⟨_, rfl, hI4⟩
    · refine bg_iconst C d_bg_recover_43 ?_
      exact bg_iret C d_bg_recover_44 (fun h => by cases h) (Or.inl rfl) (Nat.zero_le _) (Nat.zero_le _) ⟨_, rfl, hI4⟩
  · refine bg_aload_n C d_bg_recover_21 rfl rfl ?_
    refine bg_getr (i := 2) C cf_bg rfl (by decide) rfl tw_206 d_bg_recover_22 ?_
    refine bq_geti C cf_so hI2 4 4 rfl rfl (by decide) rfl (by decide) rfl tw_162 d_bg_recover_25 (fun v8 e8 a8 b8 => ?_)
    refine bg_if_eq (tgt := 35) C d_bg_recover_28 (by decide) ⟨by omega, by omega⟩ (fun h9 => ?_) (fun h9 => ?_)
    · refine bg_iconst C d_bg_recover_35 ?_
      refine bg_cv C (m_bg_settleState hG hI2.1 (by omega) (by omega)) (bg_invV C cf_bg rfl tw_297 ti_bg_settleState ts_bg_settleState tc_bg_settleState tw_35 ⟨by decide, by decide⟩ (nA := 1) (by decide +kernel) rfl d_bg_recover_36 rfl) rfl (by rw [hR]; exact ⟨by decide, by decide⟩) (by rw [hR]; exact ⟨by decide, by decide⟩) (Nat.le_of_ble_eq_true rfl) rfl (fun w10 p10 => ?_)
      have j10 := p10
      have hI10 := hI2.trans j10
      refine bg_iload_n C d_bg_recover_39 rfl rfl ?_
      refine bg_if_ne (tgt := 45) C d_bg_recover_40 (by decide) ⟨by omega, by omega⟩ (fun h11 => ?_) (fun h11 => ?_)
      · refine bg_aload_n C d_bg_recover_45 rfl rfl ?_
        refine bg_getr (i := 2) C cf_bg rfl (by decide) rfl tw_206 d_bg_recover_46 ?_
        refine bq_geti C cf_so hI10 4 4 rfl rfl (by decide) rfl (by decide) rfl tw_162 d_bg_recover_49 (fun v12 e12 a12 b12 => ?_)
        refine bg_if_eq (tgt := 59) C d_bg_recover_52 (by decide) ⟨by omega, by omega⟩ (fun h13 => ?_) (fun h13 => ?_)
        · refine bg_iconst C d_bg_recover_59 ?_
          exact bg_iret C d_bg_recover_60 (fun h => by cases h) (Or.inl rfl) (Nat.zero_le _) (Nat.zero_le _) ⟨_, rfl, hI10⟩
        · refine bg_iconst C d_bg_recover_55 ?_
          refine bg_goto (l := 60) C d_bg_recover_56 (by decide) ?_
          exact bg_iret C d_bg_recover_60 (fun h => by cases h) (Or.inl rfl) (Nat.zero_le _) (Nat.zero_le _) ⟨_, rfl, hI10⟩
      · refine bg_iconst C d_bg_recover_43 ?_
        exact bg_iret C d_bg_recover_44 (fun h => by cases h) (Or.inl rfl) (Nat.zero_le _) (Nat.zero_le _) ⟨_, rfl, hI10⟩
    · refine bg_iconst C d_bg_recover_31 ?_
      refine bg_goto (l := 36) C d_bg_recover_32 (by decide) ?_
      refine bg_cv C (m_bg_settleState hG hI2.1 (by omega) (by omega)) (bg_invV C cf_bg rfl tw_297 ti_bg_settleState ts_bg_settleState tc_bg_settleState tw_35 ⟨by decide, by decide⟩ (nA := 1) (by decide +kernel) rfl d_bg_recover_36 rfl) rfl (by rw [hR]; exact ⟨by decide, by decide⟩) (by rw [hR]; exact ⟨by decide, by decide⟩) (Nat.le_of_ble_eq_true rfl) rfl (fun w14 p14 => ?_)
      have j14 := p14
      have hI14 := hI2.trans j14
      refine bg_iload_n C d_bg_recover_39 rfl rfl ?_
      refine bg_if_ne (tgt := 45) C d_bg_recover_40 (by decide) ⟨by omega, by omega⟩ (fun h15 => ?_) (fun h15 => ?_)
      · refine bg_aload_n C d_bg_recover_45 rfl rfl ?_
        refine bg_getr (i := 2) C cf_bg rfl (by decide) rfl tw_206 d_bg_recover_46 ?_
        refine bq_geti C cf_so hI14 4 4 rfl rfl (by decide) rfl (by decide) rfl tw_162 d_bg_recover_49 (fun v16 e16 a16 b16 => ?_)
        refine bg_if_eq (tgt := 59) C d_bg_recover_52 (by decide) ⟨by omega, by omega⟩ (fun h17 => ?_) (fun h17 => ?_)
        · refine bg_iconst C d_bg_recover_59 ?_
          exact bg_iret C d_bg_recover_60 (fun h => by cases h) (Or.inl rfl) (Nat.zero_le _) (Nat.zero_le _) ⟨_, rfl, hI14⟩
        · refine bg_iconst C d_bg_recover_55 ?_
          refine bg_goto (l := 60) C d_bg_recover_56 (by decide) ?_
          exact bg_iret C d_bg_recover_60 (fun h => by cases h) (Or.inl rfl) (Nat.zero_le _) (Nat.zero_le _) ⟨_, rfl, hI14⟩
      · refine bg_iconst C d_bg_recover_43 ?_
        exact bg_iret C d_bg_recover_44 (fun h => by cases h) (Or.inl rfl) (Nat.zero_le _) (Nat.zero_le _) ⟨_, rfl, hI14⟩
def rm_bg_room : Room := { frames := 6, cells := 1, slots := 6, locals := 82 }
set_option maxRecDepth 20000 in
set_option maxHeartbeats 4000000 in
theorem m_bg_room {G : bgGl} (hG : bgOk G) {w0 : bgW} (hw : bgN w0) {x : Int} (z0 : -2147483648 ≤ x) (z1 : x ≤ 2147483647) : bgM G false 0 0 y_bg_room (.code y_bg_room co_bg_room 2 none) rm_bg_room [br 0, bi x] w0 (bgPvt (fun w' => bgRel w0 w' ∧ 1 ≤ x ∧ x ≤ 50) (fun X w' => w0 = w' ∧ (X = 1) ∧ (x < 1 ∨ 50 < x))) := by
  refine bg_met hG (by decide +kernel) (bg_cat rfl) (Nat.le_of_ble_eq_true rfl) ?_
  intro K hK hR hex C
  subst hK
  have hI := bgRel.rfl hw
  show bgX K true 0 0 _ w0 0 [some (br 0), some (bi x)] []
  refine bg_iload_n C d_bg_room_0 rfl rfl ?_
  refine bg_iconst C d_bg_room_1 ?_
  refine bg_icmp_lt (tgt := 11) C d_bg_room_2 (by decide) ⟨by omega, by omega⟩ ⟨by omega, by omega⟩ (fun h1 => ?_) (fun h1 => ?_)
  · exact bg_throw (X := 1) (names := xn) C hex rfl d_bg_room_11 d_bg_room_14 d_bg_room_15 d_bg_room_17 d_bg_room_20 tw_428 xi_1 xj_1 tl_566 xa_1 (by decide +kernel) xf (by rw [hR]; decide) (by rw [hR]; decide) rfl (by rw [hR]; decide) (by rw [hR]; decide) (by decide) (by decide) (Or.inr ⟨_, rfl, rfl, by omega, by omega⟩)
  · refine bg_iload_n C d_bg_room_5 rfl rfl ?_
    refine bg_bipush C d_bg_room_6 (by decide +kernel) ?_
    refine bg_icmp_le (tgt := 21) C d_bg_room_8 (by decide) ⟨by omega, by omega⟩ ⟨by omega, by omega⟩ (fun h2 => ?_) (fun h2 => ?_)
    · refine bg_aload_n C d_bg_room_21 rfl rfl ?_
      refine bg_getr (i := 1) C cf_bg rfl (by decide) rfl tw_205 d_bg_room_22 ?_
      refine bg_iload_n C d_bg_room_25 rfl rfl ?_
      refine bg_cv C (m_hd_limit hG hI.1 (by omega) (by omega)) (bg_invV C cf_hd rfl tw_567 ti_hd_limit ts_hd_limit tc_hd_limit tw_37 ⟨by decide, by decide⟩ (nA := 1) (by decide +kernel) rfl d_bg_room_26 rfl) rfl (by rw [hR]; exact ⟨by decide, by decide⟩) (by rw [hR]; exact ⟨by decide, by decide⟩) (Nat.le_of_ble_eq_true rfl) rfl (fun w3 p3 => ?_)
      have j3 := p3
      have hI3 := hI.trans j3
      exact bg_ret C d_bg_room_29 (fun h => by cases h) rfl (Nat.zero_le _) (Nat.zero_le _) (Or.inl ⟨rfl, hI3, by omega, by omega⟩)
    · exact bg_throw (X := 1) (names := xn) C hex rfl d_bg_room_11 d_bg_room_14 d_bg_room_15 d_bg_room_17 d_bg_room_20 tw_428 xi_1 xj_1 tl_566 xa_1 (by decide +kernel) xf (by rw [hR]; decide) (by rw [hR]; decide) rfl (by rw [hR]; decide) (by rw [hR]; decide) (by decide) (by decide) (Or.inr ⟨_, rfl, rfl, by omega, by omega⟩)
def rm_bg_run : Room := { frames := 7, cells := 1, slots := 6, locals := 103 }
set_option maxRecDepth 20000 in
set_option maxHeartbeats 4000000 in
theorem m_bg_run {G : bgGl} (hG : bgOk G) {w0 : bgW} (hw : bgN w0) {x : Int} (z0 : -2147483648 ≤ x) (z1 : x ≤ 2147483647) : bgM G false 0 0 y_bg_run (.code y_bg_run co_bg_run 3 (some .int)) rm_bg_run [br 0, bi x] w0 (bgPit (fun v w' => bgRel w0 w') (fun X w' => w0 = w' ∧ (X = 0 ∨ X = 1))) := by
  refine bg_met hG (by decide +kernel) (bg_cat rfl) (Nat.le_of_ble_eq_true rfl) ?_
  intro K hK hR hex C
  subst hK
  have hI := bgRel.rfl hw
  show bgX K true 0 0 _ w0 0 [some (br 0), some (bi x), none] []
  refine bg_aload_n C d_bg_run_0 rfl rfl ?_
  refine bg_cvt C (m_bg_mustBeUp hG hI.1) (bg_invV C cf_bg rfl tw_335 ti_bg_mustBeUp ts_bg_mustBeUp tc_bg_mustBeUp tw_35 ⟨by decide, by decide⟩ (nA := 0) (by decide +kernel) rfl d_bg_run_1 rfl) rfl (by rw [hR]; exact ⟨by decide, by decide⟩) (by rw [hR]; exact ⟨by decide, by decide⟩) (Nat.le_of_ble_eq_true rfl) rfl (fun w1 p1 => ?_) (fun X1 w1 p1 => bg_thru C (fun h => by cases h) hex (by decide) (by decide) ?_)
  · obtain rfl := p1
    refine bg_aload_n C d_bg_run_4 rfl rfl ?_
    refine bg_iload_n C d_bg_run_5 rfl rfl ?_
    refine bg_cvt C (m_bg_mustBeVertex hG hI.1 (by omega) (by omega)) (bg_invV C cf_bg rfl tw_424 ti_bg_mustBeVertex ts_bg_mustBeVertex tc_bg_mustBeVertex tw_35 ⟨by decide, by decide⟩ (nA := 1) (by decide +kernel) rfl d_bg_run_6 rfl) rfl (by rw [hR]; exact ⟨by decide, by decide⟩) (by rw [hR]; exact ⟨by decide, by decide⟩) (Nat.le_of_ble_eq_true rfl) rfl (fun w2 p2 => ?_) (fun X2 w2 p2 => bg_thru C (fun h => by cases h) hex (by decide) (by decide) ?_)
    · obtain ⟨rfl, r2_0, r2_1⟩ := p2
      refine bg_iconst C d_bg_run_9 ?_
      refine bg_istore_n C d_bg_run_10 rfl (Nat.le_of_ble_eq_true rfl) ?_
      refine bg_weak ?_
      refine bg_loop (α := bgW × Int) (fun a => (50 - a.2).toNat) (fun a => bgRel w0 a.1 ∧ 0 ≤ a.2 ∧ a.2 ≤ 50) (fun a => (a.1, [some (br 0), some (bi x), some (bi a.2)], [])) ?_ (w0, 0) ⟨hI, by (try dsimp only) <;> omega, by (try dsimp only) <;> omega⟩
      rintro ⟨w3, i3⟩ ⟨hI3, q3_0, q3_1⟩ ih11
      try dsimp only at ih11
      try dsimp only at q3_0
      try dsimp only at q3_1
      try dsimp only
      refine bg_iload_n C d_bg_run_11 rfl rfl ?_
      refine bg_bipush C d_bg_run_12 (by decide +kernel) ?_
      refine bg_icmp_ge (tgt := 31) C d_bg_run_14 (by decide) ⟨by omega, by omega⟩ ⟨by omega, by omega⟩ (fun h4 => ?_) (fun h4 => ?_)
      · refine bg_aload_n C d_bg_run_31 rfl rfl ?_
        refine bg_getr (i := 5) C cf_bg rfl (by decide) rfl tw_209 d_bg_run_32 ?_
        refine bg_aload_n C d_bg_run_35 rfl rfl ?_
        refine bg_getr (i := 3) C cf_bg rfl (by decide) rfl tw_207 d_bg_run_36 ?_
        refine bg_iload_n C d_bg_run_39 rfl rfl ?_
        refine bg_ci C (m_wy_measure hG hI3.1 (by omega) (by omega)) (bg_invV C cf_wy rfl tw_578 ti_wy_measure ts_wy_measure tc_wy_measure tw_41 ⟨by decide, by decide⟩ (nA := 2) (by decide +kernel) rfl d_bg_run_40 rfl) rfl (by rw [hR]; exact ⟨by decide, by decide⟩) (by rw [hR]; exact ⟨by decide, by decide⟩) (Nat.le_of_ble_eq_true rfl) rfl (fun v5 w5 p5 => ?_)
        have j5 := p5
        have hI5 := hI3.trans j5
        exact bg_iret C d_bg_run_43 (fun h => by cases h) (Or.inl rfl) (Nat.zero_le _) (Nat.zero_le _) (Or.inl ⟨_, rfl, hI5⟩)
      · refine bg_aload_n C d_bg_run_17 rfl rfl ?_
        refine bg_getr (i := 1) C cf_bg rfl (by decide) rfl tw_205 d_bg_run_18 ?_
        refine bg_iload_n C d_bg_run_21 rfl rfl ?_
        refine bg_cv C (m_hd_look hG hI3.1) (bg_invV C cf_hd rfl tw_554 ti_hd_look ts_hd_look tc_hd_look tw_37 ⟨by decide, by decide⟩ (nA := 1) (by decide +kernel) rfl d_bg_run_22 rfl) rfl (by rw [hR]; exact ⟨by decide, by decide⟩) (by rw [hR]; exact ⟨by decide, by decide⟩) (Nat.le_of_ble_eq_true rfl) rfl (fun w6 p6 => ?_)
        have j6 := p6
        have hI6 := hI3.trans j6
        refine bg_iinc C d_bg_run_25 rfl ?_
        refine bg_goto (l := 11) C d_bg_run_28 (by decide) ?_
        exact ih11 (w6, (i3 + 1)) ⟨hI6, by (try dsimp only) <;> omega, by (try dsimp only) <;> omega⟩ (by (try dsimp only) <;> omega)
    · exact Or.inr ⟨_, rfl, p2.1, by have := p2.2; omega⟩
  · exact Or.inr ⟨_, rfl, p1.1, by have := p1.2; omega⟩
def rm_bg_distance : Room := { frames := 8, cells := 1, slots := 6, locals := 124 }
set_option maxRecDepth 20000 in
set_option maxHeartbeats 4000000 in
theorem m_bg_distance {G : bgGl} (hG : bgOk G) {w0 : bgW} (hw : bgN w0) {x : Int} (z0 : -2147483648 ≤ x) (z1 : x ≤ 2147483647) : bgM G true 0 0 y_bg_distance (.code y_bg_distance co_bg_distance 2 (some .int)) rm_bg_distance [br 0, bi x] w0 (bgPit (fun v w' => w0 = w') (fun X w' => w0 = w' ∧ (X = 0 ∨ X = 1))) := by
  refine bg_met hG (by decide +kernel) (bg_cat rfl) (Nat.le_of_ble_eq_true rfl) ?_
  intro K hK hR hex C
  subst hK
  have hI := bgRel.rfl hw
  show bgX K true 0 0 _ w0 0 [some (br 0), some (bi x)] []
  refine bg_aload_n C d_bg_distance_0 rfl rfl ?_
  refine bg_iload_n C d_bg_distance_1 rfl rfl ?_
  refine bg_cvt C (m_bg_mustHaveWayTo hG hI.1 (by omega) (by omega)) (bg_invV C cf_bg rfl tw_607 ti_bg_mustHaveWayTo ts_bg_mustHaveWayTo tc_bg_mustHaveWayTo tw_35 ⟨by decide, by decide⟩ (nA := 1) (by decide +kernel) rfl d_bg_distance_2 rfl) rfl (by rw [hR]; exact ⟨by decide, by decide⟩) (by rw [hR]; exact ⟨by decide, by decide⟩) (Nat.le_of_ble_eq_true rfl) rfl (fun w1 p1 => ?_) (fun X1 w1 p1 => bg_thru C (fun _ => rfl) hex (by decide) (by decide) ?_)
  · obtain ⟨rfl, r1_0, r1_1⟩ := p1
    refine bg_aload_n C d_bg_distance_5 rfl rfl ?_
    refine bg_getr (i := 5) C cf_bg rfl (by decide) rfl tw_209 d_bg_distance_6 ?_
    refine bg_getr (i := 0) C cf_wy rfl (by decide) rfl tw_189 d_bg_distance_9 ?_
    refine bg_iload_n C d_bg_distance_12 rfl rfl ?_
    refine bq_iald0 C rfl (by omega) (by omega) d_bg_distance_13 (fun v2 e2 => ?_)
    exact bg_iret C d_bg_distance_14 (fun _ => rfl) (Or.inl rfl) (Nat.zero_le _) (Nat.zero_le _) (Or.inl ⟨_, rfl, rfl⟩)
  · exact Or.inr ⟨_, rfl, p1.1, by have := p1.2; omega⟩
def rm_bg_parent : Room := { frames := 8, cells := 1, slots := 6, locals := 124 }
set_option maxRecDepth 20000 in
set_option maxHeartbeats 4000000 in
theorem m_bg_parent {G : bgGl} (hG : bgOk G) {w0 : bgW} (hw : bgN w0) {x : Int} (z0 : -2147483648 ≤ x) (z1 : x ≤ 2147483647) : bgM G true 0 0 y_bg_parent (.code y_bg_parent co_bg_parent 2 (some .int)) rm_bg_parent [br 0, bi x] w0 (bgPit (fun v w' => w0 = w') (fun X w' => w0 = w' ∧ (X = 0 ∨ X = 1))) := by
  refine bg_met hG (by decide +kernel) (bg_cat rfl) (Nat.le_of_ble_eq_true rfl) ?_
  intro K hK hR hex C
  subst hK
  have hI := bgRel.rfl hw
  show bgX K true 0 0 _ w0 0 [some (br 0), some (bi x)] []
  refine bg_aload_n C d_bg_parent_0 rfl rfl ?_
  refine bg_iload_n C d_bg_parent_1 rfl rfl ?_
  refine bg_cvt C (m_bg_mustHaveWayTo hG hI.1 (by omega) (by omega)) (bg_invV C cf_bg rfl tw_607 ti_bg_mustHaveWayTo ts_bg_mustHaveWayTo tc_bg_mustHaveWayTo tw_35 ⟨by decide, by decide⟩ (nA := 1) (by decide +kernel) rfl d_bg_parent_2 rfl) rfl (by rw [hR]; exact ⟨by decide, by decide⟩) (by rw [hR]; exact ⟨by decide, by decide⟩) (Nat.le_of_ble_eq_true rfl) rfl (fun w1 p1 => ?_) (fun X1 w1 p1 => bg_thru C (fun _ => rfl) hex (by decide) (by decide) ?_)
  · obtain ⟨rfl, r1_0, r1_1⟩ := p1
    refine bg_aload_n C d_bg_parent_5 rfl rfl ?_
    refine bg_getr (i := 5) C cf_bg rfl (by decide) rfl tw_209 d_bg_parent_6 ?_
    refine bg_getr (i := 1) C cf_wy rfl (by decide) rfl tw_191 d_bg_parent_9 ?_
    refine bg_iload_n C d_bg_parent_12 rfl rfl ?_
    refine bq_iald0 C rfl (by omega) (by omega) d_bg_parent_13 (fun v2 e2 => ?_)
    exact bg_iret C d_bg_parent_14 (fun _ => rfl) (Or.inl rfl) (Nat.zero_le _) (Nat.zero_le _) (Or.inl ⟨_, rfl, rfl⟩)
  · exact Or.inr ⟨_, rfl, p1.1, by have := p1.2; omega⟩
def rm_bg_way : Room := { frames := 8, cells := 1, slots := 6, locals := 124 }
set_option maxRecDepth 20000 in
set_option maxHeartbeats 4000000 in
theorem m_bg_way {G : bgGl} (hG : bgOk G) {w0 : bgW} (hw : bgN w0) {x k : Int} (z0 : -2147483648 ≤ x) (z1 : x ≤ 2147483647) (z2 : -2147483648 ≤ k) (z3 : k ≤ 2147483647) : bgM G true 0 0 y_bg_way (.code y_bg_way co_bg_way 4 (some .int)) rm_bg_way [br 0, bi x, bi k] w0 (bgPit (fun v w' => w0 = w') (fun X w' => w0 = w' ∧ (X = 0 ∨ X = 1 ∨ X = 4))) := by
  refine bg_met hG (by decide +kernel) (bg_cat rfl) (Nat.le_of_ble_eq_true rfl) ?_
  intro K hK hR hex C
  subst hK
  have hI := bgRel.rfl hw
  show bgX K true 0 0 _ w0 0 [some (br 0), some (bi x), some (bi k), none] []
  refine bg_aload_n C d_bg_way_0 rfl rfl ?_
  refine bg_iload_n C d_bg_way_1 rfl rfl ?_
  refine bg_cvt C (m_bg_mustHaveWayTo hG hI.1 (by omega) (by omega)) (bg_invV C cf_bg rfl tw_607 ti_bg_mustHaveWayTo ts_bg_mustHaveWayTo tc_bg_mustHaveWayTo tw_35 ⟨by decide, by decide⟩ (nA := 1) (by decide +kernel) rfl d_bg_way_2 rfl) rfl (by rw [hR]; exact ⟨by decide, by decide⟩) (by rw [hR]; exact ⟨by decide, by decide⟩) (Nat.le_of_ble_eq_true rfl) rfl (fun w1 p1 => ?_) (fun X1 w1 p1 => bg_thru C (fun _ => rfl) hex (by decide) (by decide) ?_)
  · obtain ⟨rfl, r1_0, r1_1⟩ := p1
    refine bg_aload_n C d_bg_way_5 rfl rfl ?_
    refine bg_getr (i := 5) C cf_bg rfl (by decide) rfl tw_209 d_bg_way_6 ?_
    refine bg_iload_n C d_bg_way_9 rfl rfl ?_
    refine bg_ci C (m_wy_length hG hI.1 (by omega) (by omega)) (bg_invV C cf_wy rfl tw_627 ti_wy_length ts_wy_length tc_wy_length tw_41 ⟨by decide, by decide⟩ (nA := 1) (by decide +kernel) rfl d_bg_way_10 rfl) rfl (by rw [hR]; exact ⟨by decide, by decide⟩) (by rw [hR]; exact ⟨by decide, by decide⟩) (Nat.le_of_ble_eq_true rfl) rfl (fun v2 w2 p2 => ?_)
    obtain ⟨rfl, r2_0, r2_1⟩ := p2
    refine bg_istore_n C d_bg_way_13 rfl (Nat.le_of_ble_eq_true rfl) ?_
    refine bg_iload_n C d_bg_way_14 rfl rfl ?_
    refine bg_if_lt (tgt := 23) C d_bg_way_15 (by decide) ⟨by omega, by omega⟩ (fun h3 => ?_) (fun h3 => ?_)
    · exact bg_throw (X := 4) (names := xn) C hex rfl d_bg_way_23 d_bg_way_26 d_bg_way_27 d_bg_way_29 d_bg_way_32 tw_631 xi_4 xj_4 tl_640 xa_4 (by decide +kernel) xf (by rw [hR]; decide) (by rw [hR]; decide) rfl (by rw [hR]; decide) (by rw [hR]; decide) (by decide) (by decide) (Or.inr ⟨_, rfl, rfl, by omega⟩)
    · refine bg_iload_n C d_bg_way_18 rfl rfl ?_
      refine bg_iload_n C d_bg_way_19 rfl rfl ?_
      refine bg_icmp_lt (tgt := 33) C d_bg_way_20 (by decide) ⟨by omega, by omega⟩ ⟨by omega, by omega⟩ (fun h4 => ?_) (fun h4 => ?_)
      · refine bg_aload_n C d_bg_way_33 rfl rfl ?_
        refine bg_getr (i := 5) C cf_bg rfl (by decide) rfl tw_209 d_bg_way_34 ?_
        refine bg_iload_n C d_bg_way_37 rfl rfl ?_
        refine bg_iload_n C d_bg_way_38 rfl rfl ?_
        refine bg_iconst C d_bg_way_39 ?_
        refine bg_isub C d_bg_way_40 ?_
        refine bg_iload_n C d_bg_way_41 rfl rfl ?_
        refine bg_isub C d_bg_way_42 ?_
        refine bg_ci C (m_wy_goBack hG hI.1 (by omega) (by omega) (by omega) (by omega)) (bg_invV C cf_wy rfl tw_647 ti_wy_goBack ts_wy_goBack tc_wy_goBack tw_41 ⟨by decide, by decide⟩ (nA := 2) (by decide +kernel) rfl d_bg_way_43 rfl) rfl (by rw [hR]; exact ⟨by decide, by decide⟩) (by rw [hR]; exact ⟨by decide, by decide⟩) (Nat.le_of_ble_eq_true rfl) rfl (fun v5 w5 p5 => ?_)
        obtain rfl := p5
        exact bg_iret C d_bg_way_46 (fun _ => rfl) (Or.inl rfl) (Nat.zero_le _) (Nat.zero_le _) (Or.inl ⟨_, rfl, rfl⟩)
      · exact bg_throw (X := 4) (names := xn) C hex rfl d_bg_way_23 d_bg_way_26 d_bg_way_27 d_bg_way_29 d_bg_way_32 tw_631 xi_4 xj_4 tl_640 xa_4 (by decide +kernel) xf (by rw [hR]; decide) (by rw [hR]; decide) rfl (by rw [hR]; decide) (by rw [hR]; decide) (by decide) (by decide) (Or.inr ⟨_, rfl, rfl, by omega⟩)
  · exact Or.inr ⟨_, rfl, p1.1, by have := p1.2; omega⟩
def rm_bg_atHand : Room := { frames := 6, cells := 1, slots := 6, locals := 82 }
set_option maxRecDepth 20000 in
set_option maxHeartbeats 4000000 in
theorem m_bg_atHand {G : bgGl} (hG : bgOk G) {w0 : bgW} (hw : bgN w0) {k : Int} (z0 : -2147483648 ≤ k) (z1 : k ≤ 2147483647) : bgM G true 0 0 y_bg_atHand (.code y_bg_atHand co_bg_atHand 2 (some .int)) rm_bg_atHand [br 0, bi k] w0 (bgPit (fun v w' => w0 = w') (fun X w' => w0 = w' ∧ (X = 4))) := by
  refine bg_met hG (by decide +kernel) (bg_cat rfl) (Nat.le_of_ble_eq_true rfl) ?_
  intro K hK hR hex C
  subst hK
  have hI := bgRel.rfl hw
  show bgX K true 0 0 _ w0 0 [some (br 0), some (bi k)] []
  refine bg_iload_n C d_bg_atHand_0 rfl rfl ?_
  refine bg_if_lt (tgt := 15) C d_bg_atHand_1 (by decide) ⟨by omega, by omega⟩ (fun h1 => ?_) (fun h1 => ?_)
  · exact bg_throw (X := 4) (names := xn) C hex rfl d_bg_atHand_15 d_bg_atHand_18 d_bg_atHand_19 d_bg_atHand_21 d_bg_atHand_24 tw_631 xi_4 xj_4 tl_658 xa_4 (by decide +kernel) xf (by rw [hR]; decide) (by rw [hR]; decide) rfl (by rw [hR]; decide) (by rw [hR]; decide) (by decide) (by decide) (Or.inr ⟨_, rfl, rfl, by omega⟩)
  · refine bg_iload_n C d_bg_atHand_4 rfl rfl ?_
    refine bg_aload_n C d_bg_atHand_5 rfl rfl ?_
    refine bg_getr (i := 1) C cf_bg rfl (by decide) rfl tw_205 d_bg_atHand_6 ?_
    refine bq_geti C cf_hd hI 1 1 rfl rfl (by decide) rfl (by decide) rfl tw_86 d_bg_atHand_9 (fun v2 e2 a2 b2 => ?_)
    refine bg_icmp_lt (tgt := 25) C d_bg_atHand_12 (by decide) ⟨by omega, by omega⟩ ⟨by omega, by omega⟩ (fun h3 => ?_) (fun h3 => ?_)
    · refine bg_aload_n C d_bg_atHand_25 rfl rfl ?_
      refine bg_getr (i := 1) C cf_bg rfl (by decide) rfl tw_205 d_bg_atHand_26 ?_
      refine bg_getr (i := 0) C cf_hd rfl (by decide) rfl tw_84 d_bg_atHand_29 ?_
      refine bg_iload_n C d_bg_atHand_32 rfl rfl ?_
      refine bq_iald0 C rfl (by omega) (by omega) d_bg_atHand_33 (fun v4 e4 => ?_)
      exact bg_iret C d_bg_atHand_34 (fun _ => rfl) (Or.inl rfl) (Nat.zero_le _) (Nat.zero_le _) (Or.inl ⟨_, rfl, rfl⟩)
    · exact bg_throw (X := 4) (names := xn) C hex rfl d_bg_atHand_15 d_bg_atHand_18 d_bg_atHand_19 d_bg_atHand_21 d_bg_atHand_24 tw_631 xi_4 xj_4 tl_658 xa_4 (by decide +kernel) xf (by rw [hR]; decide) (by rw [hR]; decide) rfl (by rw [hR]; decide) (by rw [hR]; decide) (by decide) (by decide) (Or.inr ⟨_, rfl, rfl, by omega⟩)
def rm_bg_count : Room := { frames := 6, cells := 1, slots := 6, locals := 82 }
set_option maxRecDepth 20000 in
set_option maxHeartbeats 4000000 in
theorem m_bg_count {G : bgGl} (hG : bgOk G) {w0 : bgW} (hw : bgN w0) {k : Int} (z0 : -2147483648 ≤ k) (z1 : k ≤ 2147483647) : bgM G true 0 0 y_bg_count (.code y_bg_count co_bg_count 2 (some .int)) rm_bg_count [br 0, bi k] w0 (bgPit (fun v w' => w0 = w') (fun X w' => w0 = w' ∧ (X = 1))) := by
  refine bg_met hG (by decide +kernel) (bg_cat rfl) (Nat.le_of_ble_eq_true rfl) ?_
  intro K hK hR hex C
  subst hK
  have hI := bgRel.rfl hw
  show bgX K true 0 0 _ w0 0 [some (br 0), some (bi k)] []
  refine bg_iload_n C d_bg_count_0 rfl rfl ?_
  by_cases h1 : k < 0 ∨ 7 < k
  · refine bg_tabOut (tgt := 157) C d_bg_count_1 ⟨by omega, by omega⟩ h1 (by decide) ?_
    exact bg_throw (X := 1) (names := xn) C hex rfl d_bg_count_157 d_bg_count_160 d_bg_count_161 d_bg_count_163 d_bg_count_166 tw_428 xi_1 xj_1 tl_666 xa_1 (by decide +kernel) xf (by rw [hR]; decide) (by rw [hR]; decide) rfl (by rw [hR]; decide) (by rw [hR]; decide) (by decide) (by decide) (Or.inr ⟨_, rfl, rfl, by omega⟩)
  · have g1 : k = 0 ∨ k = 1 ∨ k = 2 ∨ k = 3 ∨ k = 4 ∨ k = 5 ∨ k = 6 ∨ k = 7 := by omega
    rcases g1 with g1 | g1 | g1 | g1 | g1 | g1 | g1 | g1
    · refine bg_tabIn (k := 0) (tgt := 48) C d_bg_count_1 g1 ⟨by omega, by omega⟩ (by decide) (by decide) rfl (by decide) ?_
      refine bg_aload_n C d_bg_count_48 rfl rfl ?_
      refine bq_geti C cf_bg hI 6 6 rfl rfl (by decide) rfl (by decide) rfl tw_210 d_bg_count_49 (fun v2 e2 a2 b2 => ?_)
      refine bg_if_eq (tgt := 65) C d_bg_count_52 (by decide) ⟨by omega, by omega⟩ (fun h3 => ?_) (fun h3 => ?_)
      · refine bg_iconst C d_bg_count_65 ?_
        exact bg_iret C d_bg_count_66 (fun _ => rfl) (Or.inl rfl) (Nat.zero_le _) (Nat.zero_le _) (Or.inl ⟨_, rfl, rfl⟩)
      · refine bg_aload_n C d_bg_count_55 rfl rfl ?_
        refine bg_getr (i := 3) C cf_bg rfl (by decide) rfl tw_207 d_bg_count_56 ?_
        refine bq_get0 C cf_et 3 3 rfl rfl (by decide) rfl tw_146 d_bg_count_59 (fun v4 e4 => ?_)
        refine bg_goto (l := 66) C d_bg_count_62 (by decide) ?_
        exact bg_iret C d_bg_count_66 (fun _ => rfl) (Or.inl rfl) (Nat.zero_le _) (Nat.zero_le _) (Or.inl ⟨_, rfl, rfl⟩)
    · refine bg_tabIn (k := 1) (tgt := 67) C d_bg_count_1 g1 ⟨by omega, by omega⟩ (by decide) (by decide) rfl (by decide) ?_
      refine bg_aload_n C d_bg_count_67 rfl rfl ?_
      refine bg_getr (i := 0) C cf_bg rfl (by decide) rfl tw_204 d_bg_count_68 ?_
      refine bq_get0 C cf_pw 1 1 rfl rfl (by decide) rfl tw_71 d_bg_count_71 (fun v5 e5 => ?_)
      exact bg_iret C d_bg_count_74 (fun _ => rfl) (Or.inl rfl) (Nat.zero_le _) (Nat.zero_le _) (Or.inl ⟨_, rfl, rfl⟩)
    · refine bg_tabIn (k := 2) (tgt := 75) C d_bg_count_1 g1 ⟨by omega, by omega⟩ (by decide) (by decide) rfl (by decide) ?_
      refine bg_aload_n C d_bg_count_75 rfl rfl ?_
      refine bg_getr (i := 1) C cf_bg rfl (by decide) rfl tw_205 d_bg_count_76 ?_
      refine bq_get0 C cf_hd 2 2 rfl rfl (by decide) rfl tw_88 d_bg_count_79 (fun v6 e6 => ?_)
      exact bg_iret C d_bg_count_82 (fun _ => rfl) (Or.inl rfl) (Nat.zero_le _) (Nat.zero_le _) (Or.inl ⟨_, rfl, rfl⟩)
    · refine bg_tabIn (k := 3) (tgt := 83) C d_bg_count_1 g1 ⟨by omega, by omega⟩ (by decide) (by decide) rfl (by decide) ?_
      refine bg_aload_n C d_bg_count_83 rfl rfl ?_
      refine bq_geti C cf_bg hI 6 6 rfl rfl (by decide) rfl (by decide) rfl tw_210 d_bg_count_84 (fun v7 e7 a7 b7 => ?_)
      refine bg_if_eq (tgt := 107) C d_bg_count_87 (by decide) ⟨by omega, by omega⟩ (fun h8 => ?_) (fun h8 => ?_)
      · refine bg_iconst C d_bg_count_107 ?_
        exact bg_iret C d_bg_count_108 (fun _ => rfl) (Or.inl rfl) (Nat.zero_le _) (Nat.zero_le _) (Or.inl ⟨_, rfl, rfl⟩)
      · refine bg_aload_n C d_bg_count_90 rfl rfl ?_
        refine bq_geti C cf_bg hI 7 7 rfl rfl (by decide) rfl (by decide) rfl tw_211 d_bg_count_91 (fun v9 e9 a9 b9 => ?_)
        refine bg_if_eq (tgt := 107) C d_bg_count_94 (by decide) ⟨by omega, by omega⟩ (fun h10 => ?_) (fun h10 => ?_)
        · refine bg_iconst C d_bg_count_107 ?_
          exact bg_iret C d_bg_count_108 (fun _ => rfl) (Or.inl rfl) (Nat.zero_le _) (Nat.zero_le _) (Or.inl ⟨_, rfl, rfl⟩)
        · refine bg_aload_n C d_bg_count_97 rfl rfl ?_
          refine bg_getr (i := 4) C cf_bg rfl (by decide) rfl tw_208 d_bg_count_98 ?_
          refine bq_geti C cf_op hI 4 4 rfl rfl (by decide) rfl (by decide) rfl tw_118 d_bg_count_101 (fun v11 e11 a11 b11 => ?_)
          refine bg_goto (l := 108) C d_bg_count_104 (by decide) ?_
          exact bg_iret C d_bg_count_108 (fun _ => rfl) (Or.inl rfl) (Nat.zero_le _) (Nat.zero_le _) (Or.inl ⟨_, rfl, rfl⟩)
    · refine bg_tabIn (k := 4) (tgt := 109) C d_bg_count_1 g1 ⟨by omega, by omega⟩ (by decide) (by decide) rfl (by decide) ?_
      refine bg_aload_n C d_bg_count_109 rfl rfl ?_
      refine bg_getr (i := 1) C cf_bg rfl (by decide) rfl tw_205 d_bg_count_110 ?_
      refine bq_geti C cf_hd hI 1 1 rfl rfl (by decide) rfl (by decide) rfl tw_86 d_bg_count_113 (fun v12 e12 a12 b12 => ?_)
      exact bg_iret C d_bg_count_116 (fun _ => rfl) (Or.inl rfl) (Nat.zero_le _) (Nat.zero_le _) (Or.inl ⟨_, rfl, rfl⟩)
    · refine bg_tabIn (k := 5) (tgt := 117) C d_bg_count_1 g1 ⟨by omega, by omega⟩ (by decide) (by decide) rfl (by decide) ?_
      refine bg_aload_n C d_bg_count_117 rfl rfl ?_
      refine bg_getr (i := 0) C cf_bg rfl (by decide) rfl tw_204 d_bg_count_118 ?_
      refine bq_get0 C cf_pw 0 0 rfl rfl (by decide) rfl tw_69 d_bg_count_121 (fun v13 e13 => ?_)
      exact bg_iret C d_bg_count_124 (fun _ => rfl) (Or.inl rfl) (Nat.zero_le _) (Nat.zero_le _) (Or.inl ⟨_, rfl, rfl⟩)
    · refine bg_tabIn (k := 6) (tgt := 125) C d_bg_count_1 g1 ⟨by omega, by omega⟩ (by decide) (by decide) rfl (by decide) ?_
      refine bg_aload_n C d_bg_count_125 rfl rfl ?_
      refine bg_getr (i := 2) C cf_bg rfl (by decide) rfl tw_206 d_bg_count_126 ?_
      refine bq_geti C cf_so hI 4 4 rfl rfl (by decide) rfl (by decide) rfl tw_162 d_bg_count_129 (fun v14 e14 a14 b14 => ?_)
      refine bg_if_eq (tgt := 142) C d_bg_count_132 (by decide) ⟨by omega, by omega⟩ (fun h15 => ?_) (fun h15 => ?_)
      · refine bg_iconst C d_bg_count_142 ?_
        exact bg_iret C d_bg_count_143 (fun _ => rfl) (Or.inl rfl) (Nat.zero_le _) (Nat.zero_le _) (Or.inl ⟨_, rfl, rfl⟩)
      · refine bg_aload_n C d_bg_count_135 rfl rfl ?_
        refine bq_get0 C cf_bg 8 8 rfl rfl (by decide) rfl tw_212 d_bg_count_136 (fun v16 e16 => ?_)
        refine bg_goto (l := 143) C d_bg_count_139 (by decide) ?_
        exact bg_iret C d_bg_count_143 (fun _ => rfl) (Or.inl rfl) (Nat.zero_le _) (Nat.zero_le _) (Or.inl ⟨_, rfl, rfl⟩)
    · refine bg_tabIn (k := 7) (tgt := 144) C d_bg_count_1 g1 ⟨by omega, by omega⟩ (by decide) (by decide) rfl (by decide) ?_
      refine bg_aload_n C d_bg_count_144 rfl rfl ?_
      refine bq_geti C cf_bg hI 6 6 rfl rfl (by decide) rfl (by decide) rfl tw_210 d_bg_count_145 (fun v17 e17 a17 b17 => ?_)
      refine bg_if_eq (tgt := 155) C d_bg_count_148 (by decide) ⟨by omega, by omega⟩ (fun h18 => ?_) (fun h18 => ?_)
      · refine bg_iconst C d_bg_count_155 ?_
        exact bg_iret C d_bg_count_156 (fun _ => rfl) (Or.inl rfl) (Nat.zero_le _) (Nat.zero_le _) (Or.inl ⟨_, rfl, rfl⟩)
      · refine bg_iconst C d_bg_count_151 ?_
        refine bg_goto (l := 156) C d_bg_count_152 (by decide) ?_
        exact bg_iret C d_bg_count_156 (fun _ => rfl) (Or.inl rfl) (Nat.zero_le _) (Nat.zero_le _) (Or.inl ⟨_, rfl, rfl⟩)
