def S_mo_thrown : List (Nat × Option Int) := []
def rm_mo_thrown : Room := { frames := 0, cells := 0, slots := 0, locals := 0 }
set_option maxRecDepth 20000 in
set_option maxHeartbeats 4000000 in
theorem m_mo_thrown {G : bgGl} (hG : bgOk G) {w0 : bgW} (hw : moN w0) : bgM G true 0 0 y_mo_thrown (.code y_mo_thrown co_mo_thrown 1 (some .int)) rm_mo_thrown [br 27] w0 (bgPi (fun v w' => w0 = w' ∧ v = w0 27 0)) := by
  refine bg_met hG (by decide +kernel) (bg_cat rfl) (Nat.le_of_ble_eq_true rfl) ?_
  intro K hK hR hex C
  subst hK
  have hI := moRel.rfl (S := S_mo_thrown) hw
  show bgX K true 0 0 _ w0 0 [some (br 27)] []
  refine bg_aload_n C d_mo_thrown_0 rfl rfl ?_
  refine bm_geti C cf_mo hI 0 0 rfl rfl (by decide) rfl rfl tw_677 d_mo_thrown_1 (fun v1 e1 a1 b1 => ?_)
  exact bg_iret C d_mo_thrown_4 (fun _ => rfl) (Or.inl rfl) (Nat.zero_le _) (Nat.zero_le _) ⟨_, rfl, rfl, by omega⟩
def S_mo_clear : List (Nat × Option Int) := [(28, none)]
def rm_mo_clear : Room := { frames := 0, cells := 0, slots := 0, locals := 0 }
set_option maxRecDepth 20000 in
set_option maxHeartbeats 4000000 in
theorem m_mo_clear {G : bgGl} (hG : bgOk G) {w0 : bgW} (hw : moN w0) : bgM G false 0 0 y_mo_clear (.code y_mo_clear co_mo_clear 2 none) rm_mo_clear [br 27] w0 (bgPv (fun w' => moRel S_mo_clear w0 w' ∧ (∀ e, 0 ≤ e → e < 400 → w' 28 e = -1))) := by
  refine bg_met hG (by decide +kernel) (bg_cat rfl) (Nat.le_of_ble_eq_true rfl) ?_
  intro K hK hR hex C
  subst hK
  have hI := moRel.rfl (S := S_mo_clear) hw
  show bgX K true 0 0 _ w0 0 [some (br 27), none] []
  refine bg_iconst C d_mo_clear_0 ?_
  refine bg_istore_n C d_mo_clear_1 rfl (Nat.le_of_ble_eq_true rfl) ?_
  refine bg_weak ?_
  refine bg_loop (α := bgW × Int) (fun a => (400 - a.2).toNat) (fun a => moRel S_mo_clear w0 a.1 ∧ 0 ≤ a.2 ∧ a.2 ≤ 400 ∧ (∀ e, 0 ≤ e → e < a.2 → a.1 28 e = -1)) (fun a => (a.1, [some (br 27), some (bi a.2)], [])) ?_ (w0, 0) ⟨hI, by (try dsimp only) <;> omega, by (try dsimp only) <;> omega, fun e h0 h1 => absurd h1 (by dsimp only; omega)⟩
  rintro ⟨w1, i1⟩ ⟨hI1, q1_0, q1_1, q1_2⟩ ih2
  try dsimp only at ih2
  try dsimp only at q1_0
  try dsimp only at q1_1
  try dsimp only at q1_2
  try dsimp only
  refine bg_iload_n C d_mo_clear_2 rfl rfl ?_
  refine bg_sipush C d_mo_clear_3 (by decide +kernel) ?_
  refine bg_icmp_ge (tgt := 22) C d_mo_clear_6 (by decide) ⟨by omega, by omega⟩ ⟨by omega, by omega⟩ (fun h2 => ?_) (fun h2 => ?_)
  · exact bg_ret C d_mo_clear_22 (fun h => by cases h) rfl (Nat.zero_le _) (Nat.zero_le _) ⟨rfl, hI1, fun e h0 h1 => q1_2 e h0 (by omega)⟩
  · refine bg_aload_n C d_mo_clear_9 rfl rfl ?_
    refine bg_getr (i := 1) C cf_mo rfl (by decide) rfl tw_678 d_mo_clear_10 ?_
    refine bg_iload_n C d_mo_clear_13 rfl rfl ?_
    refine bg_iconst C d_mo_clear_14 ?_
    refine bm_iast C hI1 rfl rfl rfl (by omega) (by omega) (by omega) (by omega) d_mo_clear_15 (fun w3 hI3 e3 => ?_)
    refine bg_iinc C d_mo_clear_16 rfl ?_
    refine bg_goto (l := 2) C d_mo_clear_19 (by decide) ?_
    exact ih2 (w3, (i1 + 1)) ⟨hI3, by (try dsimp only) <;> omega, by (try dsimp only) <;> omega, fun e h0 h1 => by dsimp only at h1 ⊢; rw [e3]; unfold bgU; split <;> first | rfl | exact q1_2 e h0 (by omega)⟩ (by (try dsimp only) <;> omega)
def S_mo_copy_home : List (Nat × Option Int) := [(28, none), (29, none), (30, none)]
def rm_mo_copy_home : Room := { frames := 0, cells := 0, slots := 0, locals := 0 }
set_option maxRecDepth 20000 in
set_option maxHeartbeats 4000000 in
theorem m_mo_copy_home {G : bgGl} (hG : bgOk G) {w0 : bgW} (hw : moN w0) : bgM G false 0 0 y_mo_copy (.code y_mo_copy co_mo_copy 4 none) rm_mo_copy_home [br 27, bi 0, bi 200] w0 (bgPv (fun w' => moRel S_mo_copy_home w0 w' ∧ (∀ k e, (k = 28 ∨ k = 29 ∨ k = 30) → 0 ≤ e → e < 200 → w' k (0 + e) = w0 k (200 + e) ∧ w' k (200 + e) = w0 k (200 + e)))) := by
  refine bg_met hG (by decide +kernel) (bg_cat rfl) (Nat.le_of_ble_eq_true rfl) ?_
  intro K hK hR hex C
  subst hK
  have hI := moRel.rfl (S := S_mo_copy_home) hw
  show bgX K true 0 0 _ w0 0 [some (br 27), some (bi 0), some (bi 200), none] []
  refine bg_iconst C d_mo_copy_0 ?_
  refine bg_istore_n C d_mo_copy_1 rfl (Nat.le_of_ble_eq_true rfl) ?_
  refine bg_weak ?_
  refine bg_loop (α := bgW × Int) (fun a => (200 - a.2).toNat) (fun a => moRel S_mo_copy_home w0 a.1 ∧ 0 ≤ a.2 ∧ a.2 ≤ 200 ∧ (∀ k e, (k = 28 ∨ k = 29 ∨ k = 30) → 0 ≤ e → e < 200 → (e < a.2 → a.1 k (0 + e) = w0 k (200 + e)) ∧ a.1 k (200 + e) = w0 k (200 + e))) (fun a => (a.1, [some (br 27), some (bi 0), some (bi 200), some (bi a.2)], [])) ?_ (w0, 0) ⟨hI, by (try dsimp only) <;> omega, by (try dsimp only) <;> omega, fun k e _ h0 h1 => ⟨fun h => absurd h (by dsimp only; omega), rfl⟩⟩
  rintro ⟨w1, i1⟩ ⟨hI1, q1_0, q1_1, q1_2⟩ ih2
  try dsimp only at ih2
  try dsimp only at q1_0
  try dsimp only at q1_1
  try dsimp only at q1_2
  try dsimp only
  refine bg_iload_n C d_mo_copy_2 rfl rfl ?_
  refine bg_sipush C d_mo_copy_3 (by decide +kernel) ?_
  refine bg_icmp_ge (tgt := 63) C d_mo_copy_6 (by decide) ⟨by omega, by omega⟩ ⟨by omega, by omega⟩ (fun h2 => ?_) (fun h2 => ?_)
  · exact bg_ret C d_mo_copy_63 (fun h => by cases h) rfl (Nat.zero_le _) (Nat.zero_le _) ⟨rfl, hI1, fun k e hk h0 h1 => ⟨(q1_2 k e hk h0 h1).1 (by omega), (q1_2 k e hk h0 h1).2⟩⟩
  · refine bg_aload_n C d_mo_copy_9 rfl rfl ?_
    refine bg_getr (i := 1) C cf_mo rfl (by decide) rfl tw_678 d_mo_copy_10 ?_
    refine bg_iload_n C d_mo_copy_13 rfl rfl ?_
    refine bg_iload_n C d_mo_copy_14 rfl rfl ?_
    refine bg_iadd C d_mo_copy_15 ?_
    refine bg_aload_n C d_mo_copy_16 rfl rfl ?_
    refine bg_getr (i := 1) C cf_mo rfl (by decide) rfl tw_678 d_mo_copy_17 ?_
    refine bg_iload_n C d_mo_copy_20 rfl rfl ?_
    refine bg_iload_n C d_mo_copy_21 rfl rfl ?_
    refine bg_iadd C d_mo_copy_22 ?_
    refine bm_iald C hI1 rfl rfl (by omega) (by omega) d_mo_copy_23 (fun v3 e3 a3 b3 => ?_)
    refine bm_iast C hI1 rfl rfl rfl (by omega) (by omega) (by omega) (by omega) d_mo_copy_24 (fun w4 hI4 e4 => ?_)
    refine bg_aload_n C d_mo_copy_25 rfl rfl ?_
    refine bg_getr (i := 2) C cf_mo rfl (by decide) rfl tw_679 d_mo_copy_26 ?_
    refine bg_iload_n C d_mo_copy_29 rfl rfl ?_
    refine bg_iload_n C d_mo_copy_30 rfl rfl ?_
    refine bg_iadd C d_mo_copy_31 ?_
    refine bg_aload_n C d_mo_copy_32 rfl rfl ?_
    refine bg_getr (i := 2) C cf_mo rfl (by decide) rfl tw_679 d_mo_copy_33 ?_
    refine bg_iload_n C d_mo_copy_36 rfl rfl ?_
    refine bg_iload_n C d_mo_copy_37 rfl rfl ?_
    refine bg_iadd C d_mo_copy_38 ?_
    refine bm_iald C hI4 rfl rfl (by omega) (by omega) d_mo_copy_39 (fun v5 e5 a5 b5 => ?_)
    refine bm_iast C hI4 rfl rfl rfl (by omega) (by omega) (by omega) (by omega) d_mo_copy_40 (fun w6 hI6 e6 => ?_)
    refine bg_aload_n C d_mo_copy_41 rfl rfl ?_
    refine bg_getr (i := 3) C cf_mo rfl (by decide) rfl tw_680 d_mo_copy_42 ?_
    refine bg_iload_n C d_mo_copy_45 rfl rfl ?_
    refine bg_iload_n C d_mo_copy_46 rfl rfl ?_
    refine bg_iadd C d_mo_copy_47 ?_
    refine bg_aload_n C d_mo_copy_48 rfl rfl ?_
    refine bg_getr (i := 3) C cf_mo rfl (by decide) rfl tw_680 d_mo_copy_49 ?_
    refine bg_iload_n C d_mo_copy_52 rfl rfl ?_
    refine bg_iload_n C d_mo_copy_53 rfl rfl ?_
    refine bg_iadd C d_mo_copy_54 ?_
    refine bm_iald C hI6 rfl rfl (by omega) (by omega) d_mo_copy_55 (fun v7 e7 a7 b7 => ?_)
    refine bm_iast C hI6 rfl rfl rfl (by omega) (by omega) (by omega) (by omega) d_mo_copy_56 (fun w8 hI8 e8 => ?_)
    refine bg_iinc C d_mo_copy_57 rfl ?_
    refine bg_goto (l := 2) C d_mo_copy_60 (by decide) ?_
    exact ih2 (w8, (i1 + 1)) ⟨hI8, by (try dsimp only) <;> omega, by (try dsimp only) <;> omega, bm_copyStep 0 200 (by omega) (by omega) (by omega) q1_2 (by assumption) (by assumption) (by assumption) (by assumption) (by assumption) (by assumption)⟩ (by (try dsimp only) <;> omega)
def S_mo_copy_vis : List (Nat × Option Int) := [(28, none), (29, none), (30, none)]
def rm_mo_copy_vis : Room := { frames := 0, cells := 0, slots := 0, locals := 0 }
set_option maxRecDepth 20000 in
set_option maxHeartbeats 4000000 in
theorem m_mo_copy_vis {G : bgGl} (hG : bgOk G) {w0 : bgW} (hw : moN w0) : bgM G false 0 0 y_mo_copy (.code y_mo_copy co_mo_copy 4 none) rm_mo_copy_vis [br 27, bi 200, bi 0] w0 (bgPv (fun w' => moRel S_mo_copy_vis w0 w' ∧ (∀ k e, (k = 28 ∨ k = 29 ∨ k = 30) → 0 ≤ e → e < 200 → w' k (200 + e) = w0 k (0 + e) ∧ w' k (0 + e) = w0 k (0 + e)))) := by
  refine bg_met hG (by decide +kernel) (bg_cat rfl) (Nat.le_of_ble_eq_true rfl) ?_
  intro K hK hR hex C
  subst hK
  have hI := moRel.rfl (S := S_mo_copy_vis) hw
  show bgX K true 0 0 _ w0 0 [some (br 27), some (bi 200), some (bi 0), none] []
  refine bg_iconst C d_mo_copy_0 ?_
  refine bg_istore_n C d_mo_copy_1 rfl (Nat.le_of_ble_eq_true rfl) ?_
  refine bg_weak ?_
  refine bg_loop (α := bgW × Int) (fun a => (200 - a.2).toNat) (fun a => moRel S_mo_copy_vis w0 a.1 ∧ 0 ≤ a.2 ∧ a.2 ≤ 200 ∧ (∀ k e, (k = 28 ∨ k = 29 ∨ k = 30) → 0 ≤ e → e < 200 → (e < a.2 → a.1 k (200 + e) = w0 k (0 + e)) ∧ a.1 k (0 + e) = w0 k (0 + e))) (fun a => (a.1, [some (br 27), some (bi 200), some (bi 0), some (bi a.2)], [])) ?_ (w0, 0) ⟨hI, by (try dsimp only) <;> omega, by (try dsimp only) <;> omega, fun k e _ h0 h1 => ⟨fun h => absurd h (by dsimp only; omega), rfl⟩⟩
  rintro ⟨w1, i1⟩ ⟨hI1, q1_0, q1_1, q1_2⟩ ih2
  try dsimp only at ih2
  try dsimp only at q1_0
  try dsimp only at q1_1
  try dsimp only at q1_2
  try dsimp only
  refine bg_iload_n C d_mo_copy_2 rfl rfl ?_
  refine bg_sipush C d_mo_copy_3 (by decide +kernel) ?_
  refine bg_icmp_ge (tgt := 63) C d_mo_copy_6 (by decide) ⟨by omega, by omega⟩ ⟨by omega, by omega⟩ (fun h2 => ?_) (fun h2 => ?_)
  · exact bg_ret C d_mo_copy_63 (fun h => by cases h) rfl (Nat.zero_le _) (Nat.zero_le _) ⟨rfl, hI1, fun k e hk h0 h1 => ⟨(q1_2 k e hk h0 h1).1 (by omega), (q1_2 k e hk h0 h1).2⟩⟩
  · refine bg_aload_n C d_mo_copy_9 rfl rfl ?_
    refine bg_getr (i := 1) C cf_mo rfl (by decide) rfl tw_678 d_mo_copy_10 ?_
    refine bg_iload_n C d_mo_copy_13 rfl rfl ?_
    refine bg_iload_n C d_mo_copy_14 rfl rfl ?_
    refine bg_iadd C d_mo_copy_15 ?_
    refine bg_aload_n C d_mo_copy_16 rfl rfl ?_
    refine bg_getr (i := 1) C cf_mo rfl (by decide) rfl tw_678 d_mo_copy_17 ?_
    refine bg_iload_n C d_mo_copy_20 rfl rfl ?_
    refine bg_iload_n C d_mo_copy_21 rfl rfl ?_
    refine bg_iadd C d_mo_copy_22 ?_
    refine bm_iald C hI1 rfl rfl (by omega) (by omega) d_mo_copy_23 (fun v3 e3 a3 b3 => ?_)
    refine bm_iast C hI1 rfl rfl rfl (by omega) (by omega) (by omega) (by omega) d_mo_copy_24 (fun w4 hI4 e4 => ?_)
    refine bg_aload_n C d_mo_copy_25 rfl rfl ?_
    refine bg_getr (i := 2) C cf_mo rfl (by decide) rfl tw_679 d_mo_copy_26 ?_
    refine bg_iload_n C d_mo_copy_29 rfl rfl ?_
    refine bg_iload_n C d_mo_copy_30 rfl rfl ?_
    refine bg_iadd C d_mo_copy_31 ?_
    refine bg_aload_n C d_mo_copy_32 rfl rfl ?_
    refine bg_getr (i := 2) C cf_mo rfl (by decide) rfl tw_679 d_mo_copy_33 ?_
    refine bg_iload_n C d_mo_copy_36 rfl rfl ?_
    refine bg_iload_n C d_mo_copy_37 rfl rfl ?_
    refine bg_iadd C d_mo_copy_38 ?_
    refine bm_iald C hI4 rfl rfl (by omega) (by omega) d_mo_copy_39 (fun v5 e5 a5 b5 => ?_)
    refine bm_iast C hI4 rfl rfl rfl (by omega) (by omega) (by omega) (by omega) d_mo_copy_40 (fun w6 hI6 e6 => ?_)
    refine bg_aload_n C d_mo_copy_41 rfl rfl ?_
    refine bg_getr (i := 3) C cf_mo rfl (by decide) rfl tw_680 d_mo_copy_42 ?_
    refine bg_iload_n C d_mo_copy_45 rfl rfl ?_
    refine bg_iload_n C d_mo_copy_46 rfl rfl ?_
    refine bg_iadd C d_mo_copy_47 ?_
    refine bg_aload_n C d_mo_copy_48 rfl rfl ?_
    refine bg_getr (i := 3) C cf_mo rfl (by decide) rfl tw_680 d_mo_copy_49 ?_
    refine bg_iload_n C d_mo_copy_52 rfl rfl ?_
    refine bg_iload_n C d_mo_copy_53 rfl rfl ?_
    refine bg_iadd C d_mo_copy_54 ?_
    refine bm_iald C hI6 rfl rfl (by omega) (by omega) d_mo_copy_55 (fun v7 e7 a7 b7 => ?_)
    refine bm_iast C hI6 rfl rfl rfl (by omega) (by omega) (by omega) (by omega) d_mo_copy_56 (fun w8 hI8 e8 => ?_)
    refine bg_iinc C d_mo_copy_57 rfl ?_
    refine bg_goto (l := 2) C d_mo_copy_60 (by decide) ?_
    exact ih2 (w8, (i1 + 1)) ⟨hI8, by (try dsimp only) <;> omega, by (try dsimp only) <;> omega, bm_copyStep 200 0 (by omega) (by omega) (by omega) q1_2 (by assumption) (by assumption) (by assumption) (by assumption) (by assumption) (by assumption)⟩ (by (try dsimp only) <;> omega)
def S_mo_untouch : List (Nat × Option Int) := [(31, none), (27, some 7)]
def rm_mo_untouch : Room := { frames := 0, cells := 0, slots := 0, locals := 0 }
set_option maxRecDepth 20000 in
set_option maxHeartbeats 4000000 in
theorem m_mo_untouch {G : bgGl} (hG : bgOk G) {w0 : bgW} (hw : moN w0) : bgM G false 0 0 y_mo_untouch (.code y_mo_untouch co_mo_untouch 2 none) rm_mo_untouch [br 27] w0 (bgPv (fun w' => moRel S_mo_untouch w0 w' ∧ w' 27 7 = 0)) := by
  refine bg_met hG (by decide +kernel) (bg_cat rfl) (Nat.le_of_ble_eq_true rfl) ?_
  intro K hK hR hex C
  subst hK
  have hI := moRel.rfl (S := S_mo_untouch) hw
  show bgX K true 0 0 _ w0 0 [some (br 27), none] []
  refine bg_iconst C d_mo_untouch_0 ?_
  refine bg_istore_n C d_mo_untouch_1 rfl (Nat.le_of_ble_eq_true rfl) ?_
  refine bg_weak ?_
  refine bg_loop (α := bgW × Int) (fun a => (50 - a.2).toNat) (fun a => moRel S_mo_untouch w0 a.1 ∧ 0 ≤ a.2 ∧ a.2 ≤ 50 ∧ a.1 27 7 = w0 27 7) (fun a => (a.1, [some (br 27), some (bi a.2)], [])) ?_ (w0, 0) ⟨hI, by (try dsimp only) <;> omega, by (try dsimp only) <;> omega, by (try dsimp only) <;> omega⟩
  rintro ⟨w1, i1⟩ ⟨hI1, q1_0, q1_1, q1_2⟩ ih2
  try dsimp only at ih2
  try dsimp only at q1_0
  try dsimp only at q1_1
  try dsimp only at q1_2
  try dsimp only
  refine bg_iload_n C d_mo_untouch_2 rfl rfl ?_
  refine bg_bipush C d_mo_untouch_3 (by decide +kernel) ?_
  refine bg_icmp_ge (tgt := 21) C d_mo_untouch_5 (by decide) ⟨by omega, by omega⟩ ⟨by omega, by omega⟩ (fun h2 => ?_) (fun h2 => ?_)
  · refine bg_aload_n C d_mo_untouch_21 rfl rfl ?_
    refine bg_iconst C d_mo_untouch_22 ?_
    refine bm_puti C cf_mo hI1 7 7 rfl rfl (by decide) rfl rfl rfl (by omega) (by omega) rfl (Or.inl rfl) tw_684 d_mo_untouch_23 (fun w3 hI3 e3 => ?_)
    have g3_0 : w3 27 7 = 0 := by rw [e3]; exact bgU_eq
    exact bg_ret C d_mo_untouch_26 (fun h => by cases h) rfl (Nat.zero_le _) (Nat.zero_le _) ⟨rfl, hI3, by omega⟩
  · refine bg_aload_n C d_mo_untouch_8 rfl rfl ?_
    refine bg_getr (i := 8) C cf_mo rfl (by decide) rfl tw_685 d_mo_untouch_9 ?_
    refine bg_iload_n C d_mo_untouch_12 rfl rfl ?_
    refine bg_iconst C d_mo_untouch_13 ?_
    refine bm_zast C hI1 rfl rfl rfl (by omega) (by omega) (by omega) (by omega) (by omega) d_mo_untouch_14 (fun w4 hI4 e4 => ?_)
    have g4_0 : w4 27 7 = w1 27 7 := by rw [e4]; exact bgU_ne _ (by decide)
    refine bg_iinc C d_mo_untouch_15 rfl ?_
    refine bg_goto (l := 2) C d_mo_untouch_18 (by decide) ?_
    exact ih2 (w4, (i1 + 1)) ⟨hI4, by (try dsimp only) <;> omega, by (try dsimp only) <;> omega, by (try dsimp only) <;> omega⟩ (by (try dsimp only) <;> omega)
def S_mo_isWritten : List (Nat × Option Int) := [(27, some 13), (27, some 5), (27, some 6), (27, some 14)]
def rm_mo_isWritten : Room := { frames := 0, cells := 0, slots := 0, locals := 0 }
set_option maxRecDepth 20000 in
set_option maxHeartbeats 4000000 in
theorem m_mo_isWritten {G : bgGl} (hG : bgOk G) {w0 : bgW} (hw : moN w0) : bgM G false 0 0 y_mo_isWritten (.code y_mo_isWritten co_mo_isWritten 1 (some .boolean)) rm_mo_isWritten [br 27] w0 (bgPi (fun v w' => moRel S_mo_isWritten w0 w' ∧ 0 ≤ v ∧ v ≤ 1 ∧ (v = 0 → w' 27 5 = 1) ∧ (v = 1 → w' 27 5 = w0 27 5) ∧ (v = 1 → w' 27 6 = w0 27 6))) := by
  refine bg_met hG (by decide +kernel) (bg_cat rfl) (Nat.le_of_ble_eq_true rfl) ?_
  intro K hK hR hex C
  subst hK
  have hI := moRel.rfl (S := S_mo_isWritten) hw
  show bgX K true 0 0 _ w0 0 [some (br 27)] []
  refine bg_aload_n C d_mo_isWritten_0 rfl rfl ?_
  refine bq_get0 C cf_mo 13 13 rfl rfl (by decide) rfl tw_690 d_mo_isWritten_1 (fun v1 e1 => ?_)
  refine bg_if_ne0 (tgt := 24) C d_mo_isWritten_4 (by decide) ?_ ?_
  · refine bg_aload_n C d_mo_isWritten_24 rfl rfl ?_
    refine bg_aload_n C d_mo_isWritten_25 rfl rfl ?_
    refine bq_get0 C cf_mo 13 13 rfl rfl (by decide) rfl tw_690 d_mo_isWritten_26 (fun v3 e3 => ?_)
    refine bg_if_le0 (tgt := 41) C d_mo_isWritten_29 (by decide) ?_ ?_
    · refine bg_aload_n C d_mo_isWritten_41 rfl rfl ?_
      refine bq_get0 C cf_mo 13 13 rfl rfl (by decide) rfl tw_690 d_mo_isWritten_42 (fun v5 e5 => ?_)
      refine bm_put0 C cf_mo hI 13 13 rfl rfl (by decide) rfl rfl rfl rfl rfl tw_690 d_mo_isWritten_45 (fun w6 hI6 e6 => ?_)
      have g6_0 : w6 27 5 = w0 27 5 := by rw [e6]; exact bgU_nei (by decide)
      have g6_1 : w6 27 6 = w0 27 6 := by rw [e6]; exact bgU_nei (by decide)
      refine bg_aload_n C d_mo_isWritten_48 rfl rfl ?_
      refine bg_dup C d_mo_isWritten_49 rfl ?_
      refine bq_get0 C cf_mo 14 14 rfl rfl (by decide) rfl tw_691 d_mo_isWritten_50 (fun v7 e7 => ?_)
      refine bg_iconst C d_mo_isWritten_53 ?_
      refine bg_iadd C d_mo_isWritten_54 ?_
      refine bm_put0 C cf_mo hI6 14 14 rfl rfl (by decide) rfl rfl rfl rfl rfl tw_691 d_mo_isWritten_55 (fun w8 hI8 e8 => ?_)
      have g8_0 : w8 27 5 = w6 27 5 := by rw [e8]; exact bgU_nei (by decide)
      have g8_1 : w8 27 6 = w6 27 6 := by rw [e8]; exact bgU_nei (by decide)
      refine bg_iconst C d_mo_isWritten_58 ?_
      exact bg_iret C d_mo_isWritten_59 (fun h => by cases h) (Or.inr ⟨rfl, by omega⟩) (Nat.zero_le _) (Nat.zero_le _) ⟨_, rfl, hI8, by omega, by omega, by omega, by omega, by omega⟩
    · refine bg_aload_n C d_mo_isWritten_32 rfl rfl ?_
      refine bq_get0 C cf_mo 13 13 rfl rfl (by decide) rfl tw_690 d_mo_isWritten_33 (fun v9 e9 => ?_)
      refine bg_iconst C d_mo_isWritten_36 ?_
      refine bg_isub C d_mo_isWritten_37 ?_
      refine bg_goto (l := 45) C d_mo_isWritten_38 (by decide) ?_
      refine bm_put0 C cf_mo hI 13 13 rfl rfl (by decide) rfl rfl rfl rfl rfl tw_690 d_mo_isWritten_45 (fun w10 hI10 e10 => ?_)
      have g10_0 : w10 27 5 = w0 27 5 := by rw [e10]; exact bgU_nei (by decide)
      have g10_1 : w10 27 6 = w0 27 6 := by rw [e10]; exact bgU_nei (by decide)
      refine bg_aload_n C d_mo_isWritten_48 rfl rfl ?_
      refine bg_dup C d_mo_isWritten_49 rfl ?_
      refine bq_get0 C cf_mo 14 14 rfl rfl (by decide) rfl tw_691 d_mo_isWritten_50 (fun v11 e11 => ?_)
      refine bg_iconst C d_mo_isWritten_53 ?_
      refine bg_iadd C d_mo_isWritten_54 ?_
      refine bm_put0 C cf_mo hI10 14 14 rfl rfl (by decide) rfl rfl rfl rfl rfl tw_691 d_mo_isWritten_55 (fun w12 hI12 e12 => ?_)
      have g12_0 : w12 27 5 = w10 27 5 := by rw [e12]; exact bgU_nei (by decide)
      have g12_1 : w12 27 6 = w10 27 6 := by rw [e12]; exact bgU_nei (by decide)
      refine bg_iconst C d_mo_isWritten_58 ?_
      exact bg_iret C d_mo_isWritten_59 (fun h => by cases h) (Or.inr ⟨rfl, by omega⟩) (Nat.zero_le _) (Nat.zero_le _) ⟨_, rfl, hI12, by omega, by omega, by omega, by omega, by omega⟩
  · refine bg_aload_n C d_mo_isWritten_7 rfl rfl ?_
    refine bg_iconst C d_mo_isWritten_8 ?_
    refine bm_put0 C cf_mo hI 13 13 rfl rfl (by decide) rfl rfl rfl rfl rfl tw_690 d_mo_isWritten_9 (fun w13 hI13 e13 => ?_)
    have g13_0 : w13 27 5 = w0 27 5 := by rw [e13]; exact bgU_nei (by decide)
    have g13_1 : w13 27 6 = w0 27 6 := by rw [e13]; exact bgU_nei (by decide)
    refine bg_aload_n C d_mo_isWritten_12 rfl rfl ?_
    refine bg_iconst C d_mo_isWritten_13 ?_
    refine bm_puti C cf_mo hI13 5 5 rfl rfl (by decide) rfl rfl rfl (by omega) (by omega) rfl (Or.inr ⟨rfl, by omega⟩) tw_682 d_mo_isWritten_14 (fun w14 hI14 e14 => ?_)
    have g14_0 : w14 27 5 = 1 := by rw [e14]; exact bgU_eq
    have g14_1 : w14 27 6 = w13 27 6 := by rw [e14]; exact bgU_nei (by decide)
    refine bg_aload_n C d_mo_isWritten_17 rfl rfl ?_
    refine bg_iconst C d_mo_isWritten_18 ?_
    refine bm_puti C cf_mo hI14 6 6 rfl rfl (by decide) rfl rfl rfl (by omega) (by omega) rfl (Or.inr ⟨rfl, by omega⟩) tw_683 d_mo_isWritten_19 (fun w15 hI15 e15 => ?_)
    have g15_0 : w15 27 5 = w14 27 5 := by rw [e15]; exact bgU_nei (by decide)
    have g15_1 : w15 27 6 = 0 := by rw [e15]; exact bgU_eq
    refine bg_iconst C d_mo_isWritten_22 ?_
    exact bg_iret C d_mo_isWritten_23 (fun h => by cases h) (Or.inr ⟨rfl, by omega⟩) (Nat.zero_le _) (Nat.zero_le _) ⟨_, rfl, hI15, by omega, by omega, by omega, by omega, by omega⟩
def S_mo_isNew : List (Nat × Option Int) := [(33, none), (27, some 17)]
def rm_mo_isNew : Room := { frames := 0, cells := 0, slots := 0, locals := 0 }
set_option maxRecDepth 20000 in
set_option maxHeartbeats 4000000 in
theorem m_mo_isNew {G : bgGl} (hG : bgOk G) {w0 : bgW} (hw : moN w0) {b : Int} (z0 : w0 27 17 ≤ 50) : bgM G false 0 0 y_mo_isNew (.code y_mo_isNew co_mo_isNew 5 (some .boolean)) rm_mo_isNew [br 27, bi b] w0 (bgPi (fun v w' => moRel S_mo_isNew w0 w' ∧ 0 ≤ v ∧ v ≤ 1 ∧ w' 27 17 ≤ 50)) := by
  refine bg_met hG (by decide +kernel) (bg_cat rfl) (Nat.le_of_ble_eq_true rfl) ?_
  intro K hK hR hex C
  subst hK
  have hI := moRel.rfl (S := S_mo_isNew) hw
  show bgX K true 0 0 _ w0 0 [some (br 27), some (bi b), none, none, none] []
  have hs := hw 27 17 0 51 rfl
  refine bg_iconst C d_mo_isNew_0 ?_
  refine bg_istore_n C d_mo_isNew_1 rfl (Nat.le_of_ble_eq_true rfl) ?_
  refine bg_loop (α := Int) (fun a => (50 - a).toNat) (fun a => 0 ≤ a ∧ a ≤ 50 ∧ a ≤ w0 27 17) (fun a => (w0, [some (br 27), some (bi b), some (bi a), none, none], [])) ?_ 0 ⟨by (try dsimp only) <;> omega, by (try dsimp only) <;> omega, by (try dsimp only) <;> omega⟩
  rintro i1 ⟨q1_0, q1_1, q1_2⟩ ih2
  try dsimp only at ih2
  try dsimp only at q1_0
  try dsimp only at q1_1
  try dsimp only at q1_2
  try dsimp only
  refine bg_iload_n C d_mo_isNew_2 rfl rfl ?_
  refine bg_aload_n C d_mo_isNew_3 rfl rfl ?_
  refine bm_geti C cf_mo hI 17 17 rfl rfl (by decide) rfl rfl tw_694 d_mo_isNew_4 (fun v2 e2 a2 b2 => ?_)
  refine bg_icmp_ge (tgt := 26) C d_mo_isNew_7 (by decide) ⟨by omega, by omega⟩ ⟨by omega, by omega⟩ (fun h3 => ?_) (fun h3 => ?_)
  · refine bg_iload_n C d_mo_isNew_26 rfl rfl ?_
    refine bg_aload_n C d_mo_isNew_27 rfl rfl ?_
    refine bm_geti C cf_mo hI 17 17 rfl rfl (by decide) rfl rfl tw_694 d_mo_isNew_28 (fun v4 e4 a4 b4 => ?_)
    refine bg_icmp_ne (tgt := 38) C d_mo_isNew_31 (by decide) ⟨by omega, by omega⟩ ⟨by omega, by omega⟩ (fun h5 => ?_) (fun h5 => ?_)
    · refine bg_iconst C d_mo_isNew_38 ?_
      refine bg_istore_n C d_mo_isNew_39 rfl (Nat.le_of_ble_eq_true rfl) ?_
      refine bg_aload_n C d_mo_isNew_40 rfl rfl ?_
      refine bg_dup C d_mo_isNew_41 rfl ?_
      refine bm_geti C cf_mo hI 17 17 rfl rfl (by decide) rfl rfl tw_694 d_mo_isNew_42 (fun v6 e6 a6 b6 => ?_)
      refine bg_iload_n C d_mo_isNew_45 rfl rfl ?_
      refine bg_if_eq (tgt := 53) C d_mo_isNew_46 (by decide) ⟨by omega, by omega⟩ (fun h7 => ?_) (fun h7 => by exfalso; omega)
      refine bg_iconst C d_mo_isNew_53 ?_
      refine bg_iadd C d_mo_isNew_54 ?_
      refine bm_puti C cf_mo hI 17 17 rfl rfl (by decide) rfl rfl rfl (by omega) (by omega) rfl (Or.inl rfl) tw_694 d_mo_isNew_55 (fun w8 hI8 e8 => ?_)
      have g8_0 : w8 27 17 = (v6 + 0) := by rw [e8]; exact bgU_eq
      refine bg_iload_n C d_mo_isNew_58 rfl rfl ?_
      refine bg_istore C d_mo_isNew_59 (Nat.le_of_ble_eq_true rfl) ?_
      refine bg_loop (α := bgW × Int) (fun a => (a.2).toNat) (fun a => moRel S_mo_isNew w0 a.1 ∧ 0 ≤ a.2 ∧ a.2 ≤ 50 ∧ a.1 27 17 = w8 27 17) (fun a => (a.1, [some (br 27), some (bi b), some (bi i1), some (bi 0), some (bi a.2)], [])) ?_ (w8, i1) ⟨hI8, by (try dsimp only) <;> omega, by (try dsimp only) <;> omega, by (try dsimp only) <;> omega⟩
      rintro ⟨w9, k9⟩ ⟨hI9, q9_0, q9_1, q9_2⟩ ih61
      try dsimp only at ih61
      try dsimp only at q9_0
      try dsimp only at q9_1
      try dsimp only at q9_2
      try dsimp only
      refine bg_iload C d_mo_isNew_61 rfl ?_
      refine bg_if_le (tgt := 88) C d_mo_isNew_63 (by decide) ⟨by omega, by omega⟩ (fun h10 => ?_) (fun h10 => ?_)
      · refine bg_aload_n C d_mo_isNew_88 rfl rfl ?_
        refine bg_getr (i := 16) C cf_mo rfl (by decide) rfl tw_693 d_mo_isNew_89 ?_
        refine bg_iconst C d_mo_isNew_92 ?_
        refine bg_iload_n C d_mo_isNew_93 rfl rfl ?_
        refine bm_iast0 C hI9 rfl rfl rfl (by omega) (by omega) d_mo_isNew_94 (fun w11 hI11 e11 => ?_)
        have g11_0 : w11 27 17 = w9 27 17 := by rw [e11]; exact bgU_ne _ (by decide)
        refine bg_aload_n C d_mo_isNew_95 rfl rfl ?_
        refine bg_aload_n C d_mo_isNew_96 rfl rfl ?_
        refine bm_geti C cf_mo hI11 17 17 rfl rfl (by decide) rfl rfl tw_694 d_mo_isNew_97 (fun v12 e12 a12 b12 => ?_)
        refine bg_aload_n C d_mo_isNew_100 rfl rfl ?_
        refine bm_geti C cf_mo hI11 18 18 rfl rfl (by decide) rfl rfl tw_695 d_mo_isNew_101 (fun v13 e13 a13 b13 => ?_)
        refine bg_icmp_le (tgt := 114) C d_mo_isNew_104 (by decide) ⟨by omega, by omega⟩ ⟨by omega, by omega⟩ (fun h14 => ?_) (fun h14 => ?_)
        · refine bg_aload_n C d_mo_isNew_114 rfl rfl ?_
          refine bm_geti C cf_mo hI11 17 17 rfl rfl (by decide) rfl rfl tw_694 d_mo_isNew_115 (fun v15 e15 a15 b15 => ?_)
          refine bm_puti C cf_mo hI11 17 17 rfl rfl (by decide) rfl rfl rfl (by omega) (by omega) rfl (Or.inl rfl) tw_694 d_mo_isNew_118 (fun w16 hI16 e16 => ?_)
          have g16_0 : w16 27 17 = v15 := by rw [e16]; exact bgU_eq
          refine bg_iload_n C d_mo_isNew_121 rfl rfl ?_
          exact bg_iret C d_mo_isNew_122 (fun h => by cases h) (Or.inr ⟨rfl, by omega⟩) (Nat.zero_le _) (Nat.zero_le _) ⟨_, rfl, hI16, by omega, by omega, by omega⟩
        · refine bg_aload_n C d_mo_isNew_107 rfl rfl ?_
          refine bm_geti C cf_mo hI11 18 18 rfl rfl (by decide) rfl rfl tw_695 d_mo_isNew_108 (fun v17 e17 a17 b17 => ?_)
          refine bg_goto (l := 118) C d_mo_isNew_111 (by decide) ?_
          refine bm_puti C cf_mo hI11 17 17 rfl rfl (by decide) rfl rfl rfl (by omega) (by omega) rfl (Or.inl rfl) tw_694 d_mo_isNew_118 (fun w18 hI18 e18 => ?_)
          have g18_0 : w18 27 17 = v17 := by rw [e18]; exact bgU_eq
          refine bg_iload_n C d_mo_isNew_121 rfl rfl ?_
          exact bg_iret C d_mo_isNew_122 (fun h => by cases h) (Or.inr ⟨rfl, by omega⟩) (Nat.zero_le _) (Nat.zero_le _) ⟨_, rfl, hI18, by omega, by omega, by omega⟩
      · refine bg_aload_n C d_mo_isNew_66 rfl rfl ?_
        refine bg_getr (i := 16) C cf_mo rfl (by decide) rfl tw_693 d_mo_isNew_67 ?_
        refine bg_iload C d_mo_isNew_70 rfl ?_
        refine bg_aload_n C d_mo_isNew_72 rfl rfl ?_
        refine bg_getr (i := 16) C cf_mo rfl (by decide) rfl tw_693 d_mo_isNew_73 ?_
        refine bg_iload C d_mo_isNew_76 rfl ?_
        refine bg_iconst C d_mo_isNew_78 ?_
        refine bg_isub C d_mo_isNew_79 ?_
        refine bq_iald0 C rfl (by omega) (by omega) d_mo_isNew_80 (fun v19 e19 => ?_)
        refine bm_iast0 C hI9 rfl rfl rfl (by omega) (by omega) d_mo_isNew_81 (fun w20 hI20 e20 => ?_)
        have g20_0 : w20 27 17 = w9 27 17 := by rw [e20]; exact bgU_ne _ (by decide)
        refine bg_iinc C d_mo_isNew_82 rfl ?_
        refine bg_goto (l := 61) C d_mo_isNew_85 (by decide) ?_
        exact ih61 (w20, (k9 + -1)) ⟨hI20, by (try dsimp only) <;> omega, by (try dsimp only) <;> omega, by (try dsimp only) <;> omega⟩ (by (try dsimp only) <;> omega)
    · refine bg_iconst C d_mo_isNew_34 ?_
      refine bg_goto (l := 39) C d_mo_isNew_35 (by decide) ?_
      refine bg_istore_n C d_mo_isNew_39 rfl (Nat.le_of_ble_eq_true rfl) ?_
      refine bg_aload_n C d_mo_isNew_40 rfl rfl ?_
      refine bg_dup C d_mo_isNew_41 rfl ?_
      refine bm_geti C cf_mo hI 17 17 rfl rfl (by decide) rfl rfl tw_694 d_mo_isNew_42 (fun v21 e21 a21 b21 => ?_)
      refine bg_iload_n C d_mo_isNew_45 rfl rfl ?_
      refine bg_if_eq (tgt := 53) C d_mo_isNew_46 (by decide) ⟨by omega, by omega⟩ (fun h22 => by exfalso; omega) (fun h22 => ?_)
      refine bg_iconst C d_mo_isNew_49 ?_
      refine bg_goto (l := 54) C d_mo_isNew_50 (by decide) ?_
      refine bg_iadd C d_mo_isNew_54 ?_
      refine bm_puti C cf_mo hI 17 17 rfl rfl (by decide) rfl rfl rfl (by omega) (by omega) rfl (Or.inl rfl) tw_694 d_mo_isNew_55 (fun w23 hI23 e23 => ?_)
      have g23_0 : w23 27 17 = (v21 + 1) := by rw [e23]; exact bgU_eq
      refine bg_iload_n C d_mo_isNew_58 rfl rfl ?_
      refine bg_istore C d_mo_isNew_59 (Nat.le_of_ble_eq_true rfl) ?_
      refine bg_loop (α := bgW × Int) (fun a => (a.2).toNat) (fun a => moRel S_mo_isNew w0 a.1 ∧ 0 ≤ a.2 ∧ a.2 ≤ 50 ∧ a.1 27 17 = w23 27 17) (fun a => (a.1, [some (br 27), some (bi b), some (bi i1), some (bi 1), some (bi a.2)], [])) ?_ (w23, i1) ⟨hI23, by (try dsimp only) <;> omega, by (try dsimp only) <;> omega, by (try dsimp only) <;> omega⟩
      rintro ⟨w24, k24⟩ ⟨hI24, q24_0, q24_1, q24_2⟩ ih61
      try dsimp only at ih61
      try dsimp only at q24_0
      try dsimp only at q24_1
      try dsimp only at q24_2
      try dsimp only
      refine bg_iload C d_mo_isNew_61 rfl ?_
      refine bg_if_le (tgt := 88) C d_mo_isNew_63 (by decide) ⟨by omega, by omega⟩ (fun h25 => ?_) (fun h25 => ?_)
      · refine bg_aload_n C d_mo_isNew_88 rfl rfl ?_
        refine bg_getr (i := 16) C cf_mo rfl (by decide) rfl tw_693 d_mo_isNew_89 ?_
        refine bg_iconst C d_mo_isNew_92 ?_
        refine bg_iload_n C d_mo_isNew_93 rfl rfl ?_
        refine bm_iast0 C hI24 rfl rfl rfl (by omega) (by omega) d_mo_isNew_94 (fun w26 hI26 e26 => ?_)
        have g26_0 : w26 27 17 = w24 27 17 := by rw [e26]; exact bgU_ne _ (by decide)
        refine bg_aload_n C d_mo_isNew_95 rfl rfl ?_
        refine bg_aload_n C d_mo_isNew_96 rfl rfl ?_
        refine bm_geti C cf_mo hI26 17 17 rfl rfl (by decide) rfl rfl tw_694 d_mo_isNew_97 (fun v27 e27 a27 b27 => ?_)
        refine bg_aload_n C d_mo_isNew_100 rfl rfl ?_
        refine bm_geti C cf_mo hI26 18 18 rfl rfl (by decide) rfl rfl tw_695 d_mo_isNew_101 (fun v28 e28 a28 b28 => ?_)
        refine bg_icmp_le (tgt := 114) C d_mo_isNew_104 (by decide) ⟨by omega, by omega⟩ ⟨by omega, by omega⟩ (fun h29 => ?_) (fun h29 => ?_)
        · refine bg_aload_n C d_mo_isNew_114 rfl rfl ?_
          refine bm_geti C cf_mo hI26 17 17 rfl rfl (by decide) rfl rfl tw_694 d_mo_isNew_115 (fun v30 e30 a30 b30 => ?_)
          refine bm_puti C cf_mo hI26 17 17 rfl rfl (by decide) rfl rfl rfl (by omega) (by omega) rfl (Or.inl rfl) tw_694 d_mo_isNew_118 (fun w31 hI31 e31 => ?_)
          have g31_0 : w31 27 17 = v30 := by rw [e31]; exact bgU_eq
          refine bg_iload_n C d_mo_isNew_121 rfl rfl ?_
          exact bg_iret C d_mo_isNew_122 (fun h => by cases h) (Or.inr ⟨rfl, by omega⟩) (Nat.zero_le _) (Nat.zero_le _) ⟨_, rfl, hI31, by omega, by omega, by omega⟩
        · refine bg_aload_n C d_mo_isNew_107 rfl rfl ?_
          refine bm_geti C cf_mo hI26 18 18 rfl rfl (by decide) rfl rfl tw_695 d_mo_isNew_108 (fun v32 e32 a32 b32 => ?_)
          refine bg_goto (l := 118) C d_mo_isNew_111 (by decide) ?_
          refine bm_puti C cf_mo hI26 17 17 rfl rfl (by decide) rfl rfl rfl (by omega) (by omega) rfl (Or.inl rfl) tw_694 d_mo_isNew_118 (fun w33 hI33 e33 => ?_)
          have g33_0 : w33 27 17 = v32 := by rw [e33]; exact bgU_eq
          refine bg_iload_n C d_mo_isNew_121 rfl rfl ?_
          exact bg_iret C d_mo_isNew_122 (fun h => by cases h) (Or.inr ⟨rfl, by omega⟩) (Nat.zero_le _) (Nat.zero_le _) ⟨_, rfl, hI33, by omega, by omega, by omega⟩
      · refine bg_aload_n C d_mo_isNew_66 rfl rfl ?_
        refine bg_getr (i := 16) C cf_mo rfl (by decide) rfl tw_693 d_mo_isNew_67 ?_
        refine bg_iload C d_mo_isNew_70 rfl ?_
        refine bg_aload_n C d_mo_isNew_72 rfl rfl ?_
        refine bg_getr (i := 16) C cf_mo rfl (by decide) rfl tw_693 d_mo_isNew_73 ?_
        refine bg_iload C d_mo_isNew_76 rfl ?_
        refine bg_iconst C d_mo_isNew_78 ?_
        refine bg_isub C d_mo_isNew_79 ?_
        refine bq_iald0 C rfl (by omega) (by omega) d_mo_isNew_80 (fun v34 e34 => ?_)
        refine bm_iast0 C hI24 rfl rfl rfl (by omega) (by omega) d_mo_isNew_81 (fun w35 hI35 e35 => ?_)
        have g35_0 : w35 27 17 = w24 27 17 := by rw [e35]; exact bgU_ne _ (by decide)
        refine bg_iinc C d_mo_isNew_82 rfl ?_
        refine bg_goto (l := 61) C d_mo_isNew_85 (by decide) ?_
        exact ih61 (w35, (k24 + -1)) ⟨hI35, by (try dsimp only) <;> omega, by (try dsimp only) <;> omega, by (try dsimp only) <;> omega⟩ (by (try dsimp only) <;> omega)
  · refine bg_aload_n C d_mo_isNew_10 rfl rfl ?_
    refine bg_getr (i := 16) C cf_mo rfl (by decide) rfl tw_693 d_mo_isNew_11 ?_
    refine bg_iload_n C d_mo_isNew_14 rfl rfl ?_
    refine bq_iald0 C rfl (by omega) (by omega) d_mo_isNew_15 (fun v36 e36 => ?_)
    refine bg_iload_n C d_mo_isNew_16 rfl rfl ?_
    refine bg_icmp_eq0 (tgt := 26) C d_mo_isNew_17 (by decide) ?_ ?_
    · refine bg_iload_n C d_mo_isNew_26 rfl rfl ?_
      refine bg_aload_n C d_mo_isNew_27 rfl rfl ?_
      refine bm_geti C cf_mo hI 17 17 rfl rfl (by decide) rfl rfl tw_694 d_mo_isNew_28 (fun v38 e38 a38 b38 => ?_)
      refine bg_icmp_ne (tgt := 38) C d_mo_isNew_31 (by decide) ⟨by omega, by omega⟩ ⟨by omega, by omega⟩ (fun h39 => ?_) (fun h39 => ?_)
      · refine bg_iconst C d_mo_isNew_38 ?_
        refine bg_istore_n C d_mo_isNew_39 rfl (Nat.le_of_ble_eq_true rfl) ?_
        refine bg_aload_n C d_mo_isNew_40 rfl rfl ?_
        refine bg_dup C d_mo_isNew_41 rfl ?_
        refine bm_geti C cf_mo hI 17 17 rfl rfl (by decide) rfl rfl tw_694 d_mo_isNew_42 (fun v40 e40 a40 b40 => ?_)
        refine bg_iload_n C d_mo_isNew_45 rfl rfl ?_
        refine bg_if_eq (tgt := 53) C d_mo_isNew_46 (by decide) ⟨by omega, by omega⟩ (fun h41 => ?_) (fun h41 => by exfalso; omega)
        refine bg_iconst C d_mo_isNew_53 ?_
        refine bg_iadd C d_mo_isNew_54 ?_
        refine bm_puti C cf_mo hI 17 17 rfl rfl (by decide) rfl rfl rfl (by omega) (by omega) rfl (Or.inl rfl) tw_694 d_mo_isNew_55 (fun w42 hI42 e42 => ?_)
        have g42_0 : w42 27 17 = (v40 + 0) := by rw [e42]; exact bgU_eq
        refine bg_iload_n C d_mo_isNew_58 rfl rfl ?_
        refine bg_istore C d_mo_isNew_59 (Nat.le_of_ble_eq_true rfl) ?_
        refine bg_loop (α := bgW × Int) (fun a => (a.2).toNat) (fun a => moRel S_mo_isNew w0 a.1 ∧ 0 ≤ a.2 ∧ a.2 ≤ 50 ∧ a.1 27 17 = w42 27 17) (fun a => (a.1, [some (br 27), some (bi b), some (bi i1), some (bi 0), some (bi a.2)], [])) ?_ (w42, i1) ⟨hI42, by (try dsimp only) <;> omega, by (try dsimp only) <;> omega, by (try dsimp only) <;> omega⟩
        rintro ⟨w43, k43⟩ ⟨hI43, q43_0, q43_1, q43_2⟩ ih61
        try dsimp only at ih61
        try dsimp only at q43_0
        try dsimp only at q43_1
        try dsimp only at q43_2
        try dsimp only
        refine bg_iload C d_mo_isNew_61 rfl ?_
        refine bg_if_le (tgt := 88) C d_mo_isNew_63 (by decide) ⟨by omega, by omega⟩ (fun h44 => ?_) (fun h44 => ?_)
        · refine bg_aload_n C d_mo_isNew_88 rfl rfl ?_
          refine bg_getr (i := 16) C cf_mo rfl (by decide) rfl tw_693 d_mo_isNew_89 ?_
          refine bg_iconst C d_mo_isNew_92 ?_
          refine bg_iload_n C d_mo_isNew_93 rfl rfl ?_
          refine bm_iast0 C hI43 rfl rfl rfl (by omega) (by omega) d_mo_isNew_94 (fun w45 hI45 e45 => ?_)
          have g45_0 : w45 27 17 = w43 27 17 := by rw [e45]; exact bgU_ne _ (by decide)
          refine bg_aload_n C d_mo_isNew_95 rfl rfl ?_
          refine bg_aload_n C d_mo_isNew_96 rfl rfl ?_
          refine bm_geti C cf_mo hI45 17 17 rfl rfl (by decide) rfl rfl tw_694 d_mo_isNew_97 (fun v46 e46 a46 b46 => ?_)
          refine bg_aload_n C d_mo_isNew_100 rfl rfl ?_
          refine bm_geti C cf_mo hI45 18 18 rfl rfl (by decide) rfl rfl tw_695 d_mo_isNew_101 (fun v47 e47 a47 b47 => ?_)
          refine bg_icmp_le (tgt := 114) C d_mo_isNew_104 (by decide) ⟨by omega, by omega⟩ ⟨by omega, by omega⟩ (fun h48 => ?_) (fun h48 => ?_)
          · refine bg_aload_n C d_mo_isNew_114 rfl rfl ?_
            refine bm_geti C cf_mo hI45 17 17 rfl rfl (by decide) rfl rfl tw_694 d_mo_isNew_115 (fun v49 e49 a49 b49 => ?_)
            refine bm_puti C cf_mo hI45 17 17 rfl rfl (by decide) rfl rfl rfl (by omega) (by omega) rfl (Or.inl rfl) tw_694 d_mo_isNew_118 (fun w50 hI50 e50 => ?_)
            have g50_0 : w50 27 17 = v49 := by rw [e50]; exact bgU_eq
            refine bg_iload_n C d_mo_isNew_121 rfl rfl ?_
            exact bg_iret C d_mo_isNew_122 (fun h => by cases h) (Or.inr ⟨rfl, by omega⟩) (Nat.zero_le _) (Nat.zero_le _) ⟨_, rfl, hI50, by omega, by omega, by omega⟩
          · refine bg_aload_n C d_mo_isNew_107 rfl rfl ?_
            refine bm_geti C cf_mo hI45 18 18 rfl rfl (by decide) rfl rfl tw_695 d_mo_isNew_108 (fun v51 e51 a51 b51 => ?_)
            refine bg_goto (l := 118) C d_mo_isNew_111 (by decide) ?_
            refine bm_puti C cf_mo hI45 17 17 rfl rfl (by decide) rfl rfl rfl (by omega) (by omega) rfl (Or.inl rfl) tw_694 d_mo_isNew_118 (fun w52 hI52 e52 => ?_)
            have g52_0 : w52 27 17 = v51 := by rw [e52]; exact bgU_eq
            refine bg_iload_n C d_mo_isNew_121 rfl rfl ?_
            exact bg_iret C d_mo_isNew_122 (fun h => by cases h) (Or.inr ⟨rfl, by omega⟩) (Nat.zero_le _) (Nat.zero_le _) ⟨_, rfl, hI52, by omega, by omega, by omega⟩
        · refine bg_aload_n C d_mo_isNew_66 rfl rfl ?_
          refine bg_getr (i := 16) C cf_mo rfl (by decide) rfl tw_693 d_mo_isNew_67 ?_
          refine bg_iload C d_mo_isNew_70 rfl ?_
          refine bg_aload_n C d_mo_isNew_72 rfl rfl ?_
          refine bg_getr (i := 16) C cf_mo rfl (by decide) rfl tw_693 d_mo_isNew_73 ?_
          refine bg_iload C d_mo_isNew_76 rfl ?_
          refine bg_iconst C d_mo_isNew_78 ?_
          refine bg_isub C d_mo_isNew_79 ?_
          refine bq_iald0 C rfl (by omega) (by omega) d_mo_isNew_80 (fun v53 e53 => ?_)
          refine bm_iast0 C hI43 rfl rfl rfl (by omega) (by omega) d_mo_isNew_81 (fun w54 hI54 e54 => ?_)
          have g54_0 : w54 27 17 = w43 27 17 := by rw [e54]; exact bgU_ne _ (by decide)
          refine bg_iinc C d_mo_isNew_82 rfl ?_
          refine bg_goto (l := 61) C d_mo_isNew_85 (by decide) ?_
          exact ih61 (w54, (k43 + -1)) ⟨hI54, by (try dsimp only) <;> omega, by (try dsimp only) <;> omega, by (try dsimp only) <;> omega⟩ (by (try dsimp only) <;> omega)
      · refine bg_iconst C d_mo_isNew_34 ?_
        refine bg_goto (l := 39) C d_mo_isNew_35 (by decide) ?_
        refine bg_istore_n C d_mo_isNew_39 rfl (Nat.le_of_ble_eq_true rfl) ?_
        refine bg_aload_n C d_mo_isNew_40 rfl rfl ?_
        refine bg_dup C d_mo_isNew_41 rfl ?_
        refine bm_geti C cf_mo hI 17 17 rfl rfl (by decide) rfl rfl tw_694 d_mo_isNew_42 (fun v55 e55 a55 b55 => ?_)
        refine bg_iload_n C d_mo_isNew_45 rfl rfl ?_
        refine bg_if_eq (tgt := 53) C d_mo_isNew_46 (by decide) ⟨by omega, by omega⟩ (fun h56 => by exfalso; omega) (fun h56 => ?_)
        refine bg_iconst C d_mo_isNew_49 ?_
        refine bg_goto (l := 54) C d_mo_isNew_50 (by decide) ?_
        refine bg_iadd C d_mo_isNew_54 ?_
        refine bm_puti C cf_mo hI 17 17 rfl rfl (by decide) rfl rfl rfl (by omega) (by omega) rfl (Or.inl rfl) tw_694 d_mo_isNew_55 (fun w57 hI57 e57 => ?_)
        have g57_0 : w57 27 17 = (v55 + 1) := by rw [e57]; exact bgU_eq
        refine bg_iload_n C d_mo_isNew_58 rfl rfl ?_
        refine bg_istore C d_mo_isNew_59 (Nat.le_of_ble_eq_true rfl) ?_
        refine bg_loop (α := bgW × Int) (fun a => (a.2).toNat) (fun a => moRel S_mo_isNew w0 a.1 ∧ 0 ≤ a.2 ∧ a.2 ≤ 50 ∧ a.1 27 17 = w57 27 17) (fun a => (a.1, [some (br 27), some (bi b), some (bi i1), some (bi 1), some (bi a.2)], [])) ?_ (w57, i1) ⟨hI57, by (try dsimp only) <;> omega, by (try dsimp only) <;> omega, by (try dsimp only) <;> omega⟩
        rintro ⟨w58, k58⟩ ⟨hI58, q58_0, q58_1, q58_2⟩ ih61
        try dsimp only at ih61
        try dsimp only at q58_0
        try dsimp only at q58_1
        try dsimp only at q58_2
        try dsimp only
        refine bg_iload C d_mo_isNew_61 rfl ?_
        refine bg_if_le (tgt := 88) C d_mo_isNew_63 (by decide) ⟨by omega, by omega⟩ (fun h59 => ?_) (fun h59 => ?_)
        · refine bg_aload_n C d_mo_isNew_88 rfl rfl ?_
          refine bg_getr (i := 16) C cf_mo rfl (by decide) rfl tw_693 d_mo_isNew_89 ?_
          refine bg_iconst C d_mo_isNew_92 ?_
          refine bg_iload_n C d_mo_isNew_93 rfl rfl ?_
          refine bm_iast0 C hI58 rfl rfl rfl (by omega) (by omega) d_mo_isNew_94 (fun w60 hI60 e60 => ?_)
          have g60_0 : w60 27 17 = w58 27 17 := by rw [e60]; exact bgU_ne _ (by decide)
          refine bg_aload_n C d_mo_isNew_95 rfl rfl ?_
          refine bg_aload_n C d_mo_isNew_96 rfl rfl ?_
          refine bm_geti C cf_mo hI60 17 17 rfl rfl (by decide) rfl rfl tw_694 d_mo_isNew_97 (fun v61 e61 a61 b61 => ?_)
          refine bg_aload_n C d_mo_isNew_100 rfl rfl ?_
          refine bm_geti C cf_mo hI60 18 18 rfl rfl (by decide) rfl rfl tw_695 d_mo_isNew_101 (fun v62 e62 a62 b62 => ?_)
          refine bg_icmp_le (tgt := 114) C d_mo_isNew_104 (by decide) ⟨by omega, by omega⟩ ⟨by omega, by omega⟩ (fun h63 => ?_) (fun h63 => ?_)
          · refine bg_aload_n C d_mo_isNew_114 rfl rfl ?_
            refine bm_geti C cf_mo hI60 17 17 rfl rfl (by decide) rfl rfl tw_694 d_mo_isNew_115 (fun v64 e64 a64 b64 => ?_)
            refine bm_puti C cf_mo hI60 17 17 rfl rfl (by decide) rfl rfl rfl (by omega) (by omega) rfl (Or.inl rfl) tw_694 d_mo_isNew_118 (fun w65 hI65 e65 => ?_)
            have g65_0 : w65 27 17 = v64 := by rw [e65]; exact bgU_eq
            refine bg_iload_n C d_mo_isNew_121 rfl rfl ?_
            exact bg_iret C d_mo_isNew_122 (fun h => by cases h) (Or.inr ⟨rfl, by omega⟩) (Nat.zero_le _) (Nat.zero_le _) ⟨_, rfl, hI65, by omega, by omega, by omega⟩
          · refine bg_aload_n C d_mo_isNew_107 rfl rfl ?_
            refine bm_geti C cf_mo hI60 18 18 rfl rfl (by decide) rfl rfl tw_695 d_mo_isNew_108 (fun v66 e66 a66 b66 => ?_)
            refine bg_goto (l := 118) C d_mo_isNew_111 (by decide) ?_
            refine bm_puti C cf_mo hI60 17 17 rfl rfl (by decide) rfl rfl rfl (by omega) (by omega) rfl (Or.inl rfl) tw_694 d_mo_isNew_118 (fun w67 hI67 e67 => ?_)
            have g67_0 : w67 27 17 = v66 := by rw [e67]; exact bgU_eq
            refine bg_iload_n C d_mo_isNew_121 rfl rfl ?_
            exact bg_iret C d_mo_isNew_122 (fun h => by cases h) (Or.inr ⟨rfl, by omega⟩) (Nat.zero_le _) (Nat.zero_le _) ⟨_, rfl, hI67, by omega, by omega, by omega⟩
        · refine bg_aload_n C d_mo_isNew_66 rfl rfl ?_
          refine bg_getr (i := 16) C cf_mo rfl (by decide) rfl tw_693 d_mo_isNew_67 ?_
          refine bg_iload C d_mo_isNew_70 rfl ?_
          refine bg_aload_n C d_mo_isNew_72 rfl rfl ?_
          refine bg_getr (i := 16) C cf_mo rfl (by decide) rfl tw_693 d_mo_isNew_73 ?_
          refine bg_iload C d_mo_isNew_76 rfl ?_
          refine bg_iconst C d_mo_isNew_78 ?_
          refine bg_isub C d_mo_isNew_79 ?_
          refine bq_iald0 C rfl (by omega) (by omega) d_mo_isNew_80 (fun v68 e68 => ?_)
          refine bm_iast0 C hI58 rfl rfl rfl (by omega) (by omega) d_mo_isNew_81 (fun w69 hI69 e69 => ?_)
          have g69_0 : w69 27 17 = w58 27 17 := by rw [e69]; exact bgU_ne _ (by decide)
          refine bg_iinc C d_mo_isNew_82 rfl ?_
          refine bg_goto (l := 61) C d_mo_isNew_85 (by decide) ?_
          exact ih61 (w69, (k58 + -1)) ⟨hI69, by (try dsimp only) <;> omega, by (try dsimp only) <;> omega, by (try dsimp only) <;> omega⟩ (by (try dsimp only) <;> omega)
    · refine bg_iinc C d_mo_isNew_20 rfl ?_
      refine bg_goto (l := 2) C d_mo_isNew_23 (by decide) ?_
      exact ih2 (i1 + 1) ⟨by omega, by omega, by omega⟩ (by omega)
def S_mo_look : List (Nat × Option Int) := [(33, none), (27, some 17), (27, some 15)]
def rm_mo_look : Room := { frames := 1, cells := 0, slots := 0, locals := 24 }
set_option maxRecDepth 20000 in
set_option maxHeartbeats 4000000 in
theorem m_mo_look {G : bgGl} (hG : bgOk G) {w0 : bgW} (hw : moN w0) {b : Int} (z0 : w0 27 17 ≤ 50) : bgM G false 0 0 y_mo_look (.code y_mo_look co_mo_look 2 none) rm_mo_look [br 27, bi b] w0 (bgPv (fun w' => moRel S_mo_look w0 w' ∧ w' 27 17 ≤ 50)) := by
  refine bg_met hG (by decide +kernel) (bg_cat rfl) (Nat.le_of_ble_eq_true rfl) ?_
  intro K hK hR hex C
  subst hK
  have hI := moRel.rfl (S := S_mo_look) hw
  show bgX K true 0 0 _ w0 0 [some (br 27), some (bi b)] []
  refine bg_aload_n C d_mo_look_0 rfl rfl ?_
  refine bg_dup C d_mo_look_1 rfl ?_
  refine bq_get0 C cf_mo 15 15 rfl rfl (by decide) rfl tw_692 d_mo_look_2 (fun v1 e1 => ?_)
  refine bg_aload_n C d_mo_look_5 rfl rfl ?_
  refine bg_iload_n C d_mo_look_6 rfl rfl ?_
  refine bg_ci C (m_mo_isNew hG hI.1 (by omega)) (bg_invV C cf_mo rfl tw_768 ti_mo_isNew ts_mo_isNew tc_mo_isNew tw_42 ⟨by decide, by decide⟩ (nA := 1) (by decide +kernel) rfl d_mo_look_7 rfl) rfl (by rw [hR]; exact ⟨by decide, by decide⟩) (by rw [hR]; exact ⟨by decide, by decide⟩) (Nat.le_of_ble_eq_true rfl) rfl (fun v2 w2 p2 => ?_)
  obtain ⟨j2, r2_0, r2_1, r2_2⟩ := p2
  have hI2 := hI.trans j2 (by decide)
  refine bg_if_eq (tgt := 17) C d_mo_look_10 (by decide) ⟨by omega, by omega⟩ (fun h3 => ?_) (fun h3 => ?_)
  · refine bg_iconst C d_mo_look_17 ?_
    refine bg_iadd C d_mo_look_18 ?_
    refine bm_put0 C cf_mo hI2 15 15 rfl rfl (by decide) rfl rfl rfl rfl rfl tw_692 d_mo_look_19 (fun w4 hI4 e4 => ?_)
    have g4_0 : w4 27 17 = w2 27 17 := by rw [e4]; exact bgU_nei (by decide)
    exact bg_ret C d_mo_look_22 (fun h => by cases h) rfl (Nat.zero_le _) (Nat.zero_le _) ⟨rfl, hI4, by omega⟩
  · refine bg_iconst C d_mo_look_13 ?_
    refine bg_goto (l := 18) C d_mo_look_14 (by decide) ?_
    refine bg_iadd C d_mo_look_18 ?_
    refine bm_put0 C cf_mo hI2 15 15 rfl rfl (by decide) rfl rfl rfl rfl rfl tw_692 d_mo_look_19 (fun w5 hI5 e5 => ?_)
    have g5_0 : w5 27 17 = w2 27 17 := by rw [e5]; exact bgU_nei (by decide)
    exact bg_ret C d_mo_look_22 (fun h => by cases h) rfl (Nat.zero_le _) (Nat.zero_le _) ⟨rfl, hI5, by omega⟩
def S_mo_isHome : List (Nat × Option Int) := [(27, some 13), (27, some 5), (27, some 6), (27, some 14), (33, none), (27, some 17), (27, some 10)]
def rm_mo_isHome : Room := { frames := 1, cells := 0, slots := 0, locals := 24 }
set_option maxRecDepth 20000 in
set_option maxHeartbeats 4000000 in
theorem m_mo_isHome {G : bgGl} (hG : bgOk G) {w0 : bgW} (hw : moN w0) (z0 : w0 27 17 ≤ 50) : bgM G false 0 0 y_mo_isHome (.code y_mo_isHome co_mo_isHome 2 (some .boolean)) rm_mo_isHome [br 27] w0 (bgPi (fun v w' => moRel S_mo_isHome w0 w' ∧ 0 ≤ v ∧ v ≤ 1 ∧ (v = 0 → w' 27 5 = 1) ∧ (v = 1 → w' 27 5 = w0 27 5) ∧ (v = 1 → w' 27 6 = w0 27 6) ∧ w' 27 17 ≤ 50)) := by
  refine bg_met hG (by decide +kernel) (bg_cat rfl) (Nat.le_of_ble_eq_true rfl) ?_
  intro K hK hR hex C
  subst hK
  have hI := moRel.rfl (S := S_mo_isHome) hw
  show bgX K true 0 0 _ w0 0 [some (br 27), none] []
  refine bg_iconst C d_mo_isHome_0 ?_
  refine bg_istore_n C d_mo_isHome_1 rfl (Nat.le_of_ble_eq_true rfl) ?_
  refine bg_weak ?_
  refine bg_loop (α := bgW × Int) (fun a => (50 - a.2).toNat) (fun a => moRel S_mo_isHome w0 a.1 ∧ 0 ≤ a.2 ∧ a.2 ≤ 50 ∧ a.1 27 17 ≤ 50 ∧ a.1 27 5 = w0 27 5 ∧ a.1 27 6 = w0 27 6) (fun a => (a.1, [some (br 27), some (bi a.2)], [])) ?_ (w0, 0) ⟨hI, by (try dsimp only) <;> omega, by (try dsimp only) <;> omega, by (try dsimp only) <;> omega, by (try dsimp only) <;> omega, by (try dsimp only) <;> omega⟩
  rintro ⟨w1, i1⟩ ⟨hI1, q1_0, q1_1, q1_2, q1_3, q1_4⟩ ih2
  try dsimp only at ih2
  try dsimp only at q1_0
  try dsimp only at q1_1
  try dsimp only at q1_2
  try dsimp only at q1_3
  try dsimp only at q1_4
  try dsimp only
  refine bg_iload_n C d_mo_isHome_2 rfl rfl ?_
  refine bg_bipush C d_mo_isHome_3 (by decide +kernel) ?_
  refine bg_icmp_ge (tgt := 38) C d_mo_isHome_5 (by decide) ⟨by omega, by omega⟩ ⟨by omega, by omega⟩ (fun h2 => ?_) (fun h2 => ?_)
  · refine bg_aload_n C d_mo_isHome_38 rfl rfl ?_
    refine bg_ci C (m_mo_isWritten hG hI1.1) (bg_invV C cf_mo rfl tw_760 ti_mo_isWritten ts_mo_isWritten tc_mo_isWritten tw_42 ⟨by decide, by decide⟩ (nA := 0) (by decide +kernel) rfl d_mo_isHome_39 rfl) rfl (by rw [hR]; exact ⟨by decide, by decide⟩) (by rw [hR]; exact ⟨by decide, by decide⟩) (Nat.le_of_ble_eq_true rfl) rfl (fun v3 w3 p3 => ?_)
    obtain ⟨j3, r3_0, r3_1, r3_2, r3_3, r3_4⟩ := p3
    have hI3 := hI1.trans j3 (by decide)
    have g3_2 : w3 27 17 = w1 27 17 := j3.2 27 17 rfl
    refine bg_if_ne (tgt := 47) C d_mo_isHome_42 (by decide) ⟨by omega, by omega⟩ (fun h4 => ?_) (fun h4 => ?_)
    · refine bg_aload_n C d_mo_isHome_47 rfl rfl ?_
      refine bg_iconst C d_mo_isHome_48 ?_
      refine bm_puti C cf_mo hI3 10 10 rfl rfl (by decide) rfl rfl rfl (by omega) (by omega) rfl (Or.inr ⟨rfl, by omega⟩) tw_687 d_mo_isHome_49 (fun w5 hI5 e5 => ?_)
      have g5_0 : w5 27 5 = w3 27 5 := by rw [e5]; exact bgU_nei (by decide)
      have g5_1 : w5 27 6 = w3 27 6 := by rw [e5]; exact bgU_nei (by decide)
      have g5_2 : w5 27 17 = w3 27 17 := by rw [e5]; exact bgU_nei (by decide)
      refine bg_iconst C d_mo_isHome_52 ?_
      exact bg_iret C d_mo_isHome_53 (fun h => by cases h) (Or.inr ⟨rfl, by omega⟩) (Nat.zero_le _) (Nat.zero_le _) ⟨_, rfl, hI5, by omega, by omega, by omega, by omega, by omega, by omega⟩
    · refine bg_iconst C d_mo_isHome_45 ?_
      exact bg_iret C d_mo_isHome_46 (fun h => by cases h) (Or.inr ⟨rfl, by omega⟩) (Nat.zero_le _) (Nat.zero_le _) ⟨_, rfl, hI3, by omega, by omega, by omega, by omega, by omega, by omega⟩
  · refine bg_aload_n C d_mo_isHome_8 rfl rfl ?_
    refine bg_getr (i := 9) C cf_mo rfl (by decide) rfl tw_686 d_mo_isHome_9 ?_
    refine bg_iload_n C d_mo_isHome_12 rfl rfl ?_
    refine bm_zald C hI1 rfl rfl (by omega) (by omega) d_mo_isHome_13 (fun v6 e6 a6 b6 => ?_)
    refine bg_if_eq (tgt := 32) C d_mo_isHome_14 (by decide) ⟨by omega, by omega⟩ (fun h7 => ?_) (fun h7 => ?_)
    · refine bg_iinc C d_mo_isHome_32 rfl ?_
      refine bg_goto (l := 2) C d_mo_isHome_35 (by decide) ?_
      exact ih2 (w1, (i1 + 1)) ⟨hI1, by (try dsimp only) <;> omega, by (try dsimp only) <;> omega, by (try dsimp only) <;> omega, by (try dsimp only) <;> omega, by (try dsimp only) <;> omega⟩ (by (try dsimp only) <;> omega)
    · refine bg_aload_n C d_mo_isHome_17 rfl rfl ?_
      refine bg_ci C (m_mo_isWritten hG hI1.1) (bg_invV C cf_mo rfl tw_760 ti_mo_isWritten ts_mo_isWritten tc_mo_isWritten tw_42 ⟨by decide, by decide⟩ (nA := 0) (by decide +kernel) rfl d_mo_isHome_18 rfl) rfl (by rw [hR]; exact ⟨by decide, by decide⟩) (by rw [hR]; exact ⟨by decide, by decide⟩) (Nat.le_of_ble_eq_true rfl) rfl (fun v8 w8 p8 => ?_)
      obtain ⟨j8, r8_0, r8_1, r8_2, r8_3, r8_4⟩ := p8
      have hI8 := hI1.trans j8 (by decide)
      have g8_2 : w8 27 17 = w1 27 17 := j8.2 27 17 rfl
      refine bg_if_ne (tgt := 26) C d_mo_isHome_21 (by decide) ⟨by omega, by omega⟩ (fun h9 => ?_) (fun h9 => ?_)
      · refine bg_aload_n C d_mo_isHome_26 rfl rfl ?_
        refine bg_iload_n C d_mo_isHome_27 rfl rfl ?_
        refine bg_ci C (m_mo_isNew hG hI8.1 (by omega)) (bg_invV C cf_mo rfl tw_768 ti_mo_isNew ts_mo_isNew tc_mo_isNew tw_42 ⟨by decide, by decide⟩ (nA := 1) (by decide +kernel) rfl d_mo_isHome_28 rfl) rfl (by rw [hR]; exact ⟨by decide, by decide⟩) (by rw [hR]; exact ⟨by decide, by decide⟩) (Nat.le_of_ble_eq_true rfl) rfl (fun v10 w10 p10 => ?_)
        obtain ⟨j10, r10_0, r10_1, r10_2⟩ := p10
        have hI10 := hI8.trans j10 (by decide)
        have g10_0 : w10 27 5 = w8 27 5 := j10.2 27 5 rfl
        have g10_1 : w10 27 6 = w8 27 6 := j10.2 27 6 rfl
        refine bg_pop C d_mo_isHome_31 rfl ?_
        refine bg_iinc C d_mo_isHome_32 rfl ?_
        refine bg_goto (l := 2) C d_mo_isHome_35 (by decide) ?_
        exact ih2 (w10, (i1 + 1)) ⟨hI10, by (try dsimp only) <;> omega, by (try dsimp only) <;> omega, by (try dsimp only) <;> omega, by (try dsimp only) <;> omega, by (try dsimp only) <;> omega⟩ (by (try dsimp only) <;> omega)
      · refine bg_iconst C d_mo_isHome_24 ?_
        exact bg_iret C d_mo_isHome_25 (fun h => by cases h) (Or.inr ⟨rfl, by omega⟩) (Nat.zero_le _) (Nat.zero_le _) ⟨_, rfl, hI8, by omega, by omega, by omega, by omega, by omega, by omega⟩
def S_mo_isFormatted : List (Nat × Option Int) := [(27, some 13), (27, some 5), (27, some 6), (27, some 14), (33, none), (27, some 17)]
def rm_mo_isFormatted : Room := { frames := 1, cells := 0, slots := 0, locals := 24 }
set_option maxRecDepth 20000 in
set_option maxHeartbeats 4000000 in
theorem m_mo_isFormatted {G : bgGl} (hG : bgOk G) {w0 : bgW} (hw : moN w0) (z0 : w0 27 17 ≤ 50) : bgM G false 0 0 y_mo_isFormatted (.code y_mo_isFormatted co_mo_isFormatted 2 (some .boolean)) rm_mo_isFormatted [br 27] w0 (bgPi (fun v w' => moRel S_mo_isFormatted w0 w' ∧ 0 ≤ v ∧ v ≤ 1 ∧ (v = 0 → w' 27 5 = 1) ∧ (v = 1 → w' 27 5 = w0 27 5) ∧ (v = 1 → w' 27 6 = w0 27 6) ∧ w' 27 17 ≤ 50)) := by
  refine bg_met hG (by decide +kernel) (bg_cat rfl) (Nat.le_of_ble_eq_true rfl) ?_
  intro K hK hR hex C
  subst hK
  have hI := moRel.rfl (S := S_mo_isFormatted) hw
  show bgX K true 0 0 _ w0 0 [some (br 27), none] []
  refine bg_iconst C d_mo_isFormatted_0 ?_
  refine bg_istore_n C d_mo_isFormatted_1 rfl (Nat.le_of_ble_eq_true rfl) ?_
  refine bg_weak ?_
  refine bg_loop (α := bgW × Int) (fun a => (50 - a.2).toNat) (fun a => moRel S_mo_isFormatted w0 a.1 ∧ 0 ≤ a.2 ∧ a.2 ≤ 50 ∧ a.1 27 17 ≤ 50 ∧ a.1 27 5 = w0 27 5 ∧ a.1 27 6 = w0 27 6) (fun a => (a.1, [some (br 27), some (bi a.2)], [])) ?_ (w0, 0) ⟨hI, by (try dsimp only) <;> omega, by (try dsimp only) <;> omega, by (try dsimp only) <;> omega, by (try dsimp only) <;> omega, by (try dsimp only) <;> omega⟩
  rintro ⟨w1, i1⟩ ⟨hI1, q1_0, q1_1, q1_2, q1_3, q1_4⟩ ih2
  try dsimp only at ih2
  try dsimp only at q1_0
  try dsimp only at q1_1
  try dsimp only at q1_2
  try dsimp only at q1_3
  try dsimp only at q1_4
  try dsimp only
  refine bg_iload_n C d_mo_isFormatted_2 rfl rfl ?_
  refine bg_bipush C d_mo_isFormatted_3 (by decide +kernel) ?_
  refine bg_icmp_ge (tgt := 29) C d_mo_isFormatted_5 (by decide) ⟨by omega, by omega⟩ ⟨by omega, by omega⟩ (fun h2 => ?_) (fun h2 => ?_)
  · refine bg_aload_n C d_mo_isFormatted_29 rfl rfl ?_
    refine bg_ci C (m_mo_isWritten hG hI1.1) (bg_invV C cf_mo rfl tw_760 ti_mo_isWritten ts_mo_isWritten tc_mo_isWritten tw_42 ⟨by decide, by decide⟩ (nA := 0) (by decide +kernel) rfl d_mo_isFormatted_30 rfl) rfl (by rw [hR]; exact ⟨by decide, by decide⟩) (by rw [hR]; exact ⟨by decide, by decide⟩) (Nat.le_of_ble_eq_true rfl) rfl (fun v3 w3 p3 => ?_)
    obtain ⟨j3, r3_0, r3_1, r3_2, r3_3, r3_4⟩ := p3
    have hI3 := hI1.trans j3 (by decide)
    have g3_2 : w3 27 17 = w1 27 17 := j3.2 27 17 rfl
    refine bg_if_eq (tgt := 47) C d_mo_isFormatted_33 (by decide) ⟨by omega, by omega⟩ (fun h4 => ?_) (fun h4 => ?_)
    · refine bg_iconst C d_mo_isFormatted_47 ?_
      exact bg_iret C d_mo_isFormatted_48 (fun h => by cases h) (Or.inr ⟨rfl, by omega⟩) (Nat.zero_le _) (Nat.zero_le _) ⟨_, rfl, hI3, by omega, by omega, by omega, by omega, by omega, by omega⟩
    · refine bg_aload_n C d_mo_isFormatted_36 rfl rfl ?_
      refine bg_ci C (m_mo_isWritten hG hI3.1) (bg_invV C cf_mo rfl tw_760 ti_mo_isWritten ts_mo_isWritten tc_mo_isWritten tw_42 ⟨by decide, by decide⟩ (nA := 0) (by decide +kernel) rfl d_mo_isFormatted_37 rfl) rfl (by rw [hR]; exact ⟨by decide, by decide⟩) (by rw [hR]; exact ⟨by decide, by decide⟩) (Nat.le_of_ble_eq_true rfl) rfl (fun v5 w5 p5 => ?_)
      obtain ⟨j5, r5_0, r5_1, r5_2, r5_3, r5_4⟩ := p5
      have hI5 := hI3.trans j5 (by decide)
      have g5_2 : w5 27 17 = w3 27 17 := j5.2 27 17 rfl
      refine bg_if_eq (tgt := 47) C d_mo_isFormatted_40 (by decide) ⟨by omega, by omega⟩ (fun h6 => ?_) (fun h6 => ?_)
      · refine bg_iconst C d_mo_isFormatted_47 ?_
        exact bg_iret C d_mo_isFormatted_48 (fun h => by cases h) (Or.inr ⟨rfl, by omega⟩) (Nat.zero_le _) (Nat.zero_le _) ⟨_, rfl, hI5, by omega, by omega, by omega, by omega, by omega, by omega⟩
      · refine bg_iconst C d_mo_isFormatted_43 ?_
        refine bg_goto (l := 48) C d_mo_isFormatted_44 (by decide) ?_
        exact bg_iret C d_mo_isFormatted_48 (fun h => by cases h) (Or.inr ⟨rfl, by omega⟩) (Nat.zero_le _) (Nat.zero_le _) ⟨_, rfl, hI5, by omega, by omega, by omega, by omega, by omega, by omega⟩
  · refine bg_aload_n C d_mo_isFormatted_8 rfl rfl ?_
    refine bg_ci C (m_mo_isWritten hG hI1.1) (bg_invV C cf_mo rfl tw_760 ti_mo_isWritten ts_mo_isWritten tc_mo_isWritten tw_42 ⟨by decide, by decide⟩ (nA := 0) (by decide +kernel) rfl d_mo_isFormatted_9 rfl) rfl (by rw [hR]; exact ⟨by decide, by decide⟩) (by rw [hR]; exact ⟨by decide, by decide⟩) (Nat.le_of_ble_eq_true rfl) rfl (fun v7 w7 p7 => ?_)
    obtain ⟨j7, r7_0, r7_1, r7_2, r7_3, r7_4⟩ := p7
    have hI7 := hI1.trans j7 (by decide)
    have g7_2 : w7 27 17 = w1 27 17 := j7.2 27 17 rfl
    refine bg_if_ne (tgt := 17) C d_mo_isFormatted_12 (by decide) ⟨by omega, by omega⟩ (fun h8 => ?_) (fun h8 => ?_)
    · refine bg_aload_n C d_mo_isFormatted_17 rfl rfl ?_
      refine bg_iload_n C d_mo_isFormatted_18 rfl rfl ?_
      refine bg_ci C (m_mo_isNew hG hI7.1 (by omega)) (bg_invV C cf_mo rfl tw_768 ti_mo_isNew ts_mo_isNew tc_mo_isNew tw_42 ⟨by decide, by decide⟩ (nA := 1) (by decide +kernel) rfl d_mo_isFormatted_19 rfl) rfl (by rw [hR]; exact ⟨by decide, by decide⟩) (by rw [hR]; exact ⟨by decide, by decide⟩) (Nat.le_of_ble_eq_true rfl) rfl (fun v9 w9 p9 => ?_)
      obtain ⟨j9, r9_0, r9_1, r9_2⟩ := p9
      have hI9 := hI7.trans j9 (by decide)
      have g9_0 : w9 27 5 = w7 27 5 := j9.2 27 5 rfl
      have g9_1 : w9 27 6 = w7 27 6 := j9.2 27 6 rfl
      refine bg_pop C d_mo_isFormatted_22 rfl ?_
      refine bg_iinc C d_mo_isFormatted_23 rfl ?_
      refine bg_goto (l := 2) C d_mo_isFormatted_26 (by decide) ?_
      exact ih2 (w9, (i1 + 1)) ⟨hI9, by (try dsimp only) <;> omega, by (try dsimp only) <;> omega, by (try dsimp only) <;> omega, by (try dsimp only) <;> omega, by (try dsimp only) <;> omega⟩ (by (try dsimp only) <;> omega)
    · refine bg_iconst C d_mo_isFormatted_15 ?_
      exact bg_iret C d_mo_isFormatted_16 (fun h => by cases h) (Or.inr ⟨rfl, by omega⟩) (Nat.zero_le _) (Nat.zero_le _) ⟨_, rfl, hI7, by omega, by omega, by omega, by omega, by omega, by omega⟩
def S_mo_isDown : List (Nat × Option Int) := []
def rm_mo_isDown : Room := { frames := 0, cells := 0, slots := 0, locals := 0 }
set_option maxRecDepth 20000 in
set_option maxHeartbeats 4000000 in
theorem m_mo_isDown {G : bgGl} (hG : bgOk G) {w0 : bgW} (hw : moN w0) : bgM G true 0 0 y_mo_isDown (.code y_mo_isDown co_mo_isDown 1 (some .boolean)) rm_mo_isDown [br 27] w0 (bgPi (fun v w' => w0 = w' ∧ 0 ≤ v ∧ v ≤ 1 ∧ (v = 0 → w0 27 5 = 0) ∧ (v = 0 → w0 27 4 = 1))) := by
  refine bg_met hG (by decide +kernel) (bg_cat rfl) (Nat.le_of_ble_eq_true rfl) ?_
  intro K hK hR hex C
  subst hK
  have hI := moRel.rfl (S := S_mo_isDown) hw
  show bgX K true 0 0 _ w0 0 [some (br 27)] []
  refine bg_aload_n C d_mo_isDown_0 rfl rfl ?_
  refine bm_geti C cf_mo hI 5 5 rfl rfl (by decide) rfl rfl tw_682 d_mo_isDown_1 (fun v1 e1 a1 b1 => ?_)
  refine bg_if_ne (tgt := 14) C d_mo_isDown_4 (by decide) ⟨by omega, by omega⟩ (fun h2 => ?_) (fun h2 => ?_)
  · refine bg_iconst C d_mo_isDown_14 ?_
    refine bg_goto (l := 19) C d_mo_isDown_15 (by decide) ?_
    exact bg_iret C d_mo_isDown_19 (fun _ => rfl) (Or.inr ⟨rfl, by omega⟩) (Nat.zero_le _) (Nat.zero_le _) ⟨_, rfl, rfl, by omega, by omega, by omega, by omega⟩
  · refine bg_aload_n C d_mo_isDown_7 rfl rfl ?_
    refine bm_geti C cf_mo hI 4 4 rfl rfl (by decide) rfl rfl tw_681 d_mo_isDown_8 (fun v3 e3 a3 b3 => ?_)
    refine bg_if_ne (tgt := 18) C d_mo_isDown_11 (by decide) ⟨by omega, by omega⟩ (fun h4 => ?_) (fun h4 => ?_)
    · refine bg_iconst C d_mo_isDown_18 ?_
      exact bg_iret C d_mo_isDown_19 (fun _ => rfl) (Or.inr ⟨rfl, by omega⟩) (Nat.zero_le _) (Nat.zero_le _) ⟨_, rfl, rfl, by omega, by omega, by omega, by omega⟩
    · refine bg_iconst C d_mo_isDown_14 ?_
      refine bg_goto (l := 19) C d_mo_isDown_15 (by decide) ?_
      exact bg_iret C d_mo_isDown_19 (fun _ => rfl) (Or.inr ⟨rfl, by omega⟩) (Nat.zero_le _) (Nat.zero_le _) ⟨_, rfl, rfl, by omega, by omega, by omega, by omega⟩
def S_mo_visible : List (Nat × Option Int) := []
def rm_mo_visible : Room := { frames := 0, cells := 0, slots := 0, locals := 0 }
set_option maxRecDepth 20000 in
set_option maxHeartbeats 4000000 in
theorem m_mo_visible {G : bgGl} (hG : bgOk G) {w0 : bgW} (hw : moN w0) : bgM G true 0 0 y_mo_visible (.code y_mo_visible co_mo_visible 3 (some .int)) rm_mo_visible [br 27] w0 (bgPi (fun v w' => w0 = w' ∧ 0 ≤ v ∧ v ≤ 200 ∧ (v = 200 ∨ ∃ e, 0 ≤ e ∧ e < 200 ∧ w0 28 (200 + e) = -1))) := by
  refine bg_met hG (by decide +kernel) (bg_cat rfl) (Nat.le_of_ble_eq_true rfl) ?_
  intro K hK hR hex C
  subst hK
  have hI := moRel.rfl (S := S_mo_visible) hw
  show bgX K true 0 0 _ w0 0 [some (br 27), none, none] []
  refine bg_iconst C d_mo_visible_0 ?_
  refine bg_istore_n C d_mo_visible_1 rfl (Nat.le_of_ble_eq_true rfl) ?_
  refine bg_sipush C d_mo_visible_2 (by decide +kernel) ?_
  refine bg_istore_n C d_mo_visible_5 rfl (Nat.le_of_ble_eq_true rfl) ?_
  refine bg_loop (α := Int × Int) (fun a => (400 - a.2).toNat) (fun a => 200 ≤ a.2 ∧ a.2 ≤ 400 ∧ 0 ≤ a.1 ∧ a.1 ≤ a.2 - 200 ∧ (a.1 = a.2 - 200 ∨ ∃ e, 0 ≤ e ∧ e < 200 ∧ w0 28 (200 + e) = -1)) (fun a => (w0, [some (br 27), some (bi a.1), some (bi a.2)], [])) ?_ (0, 200) ⟨by (try dsimp only) <;> omega, by (try dsimp only) <;> omega, by (try dsimp only) <;> omega, by (try dsimp only) <;> omega, Or.inl (by (try dsimp only); omega)⟩
  rintro ⟨c1, i1⟩ ⟨q1_0, q1_1, q1_2, q1_3, q1_4⟩ ih6
  try dsimp only at ih6
  try dsimp only at q1_0
  try dsimp only at q1_1
  try dsimp only at q1_2
  try dsimp only at q1_3
  try dsimp only at q1_4
  try dsimp only
  refine bg_iload_n C d_mo_visible_6 rfl rfl ?_
  refine bg_sipush C d_mo_visible_7 (by decide +kernel) ?_
  refine bg_icmp_ge (tgt := 37) C d_mo_visible_10 (by decide) ⟨by omega, by omega⟩ ⟨by omega, by omega⟩ (fun h2 => ?_) (fun h2 => ?_)
  · refine bg_iload_n C d_mo_visible_37 rfl rfl ?_
    exact bg_iret C d_mo_visible_38 (fun _ => rfl) (Or.inl rfl) (Nat.zero_le _) (Nat.zero_le _) ⟨_, rfl, rfl, by omega, by omega, by rcases q1_4 with h | h; exact Or.inl (by omega); exact Or.inr h⟩
  · refine bg_iload_n C d_mo_visible_13 rfl rfl ?_
    refine bg_aload_n C d_mo_visible_14 rfl rfl ?_
    refine bg_getr (i := 1) C cf_mo rfl (by decide) rfl tw_678 d_mo_visible_15 ?_
    refine bg_iload_n C d_mo_visible_18 rfl rfl ?_
    refine bm_iald C hI rfl rfl (by omega) (by omega) d_mo_visible_19 (fun v3 e3 a3 b3 => ?_)
    refine bg_iconst C d_mo_visible_20 ?_
    refine bg_icmp_eq (tgt := 28) C d_mo_visible_21 (by decide) ⟨by omega, by omega⟩ ⟨by omega, by omega⟩ (fun h4 => ?_) (fun h4 => ?_)
    · refine bg_iconst C d_mo_visible_28 ?_
      refine bg_iadd C d_mo_visible_29 ?_
      refine bg_istore_n C d_mo_visible_30 rfl (Nat.le_of_ble_eq_true rfl) ?_
      refine bg_iinc C d_mo_visible_31 rfl ?_
      refine bg_goto (l := 6) C d_mo_visible_34 (by decide) ?_
      exact ih6 ((c1 + 0), (i1 + 1)) ⟨by (try dsimp only) <;> omega, by (try dsimp only) <;> omega, by (try dsimp only) <;> omega, by (try dsimp only) <;> omega, by dsimp only; rcases q1_4 with h | h <;> first | exact Or.inr h | exact Or.inl (by omega) | exact Or.inr (bm_vis (by omega) (by omega) ‹_› (by omega))⟩ (by (try dsimp only) <;> omega)
    · refine bg_iconst C d_mo_visible_24 ?_
      refine bg_goto (l := 29) C d_mo_visible_25 (by decide) ?_
      refine bg_iadd C d_mo_visible_29 ?_
      refine bg_istore_n C d_mo_visible_30 rfl (Nat.le_of_ble_eq_true rfl) ?_
      refine bg_iinc C d_mo_visible_31 rfl ?_
      refine bg_goto (l := 6) C d_mo_visible_34 (by decide) ?_
      exact ih6 ((c1 + 1), (i1 + 1)) ⟨by (try dsimp only) <;> omega, by (try dsimp only) <;> omega, by (try dsimp only) <;> omega, by (try dsimp only) <;> omega, by dsimp only; rcases q1_4 with h | h <;> first | exact Or.inr h | exact Or.inl (by omega) | exact Or.inr (bm_vis (by omega) (by omega) ‹_› (by omega))⟩ (by (try dsimp only) <;> omega)
def S_mo_isVertex : List (Nat × Option Int) := []
def rm_mo_isVertex : Room := { frames := 0, cells := 0, slots := 0, locals := 0 }
set_option maxRecDepth 20000 in
set_option maxHeartbeats 4000000 in
theorem m_mo_isVertex {G : bgGl} (hG : bgOk G) {w0 : bgW} (hw : moN w0) {x : Int} (z0 : -2147483648 ≤ x) (z1 : x ≤ 2147483647) : bgM G true 0 0 y_mo_isVertex (.code y_mo_isVertex co_mo_isVertex 1 (some .boolean)) rm_mo_isVertex [bi x] w0 (bgPi (fun v w' => w0 = w' ∧ 0 ≤ v ∧ v ≤ 1 ∧ (v = 0 ∨ (0 ≤ x ∧ x ≤ 63)))) := by
  refine bg_met hG (by decide +kernel) (bg_cat rfl) (Nat.le_of_ble_eq_true rfl) ?_
  intro K hK hR hex C
  subst hK
  have hI := moRel.rfl (S := S_mo_isVertex) hw
  show bgX K true 0 0 _ w0 0 [some (bi x)] []
  refine bg_iload_n C d_mo_isVertex_0 rfl rfl ?_
  refine bg_if_lt (tgt := 14) C d_mo_isVertex_1 (by decide) ⟨by omega, by omega⟩ (fun h1 => ?_) (fun h1 => ?_)
  · refine bg_iconst C d_mo_isVertex_14 ?_
    exact bg_iret C d_mo_isVertex_15 (fun _ => rfl) (Or.inr ⟨rfl, by omega⟩) (Nat.zero_le _) (Nat.zero_le _) ⟨_, rfl, rfl, by omega, by omega, by omega⟩
  · refine bg_iload_n C d_mo_isVertex_4 rfl rfl ?_
    refine bg_bipush C d_mo_isVertex_5 (by decide +kernel) ?_
    refine bg_icmp_ge (tgt := 14) C d_mo_isVertex_7 (by decide) ⟨by omega, by omega⟩ ⟨by omega, by omega⟩ (fun h2 => ?_) (fun h2 => ?_)
    · refine bg_iconst C d_mo_isVertex_14 ?_
      exact bg_iret C d_mo_isVertex_15 (fun _ => rfl) (Or.inr ⟨rfl, by omega⟩) (Nat.zero_le _) (Nat.zero_le _) ⟨_, rfl, rfl, by omega, by omega, by omega⟩
    · refine bg_iconst C d_mo_isVertex_10 ?_
      refine bg_goto (l := 15) C d_mo_isVertex_11 (by decide) ?_
      exact bg_iret C d_mo_isVertex_15 (fun _ => rfl) (Or.inr ⟨rfl, by omega⟩) (Nat.zero_le _) (Nat.zero_le _) ⟨_, rfl, rfl, by omega, by omega, by omega⟩
def S_mo_isVisible : List (Nat × Option Int) := []
def rm_mo_isVisible : Room := { frames := 0, cells := 0, slots := 0, locals := 0 }
set_option maxRecDepth 20000 in
set_option maxHeartbeats 4000000 in
theorem m_mo_isVisible {G : bgGl} (hG : bgOk G) {w0 : bgW} (hw : moN w0) {e : Int} (z0 : -2147483648 ≤ e) (z1 : e ≤ 2147483647) : bgM G true 0 0 y_mo_isVisible (.code y_mo_isVisible co_mo_isVisible 2 (some .boolean)) rm_mo_isVisible [br 27, bi e] w0 (bgPi (fun v w' => w0 = w' ∧ 0 ≤ v ∧ v ≤ 1 ∧ (v = 0 ∨ (0 ≤ e ∧ e ≤ 199)))) := by
  refine bg_met hG (by decide +kernel) (bg_cat rfl) (Nat.le_of_ble_eq_true rfl) ?_
  intro K hK hR hex C
  subst hK
  have hI := moRel.rfl (S := S_mo_isVisible) hw
  show bgX K true 0 0 _ w0 0 [some (br 27), some (bi e)] []
  refine bg_iload_n C d_mo_isVisible_0 rfl rfl ?_
  refine bg_if_lt (tgt := 29) C d_mo_isVisible_1 (by decide) ⟨by omega, by omega⟩ (fun h1 => ?_) (fun h1 => ?_)
  · refine bg_iconst C d_mo_isVisible_29 ?_
    exact bg_iret C d_mo_isVisible_30 (fun _ => rfl) (Or.inr ⟨rfl, by omega⟩) (Nat.zero_le _) (Nat.zero_le _) ⟨_, rfl, rfl, by omega, by omega, by omega⟩
  · refine bg_iload_n C d_mo_isVisible_4 rfl rfl ?_
    refine bg_sipush C d_mo_isVisible_5 (by decide +kernel) ?_
    refine bg_icmp_ge (tgt := 29) C d_mo_isVisible_8 (by decide) ⟨by omega, by omega⟩ ⟨by omega, by omega⟩ (fun h2 => ?_) (fun h2 => ?_)
    · refine bg_iconst C d_mo_isVisible_29 ?_
      exact bg_iret C d_mo_isVisible_30 (fun _ => rfl) (Or.inr ⟨rfl, by omega⟩) (Nat.zero_le _) (Nat.zero_le _) ⟨_, rfl, rfl, by omega, by omega, by omega⟩
    · refine bg_aload_n C d_mo_isVisible_11 rfl rfl ?_
      refine bg_getr (i := 1) C cf_mo rfl (by decide) rfl tw_678 d_mo_isVisible_12 ?_
      refine bg_sipush C d_mo_isVisible_15 (by decide +kernel) ?_
      refine bg_iload_n C d_mo_isVisible_18 rfl rfl ?_
      refine bg_iadd C d_mo_isVisible_19 ?_
      refine bm_iald C hI rfl rfl (by omega) (by omega) d_mo_isVisible_20 (fun v3 e3 a3 b3 => ?_)
      refine bg_iconst C d_mo_isVisible_21 ?_
      refine bg_icmp_eq (tgt := 29) C d_mo_isVisible_22 (by decide) ⟨by omega, by omega⟩ ⟨by omega, by omega⟩ (fun h4 => ?_) (fun h4 => ?_)
      · refine bg_iconst C d_mo_isVisible_29 ?_
        exact bg_iret C d_mo_isVisible_30 (fun _ => rfl) (Or.inr ⟨rfl, by omega⟩) (Nat.zero_le _) (Nat.zero_le _) ⟨_, rfl, rfl, by omega, by omega, by omega⟩
      · refine bg_iconst C d_mo_isVisible_25 ?_
        refine bg_goto (l := 30) C d_mo_isVisible_26 (by decide) ?_
        exact bg_iret C d_mo_isVisible_30 (fun _ => rfl) (Or.inr ⟨rfl, by omega⟩) (Nat.zero_le _) (Nat.zero_le _) ⟨_, rfl, rfl, by omega, by omega, by omega⟩
def S_mo_faultOf : List (Nat × Option Int) := []
def rm_mo_faultOf : Room := { frames := 1, cells := 0, slots := 0, locals := 20 }
set_option maxRecDepth 20000 in
set_option maxHeartbeats 4000000 in
theorem m_mo_faultOf {G : bgGl} (hG : bgOk G) {w0 : bgW} (hw : moN w0) {x : Int} (z0 : -2147483648 ≤ x) (z1 : x ≤ 2147483647) : bgM G true 0 0 y_mo_faultOf (.code y_mo_faultOf co_mo_faultOf 2 (some .int)) rm_mo_faultOf [br 27, bi x] w0 (bgPi (fun v w' => w0 = w' ∧ 0 ≤ v ∧ v ≤ 2 ∧ (v = 0 → w0 27 19 = 0) ∧ (v = 0 → 0 ≤ x) ∧ (v = 0 → x ≤ 63))) := by
  refine bg_met hG (by decide +kernel) (bg_cat rfl) (Nat.le_of_ble_eq_true rfl) ?_
  intro K hK hR hex C
  subst hK
  have hI := moRel.rfl (S := S_mo_faultOf) hw
  show bgX K true 0 0 _ w0 0 [some (br 27), some (bi x)] []
  refine bg_aload_n C d_mo_faultOf_0 rfl rfl ?_
  refine bg_ci C (m_mo_isDown hG hI.1) (bg_invV C cf_mo rfl tw_776 ti_mo_isDown ts_mo_isDown tc_mo_isDown tw_42 ⟨by decide, by decide⟩ (nA := 0) (by decide +kernel) rfl d_mo_faultOf_1 rfl) rfl (by rw [hR]; exact ⟨by decide, by decide⟩) (by rw [hR]; exact ⟨by decide, by decide⟩) (Nat.le_of_ble_eq_true rfl) rfl (fun v1 w1 p1 => ?_)
  obtain ⟨rfl, r1_0, r1_1, r1_2, r1_3⟩ := p1
  refine bg_if_ne (tgt := 14) C d_mo_faultOf_4 (by decide) ⟨by omega, by omega⟩ (fun h2 => ?_) (fun h2 => ?_)
  · refine bg_iconst C d_mo_faultOf_14 ?_
    refine bg_goto (l := 30) C d_mo_faultOf_15 (by decide) ?_
    exact bg_iret C d_mo_faultOf_30 (fun _ => rfl) (Or.inl rfl) (Nat.zero_le _) (Nat.zero_le _) ⟨_, rfl, rfl, by omega, by omega, by omega, by omega, by omega⟩
  · refine bg_aload_n C d_mo_faultOf_7 rfl rfl ?_
    refine bm_geti C cf_mo hI 19 19 rfl rfl (by decide) rfl rfl tw_696 d_mo_faultOf_8 (fun v3 e3 a3 b3 => ?_)
    refine bg_if_eq (tgt := 18) C d_mo_faultOf_11 (by decide) ⟨by omega, by omega⟩ (fun h4 => ?_) (fun h4 => ?_)
    · refine bg_iload_n C d_mo_faultOf_18 rfl rfl ?_
      refine bg_ci C (m_mo_isVertex hG hI.1 (by omega) (by omega)) (bg_invS C tw_784 tt_mo_isVertex tc_mo_isVertex tw_42 ⟨by decide, by decide⟩ (nA := 1) (by decide +kernel) rfl d_mo_faultOf_19 rfl) rfl (by rw [hR]; exact ⟨by decide, by decide⟩) (by rw [hR]; exact ⟨by decide, by decide⟩) (Nat.le_of_ble_eq_true rfl) rfl (fun v5 w5 p5 => ?_)
      obtain ⟨rfl, r5_0, r5_1, r5_2⟩ := p5
      refine bg_if_eq (tgt := 29) C d_mo_faultOf_22 (by decide) ⟨by omega, by omega⟩ (fun h6 => ?_) (fun h6 => ?_)
      · refine bg_iconst C d_mo_faultOf_29 ?_
        exact bg_iret C d_mo_faultOf_30 (fun _ => rfl) (Or.inl rfl) (Nat.zero_le _) (Nat.zero_le _) ⟨_, rfl, rfl, by omega, by omega, by omega, by omega, by omega⟩
      · refine bg_iconst C d_mo_faultOf_25 ?_
        refine bg_goto (l := 30) C d_mo_faultOf_26 (by decide) ?_
        exact bg_iret C d_mo_faultOf_30 (fun _ => rfl) (Or.inl rfl) (Nat.zero_le _) (Nat.zero_le _) ⟨_, rfl, rfl, by omega, by omega, by omega, by omega, by omega⟩
    · refine bg_iconst C d_mo_faultOf_14 ?_
      refine bg_goto (l := 30) C d_mo_faultOf_15 (by decide) ?_
      exact bg_iret C d_mo_faultOf_30 (fun _ => rfl) (Or.inl rfl) (Nat.zero_le _) (Nat.zero_le _) ⟨_, rfl, rfl, by omega, by omega, by omega, by omega, by omega⟩
