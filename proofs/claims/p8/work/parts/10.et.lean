def rm_et_has : Room := { frames := 0, cells := 0, slots := 0, locals := 0 }
set_option maxRecDepth 20000 in
set_option maxHeartbeats 4000000 in
theorem m_et_has {G : bgGl} (hG : bgOk G) {w0 : bgW} (hw : bgN w0) {e : Int} (z0 : -2147483648 ≤ e) (z1 : e ≤ 2147483647) : bgM G true 0 0 y_et_has (.code y_et_has co_et_has 2 (some .boolean)) rm_et_has [br 14, bi e] w0 (bgPi (fun v w' => w0 = w' ∧ 0 ≤ v ∧ v ≤ 1 ∧ (v = 0 ∨ (0 ≤ e ∧ e ≤ 199)))) := by
  refine bg_met hG (by decide +kernel) (bg_cat rfl) (Nat.le_of_ble_eq_true rfl) ?_
  intro K hK hR hex C
  subst hK
  have hI := bgRel.rfl hw
  show bgX K true 0 0 _ w0 0 [some (br 14), some (bi e)] []
  refine bg_iload_n C d_et_has_0 rfl rfl ?_
  refine bg_if_lt (tgt := 24) C d_et_has_1 (by decide) ⟨by omega, by omega⟩ (fun h1 => ?_) (fun h1 => ?_)
  · refine bg_iconst C d_et_has_24 ?_
    exact bg_iret C d_et_has_25 (fun _ => rfl) (Or.inr ⟨rfl, by omega⟩) (Nat.zero_le _) (Nat.zero_le _) ⟨_, rfl, rfl, by omega, by omega, by omega⟩
  · refine bg_iload_n C d_et_has_4 rfl rfl ?_
    refine bg_sipush C d_et_has_5 (by decide +kernel) ?_
    refine bg_icmp_ge (tgt := 24) C d_et_has_8 (by decide) ⟨by omega, by omega⟩ ⟨by omega, by omega⟩ (fun h2 => ?_) (fun h2 => ?_)
    · refine bg_iconst C d_et_has_24 ?_
      exact bg_iret C d_et_has_25 (fun _ => rfl) (Or.inr ⟨rfl, by omega⟩) (Nat.zero_le _) (Nat.zero_le _) ⟨_, rfl, rfl, by omega, by omega, by omega⟩
    · refine bg_aload_n C d_et_has_11 rfl rfl ?_
      refine bg_getr (i := 2) C cf_et rfl (by decide) rfl tw_142 d_et_has_12 ?_
      refine bg_iload_n C d_et_has_15 rfl rfl ?_
      refine bq_iald0 C rfl (by omega) (by omega) d_et_has_16 (fun v3 e3 => ?_)
      refine bg_if_eq0 (tgt := 24) C d_et_has_17 (by decide) ?_ ?_
      · refine bg_iconst C d_et_has_24 ?_
        exact bg_iret C d_et_has_25 (fun _ => rfl) (Or.inr ⟨rfl, by omega⟩) (Nat.zero_le _) (Nat.zero_le _) ⟨_, rfl, rfl, by omega, by omega, by omega⟩
      · refine bg_iconst C d_et_has_20 ?_
        refine bg_goto (l := 25) C d_et_has_21 (by decide) ?_
        exact bg_iret C d_et_has_25 (fun _ => rfl) (Or.inr ⟨rfl, by omega⟩) (Nat.zero_le _) (Nat.zero_le _) ⟨_, rfl, rfl, by omega, by omega, by omega⟩
def rm_et_leastFree : Room := { frames := 0, cells := 0, slots := 0, locals := 0 }
set_option maxRecDepth 20000 in
set_option maxHeartbeats 4000000 in
theorem m_et_leastFree {G : bgGl} (hG : bgOk G) {w0 : bgW} (hw : bgN w0) : bgM G true 0 0 y_et_leastFree (.code y_et_leastFree co_et_leastFree 2 (some .int)) rm_et_leastFree [br 14] w0 (bgPi (fun v w' => w0 = w' ∧ -1 ≤ v ∧ v ≤ 199)) := by
  refine bg_met hG (by decide +kernel) (bg_cat rfl) (Nat.le_of_ble_eq_true rfl) ?_
  intro K hK hR hex C
  subst hK
  have hI := bgRel.rfl hw
  show bgX K true 0 0 _ w0 0 [some (br 14), none] []
  refine bg_iconst C d_et_leastFree_0 ?_
  refine bg_istore_n C d_et_leastFree_1 rfl (Nat.le_of_ble_eq_true rfl) ?_
  refine bg_loop (α := Int) (fun a => (200 - a).toNat) (fun a => 0 ≤ a ∧ a ≤ 200) (fun a => (w0, [some (br 14), some (bi a)], [])) ?_ 0 ⟨by (try dsimp only) <;> omega, by (try dsimp only) <;> omega⟩
  rintro i1 ⟨q1_0, q1_1⟩ ih2
  try dsimp only at ih2
  try dsimp only at q1_0
  try dsimp only at q1_1
  try dsimp only
  refine bg_iload_n C d_et_leastFree_2 rfl rfl ?_
  refine bg_sipush C d_et_leastFree_3 (by decide +kernel) ?_
  refine bg_icmp_ge (tgt := 26) C d_et_leastFree_6 (by decide) ⟨by omega, by omega⟩ ⟨by omega, by omega⟩ (fun h2 => ?_) (fun h2 => ?_)
  · refine bg_iconst C d_et_leastFree_26 ?_
    exact bg_iret C d_et_leastFree_27 (fun _ => rfl) (Or.inl rfl) (Nat.zero_le _) (Nat.zero_le _) ⟨_, rfl, rfl, by omega, by omega⟩
  · refine bg_aload_n C d_et_leastFree_9 rfl rfl ?_
    refine bg_getr (i := 2) C cf_et rfl (by decide) rfl tw_142 d_et_leastFree_10 ?_
    refine bg_iload_n C d_et_leastFree_13 rfl rfl ?_
    refine bq_iald0 C rfl (by omega) (by omega) d_et_leastFree_14 (fun v3 e3 => ?_)
    refine bg_if_ne0 (tgt := 20) C d_et_leastFree_15 (by decide) ?_ ?_
    · refine bg_iinc C d_et_leastFree_20 rfl ?_
      refine bg_goto (l := 2) C d_et_leastFree_23 (by decide) ?_
      exact ih2 (i1 + 1) ⟨by omega, by omega⟩ (by omega)
    · refine bg_iload_n C d_et_leastFree_18 rfl rfl ?_
      exact bg_iret C d_et_leastFree_19 (fun _ => rfl) (Or.inl rfl) (Nat.zero_le _) (Nat.zero_le _) ⟨_, rfl, rfl, by omega, by omega⟩
def rm_et_put_vs : Room := { frames := 0, cells := 0, slots := 0, locals := 0 }
set_option maxRecDepth 20000 in
set_option maxHeartbeats 4000000 in
theorem m_et_put_vs {G : bgGl} (hG : bgOk G) {w0 : bgW} (hw : bgN w0) {e f t x : Int} (z0 : -2147483648 ≤ e) (z1 : e ≤ 2147483647) (z2 : 0 ≤ f) (z3 : f ≤ 63) (z4 : 0 ≤ t) (z5 : t ≤ 63) : bgM G false 0 0 y_et_put (.code y_et_put co_et_put 5 none) rm_et_put_vs [br 14, bi e, bi f, bi t, bi x] w0 (bgPv (fun w' => bgRel w0 w')) := by
  refine bg_met hG (by decide +kernel) (bg_cat rfl) (Nat.le_of_ble_eq_true rfl) ?_
  intro K hK hR hex C
  subst hK
  have hI := bgRel.rfl hw
  show bgX K true 0 0 _ w0 0 [some (br 14), some (bi e), some (bi f), some (bi t), some (bi x)] []
  refine bg_iload_n C d_et_put_0 rfl rfl ?_
  refine bg_if_lt (tgt := 11) C d_et_put_1 (by decide) ⟨by omega, by omega⟩ (fun h1 => ?_) (fun h1 => ?_)
  · exact bg_ret C d_et_put_11 (fun h => by cases h) rfl (Nat.zero_le _) (Nat.zero_le _) ⟨rfl, hI⟩
  · refine bg_iload_n C d_et_put_4 rfl rfl ?_
    refine bg_sipush C d_et_put_5 (by decide +kernel) ?_
    refine bg_icmp_lt (tgt := 12) C d_et_put_8 (by decide) ⟨by omega, by omega⟩ ⟨by omega, by omega⟩ (fun h2 => ?_) (fun h2 => ?_)
    · refine bg_aload_n C d_et_put_12 rfl rfl ?_
      refine bg_dup C d_et_put_13 rfl ?_
      refine bq_get0 C cf_et 3 3 rfl rfl (by decide) rfl tw_145 d_et_put_14 (fun v3 e3 => ?_)
      refine bg_iload C d_et_put_17 rfl ?_
      refine bg_if_ne0 (tgt := 26) C d_et_put_19 (by decide) ?_ ?_
      · refine bg_iconst C d_et_put_26 ?_
        refine bg_aload_n C d_et_put_27 rfl rfl ?_
        refine bg_getr (i := 2) C cf_et rfl (by decide) rfl tw_142 d_et_put_28 ?_
        refine bg_iload_n C d_et_put_31 rfl rfl ?_
        refine bq_iald0 C rfl (by omega) (by omega) d_et_put_32 (fun v5 e5 => ?_)
        refine bg_if_ne0 (tgt := 40) C d_et_put_33 (by decide) ?_ ?_
        · refine bg_iconst C d_et_put_40 ?_
          refine bg_isub C d_et_put_41 ?_
          refine bg_iadd C d_et_put_42 ?_
          refine bq_put0 C cf_et hI 3 3 rfl rfl (by decide) rfl (by decide) rfl rfl rfl tw_145 d_et_put_43 (fun w7 hI7 e7 => ?_)
          refine bg_aload_n C d_et_put_46 rfl rfl ?_
          refine bg_getr (i := 0) C cf_et rfl (by decide) rfl tw_136 d_et_put_47 ?_
          refine bg_iload_n C d_et_put_50 rfl rfl ?_
          refine bg_iload_n C d_et_put_51 rfl rfl ?_
          refine bq_iast C hI7 rfl (by decide) rfl (by omega) (by omega) (by omega) (by omega) d_et_put_52 (fun w8 hI8 e8 => ?_)
          refine bg_aload_n C d_et_put_53 rfl rfl ?_
          refine bg_getr (i := 1) C cf_et rfl (by decide) rfl tw_139 d_et_put_54 ?_
          refine bg_iload_n C d_et_put_57 rfl rfl ?_
          refine bg_iload_n C d_et_put_58 rfl rfl ?_
          refine bq_iast C hI8 rfl (by decide) rfl (by omega) (by omega) (by omega) (by omega) d_et_put_59 (fun w9 hI9 e9 => ?_)
          refine bg_aload_n C d_et_put_60 rfl rfl ?_
          refine bg_getr (i := 2) C cf_et rfl (by decide) rfl tw_142 d_et_put_61 ?_
          refine bg_iload_n C d_et_put_64 rfl rfl ?_
          refine bg_iload C d_et_put_65 rfl ?_
          refine bq_iast0 C hI9 rfl (by decide) rfl (by omega) (by omega) d_et_put_67 (fun w10 hI10 e10 => ?_)
          exact bg_ret C d_et_put_68 (fun h => by cases h) rfl (Nat.zero_le _) (Nat.zero_le _) ⟨rfl, hI10⟩
        · refine bg_iconst C d_et_put_36 ?_
          refine bg_goto (l := 41) C d_et_put_37 (by decide) ?_
          refine bg_isub C d_et_put_41 ?_
          refine bg_iadd C d_et_put_42 ?_
          refine bq_put0 C cf_et hI 3 3 rfl rfl (by decide) rfl (by decide) rfl rfl rfl tw_145 d_et_put_43 (fun w11 hI11 e11 => ?_)
          refine bg_aload_n C d_et_put_46 rfl rfl ?_
          refine bg_getr (i := 0) C cf_et rfl (by decide) rfl tw_136 d_et_put_47 ?_
          refine bg_iload_n C d_et_put_50 rfl rfl ?_
          refine bg_iload_n C d_et_put_51 rfl rfl ?_
          refine bq_iast C hI11 rfl (by decide) rfl (by omega) (by omega) (by omega) (by omega) d_et_put_52 (fun w12 hI12 e12 => ?_)
          refine bg_aload_n C d_et_put_53 rfl rfl ?_
          refine bg_getr (i := 1) C cf_et rfl (by decide) rfl tw_139 d_et_put_54 ?_
          refine bg_iload_n C d_et_put_57 rfl rfl ?_
          refine bg_iload_n C d_et_put_58 rfl rfl ?_
          refine bq_iast C hI12 rfl (by decide) rfl (by omega) (by omega) (by omega) (by omega) d_et_put_59 (fun w13 hI13 e13 => ?_)
          refine bg_aload_n C d_et_put_60 rfl rfl ?_
          refine bg_getr (i := 2) C cf_et rfl (by decide) rfl tw_142 d_et_put_61 ?_
          refine bg_iload_n C d_et_put_64 rfl rfl ?_
          refine bg_iload C d_et_put_65 rfl ?_
          refine bq_iast0 C hI13 rfl (by decide) rfl (by omega) (by omega) d_et_put_67 (fun w14 hI14 e14 => ?_)
          exact bg_ret C d_et_put_68 (fun h => by cases h) rfl (Nat.zero_le _) (Nat.zero_le _) ⟨rfl, hI14⟩
      · refine bg_iconst C d_et_put_22 ?_
        refine bg_goto (l := 27) C d_et_put_23 (by decide) ?_
        refine bg_aload_n C d_et_put_27 rfl rfl ?_
        refine bg_getr (i := 2) C cf_et rfl (by decide) rfl tw_142 d_et_put_28 ?_
        refine bg_iload_n C d_et_put_31 rfl rfl ?_
        refine bq_iald0 C rfl (by omega) (by omega) d_et_put_32 (fun v15 e15 => ?_)
        refine bg_if_ne0 (tgt := 40) C d_et_put_33 (by decide) ?_ ?_
        · refine bg_iconst C d_et_put_40 ?_
          refine bg_isub C d_et_put_41 ?_
          refine bg_iadd C d_et_put_42 ?_
          refine bq_put0 C cf_et hI 3 3 rfl rfl (by decide) rfl (by decide) rfl rfl rfl tw_145 d_et_put_43 (fun w17 hI17 e17 => ?_)
          refine bg_aload_n C d_et_put_46 rfl rfl ?_
          refine bg_getr (i := 0) C cf_et rfl (by decide) rfl tw_136 d_et_put_47 ?_
          refine bg_iload_n C d_et_put_50 rfl rfl ?_
          refine bg_iload_n C d_et_put_51 rfl rfl ?_
          refine bq_iast C hI17 rfl (by decide) rfl (by omega) (by omega) (by omega) (by omega) d_et_put_52 (fun w18 hI18 e18 => ?_)
          refine bg_aload_n C d_et_put_53 rfl rfl ?_
          refine bg_getr (i := 1) C cf_et rfl (by decide) rfl tw_139 d_et_put_54 ?_
          refine bg_iload_n C d_et_put_57 rfl rfl ?_
          refine bg_iload_n C d_et_put_58 rfl rfl ?_
          refine bq_iast C hI18 rfl (by decide) rfl (by omega) (by omega) (by omega) (by omega) d_et_put_59 (fun w19 hI19 e19 => ?_)
          refine bg_aload_n C d_et_put_60 rfl rfl ?_
          refine bg_getr (i := 2) C cf_et rfl (by decide) rfl tw_142 d_et_put_61 ?_
          refine bg_iload_n C d_et_put_64 rfl rfl ?_
          refine bg_iload C d_et_put_65 rfl ?_
          refine bq_iast0 C hI19 rfl (by decide) rfl (by omega) (by omega) d_et_put_67 (fun w20 hI20 e20 => ?_)
          exact bg_ret C d_et_put_68 (fun h => by cases h) rfl (Nat.zero_le _) (Nat.zero_le _) ⟨rfl, hI20⟩
        · refine bg_iconst C d_et_put_36 ?_
          refine bg_goto (l := 41) C d_et_put_37 (by decide) ?_
          refine bg_isub C d_et_put_41 ?_
          refine bg_iadd C d_et_put_42 ?_
          refine bq_put0 C cf_et hI 3 3 rfl rfl (by decide) rfl (by decide) rfl rfl rfl tw_145 d_et_put_43 (fun w21 hI21 e21 => ?_)
          refine bg_aload_n C d_et_put_46 rfl rfl ?_
          refine bg_getr (i := 0) C cf_et rfl (by decide) rfl tw_136 d_et_put_47 ?_
          refine bg_iload_n C d_et_put_50 rfl rfl ?_
          refine bg_iload_n C d_et_put_51 rfl rfl ?_
          refine bq_iast C hI21 rfl (by decide) rfl (by omega) (by omega) (by omega) (by omega) d_et_put_52 (fun w22 hI22 e22 => ?_)
          refine bg_aload_n C d_et_put_53 rfl rfl ?_
          refine bg_getr (i := 1) C cf_et rfl (by decide) rfl tw_139 d_et_put_54 ?_
          refine bg_iload_n C d_et_put_57 rfl rfl ?_
          refine bg_iload_n C d_et_put_58 rfl rfl ?_
          refine bq_iast C hI22 rfl (by decide) rfl (by omega) (by omega) (by omega) (by omega) d_et_put_59 (fun w23 hI23 e23 => ?_)
          refine bg_aload_n C d_et_put_60 rfl rfl ?_
          refine bg_getr (i := 2) C cf_et rfl (by decide) rfl tw_142 d_et_put_61 ?_
          refine bg_iload_n C d_et_put_64 rfl rfl ?_
          refine bg_iload C d_et_put_65 rfl ?_
          refine bq_iast0 C hI23 rfl (by decide) rfl (by omega) (by omega) d_et_put_67 (fun w24 hI24 e24 => ?_)
          exact bg_ret C d_et_put_68 (fun h => by cases h) rfl (Nat.zero_le _) (Nat.zero_le _) ⟨rfl, hI24⟩
    · exact bg_ret C d_et_put_11 (fun h => by cases h) rfl (Nat.zero_le _) (Nat.zero_le _) ⟨rfl, hI⟩
def rm_et_put_hm : Room := { frames := 0, cells := 0, slots := 0, locals := 0 }
set_option maxRecDepth 20000 in
set_option maxHeartbeats 4000000 in
theorem m_et_put_hm {G : bgGl} (hG : bgOk G) {w0 : bgW} (hw : bgN w0) {e f t x : Int} (z0 : -2147483648 ≤ e) (z1 : e ≤ 2147483647) (z2 : 0 ≤ f) (z3 : f ≤ 63) (z4 : 0 ≤ t) (z5 : t ≤ 63) : bgM G false 0 0 y_et_put (.code y_et_put co_et_put 5 none) rm_et_put_hm [br 10, bi e, bi f, bi t, bi x] w0 (bgPv (fun w' => bgRel w0 w')) := by
  refine bg_met hG (by decide +kernel) (bg_cat rfl) (Nat.le_of_ble_eq_true rfl) ?_
  intro K hK hR hex C
  subst hK
  have hI := bgRel.rfl hw
  show bgX K true 0 0 _ w0 0 [some (br 10), some (bi e), some (bi f), some (bi t), some (bi x)] []
  refine bg_iload_n C d_et_put_0 rfl rfl ?_
  refine bg_if_lt (tgt := 11) C d_et_put_1 (by decide) ⟨by omega, by omega⟩ (fun h1 => ?_) (fun h1 => ?_)
  · exact bg_ret C d_et_put_11 (fun h => by cases h) rfl (Nat.zero_le _) (Nat.zero_le _) ⟨rfl, hI⟩
  · refine bg_iload_n C d_et_put_4 rfl rfl ?_
    refine bg_sipush C d_et_put_5 (by decide +kernel) ?_
    refine bg_icmp_lt (tgt := 12) C d_et_put_8 (by decide) ⟨by omega, by omega⟩ ⟨by omega, by omega⟩ (fun h2 => ?_) (fun h2 => ?_)
    · refine bg_aload_n C d_et_put_12 rfl rfl ?_
      refine bg_dup C d_et_put_13 rfl ?_
      refine bq_get0 C cf_et 3 3 rfl rfl (by decide) rfl tw_145 d_et_put_14 (fun v3 e3 => ?_)
      refine bg_iload C d_et_put_17 rfl ?_
      refine bg_if_ne0 (tgt := 26) C d_et_put_19 (by decide) ?_ ?_
      · refine bg_iconst C d_et_put_26 ?_
        refine bg_aload_n C d_et_put_27 rfl rfl ?_
        refine bg_getr (i := 2) C cf_et rfl (by decide) rfl tw_142 d_et_put_28 ?_
        refine bg_iload_n C d_et_put_31 rfl rfl ?_
        refine bq_iald0 C rfl (by omega) (by omega) d_et_put_32 (fun v5 e5 => ?_)
        refine bg_if_ne0 (tgt := 40) C d_et_put_33 (by decide) ?_ ?_
        · refine bg_iconst C d_et_put_40 ?_
          refine bg_isub C d_et_put_41 ?_
          refine bg_iadd C d_et_put_42 ?_
          refine bq_put0 C cf_et hI 3 3 rfl rfl (by decide) rfl (by decide) rfl rfl rfl tw_145 d_et_put_43 (fun w7 hI7 e7 => ?_)
          refine bg_aload_n C d_et_put_46 rfl rfl ?_
          refine bg_getr (i := 0) C cf_et rfl (by decide) rfl tw_136 d_et_put_47 ?_
          refine bg_iload_n C d_et_put_50 rfl rfl ?_
          refine bg_iload_n C d_et_put_51 rfl rfl ?_
          refine bq_iast C hI7 rfl (by decide) rfl (by omega) (by omega) (by omega) (by omega) d_et_put_52 (fun w8 hI8 e8 => ?_)
          refine bg_aload_n C d_et_put_53 rfl rfl ?_
          refine bg_getr (i := 1) C cf_et rfl (by decide) rfl tw_139 d_et_put_54 ?_
          refine bg_iload_n C d_et_put_57 rfl rfl ?_
          refine bg_iload_n C d_et_put_58 rfl rfl ?_
          refine bq_iast C hI8 rfl (by decide) rfl (by omega) (by omega) (by omega) (by omega) d_et_put_59 (fun w9 hI9 e9 => ?_)
          refine bg_aload_n C d_et_put_60 rfl rfl ?_
          refine bg_getr (i := 2) C cf_et rfl (by decide) rfl tw_142 d_et_put_61 ?_
          refine bg_iload_n C d_et_put_64 rfl rfl ?_
          refine bg_iload C d_et_put_65 rfl ?_
          refine bq_iast0 C hI9 rfl (by decide) rfl (by omega) (by omega) d_et_put_67 (fun w10 hI10 e10 => ?_)
          exact bg_ret C d_et_put_68 (fun h => by cases h) rfl (Nat.zero_le _) (Nat.zero_le _) ⟨rfl, hI10⟩
        · refine bg_iconst C d_et_put_36 ?_
          refine bg_goto (l := 41) C d_et_put_37 (by decide) ?_
          refine bg_isub C d_et_put_41 ?_
          refine bg_iadd C d_et_put_42 ?_
          refine bq_put0 C cf_et hI 3 3 rfl rfl (by decide) rfl (by decide) rfl rfl rfl tw_145 d_et_put_43 (fun w11 hI11 e11 => ?_)
          refine bg_aload_n C d_et_put_46 rfl rfl ?_
          refine bg_getr (i := 0) C cf_et rfl (by decide) rfl tw_136 d_et_put_47 ?_
          refine bg_iload_n C d_et_put_50 rfl rfl ?_
          refine bg_iload_n C d_et_put_51 rfl rfl ?_
          refine bq_iast C hI11 rfl (by decide) rfl (by omega) (by omega) (by omega) (by omega) d_et_put_52 (fun w12 hI12 e12 => ?_)
          refine bg_aload_n C d_et_put_53 rfl rfl ?_
          refine bg_getr (i := 1) C cf_et rfl (by decide) rfl tw_139 d_et_put_54 ?_
          refine bg_iload_n C d_et_put_57 rfl rfl ?_
          refine bg_iload_n C d_et_put_58 rfl rfl ?_
          refine bq_iast C hI12 rfl (by decide) rfl (by omega) (by omega) (by omega) (by omega) d_et_put_59 (fun w13 hI13 e13 => ?_)
          refine bg_aload_n C d_et_put_60 rfl rfl ?_
          refine bg_getr (i := 2) C cf_et rfl (by decide) rfl tw_142 d_et_put_61 ?_
          refine bg_iload_n C d_et_put_64 rfl rfl ?_
          refine bg_iload C d_et_put_65 rfl ?_
          refine bq_iast0 C hI13 rfl (by decide) rfl (by omega) (by omega) d_et_put_67 (fun w14 hI14 e14 => ?_)
          exact bg_ret C d_et_put_68 (fun h => by cases h) rfl (Nat.zero_le _) (Nat.zero_le _) ⟨rfl, hI14⟩
      · refine bg_iconst C d_et_put_22 ?_
        refine bg_goto (l := 27) C d_et_put_23 (by decide) ?_
        refine bg_aload_n C d_et_put_27 rfl rfl ?_
        refine bg_getr (i := 2) C cf_et rfl (by decide) rfl tw_142 d_et_put_28 ?_
        refine bg_iload_n C d_et_put_31 rfl rfl ?_
        refine bq_iald0 C rfl (by omega) (by omega) d_et_put_32 (fun v15 e15 => ?_)
        refine bg_if_ne0 (tgt := 40) C d_et_put_33 (by decide) ?_ ?_
        · refine bg_iconst C d_et_put_40 ?_
          refine bg_isub C d_et_put_41 ?_
          refine bg_iadd C d_et_put_42 ?_
          refine bq_put0 C cf_et hI 3 3 rfl rfl (by decide) rfl (by decide) rfl rfl rfl tw_145 d_et_put_43 (fun w17 hI17 e17 => ?_)
          refine bg_aload_n C d_et_put_46 rfl rfl ?_
          refine bg_getr (i := 0) C cf_et rfl (by decide) rfl tw_136 d_et_put_47 ?_
          refine bg_iload_n C d_et_put_50 rfl rfl ?_
          refine bg_iload_n C d_et_put_51 rfl rfl ?_
          refine bq_iast C hI17 rfl (by decide) rfl (by omega) (by omega) (by omega) (by omega) d_et_put_52 (fun w18 hI18 e18 => ?_)
          refine bg_aload_n C d_et_put_53 rfl rfl ?_
          refine bg_getr (i := 1) C cf_et rfl (by decide) rfl tw_139 d_et_put_54 ?_
          refine bg_iload_n C d_et_put_57 rfl rfl ?_
          refine bg_iload_n C d_et_put_58 rfl rfl ?_
          refine bq_iast C hI18 rfl (by decide) rfl (by omega) (by omega) (by omega) (by omega) d_et_put_59 (fun w19 hI19 e19 => ?_)
          refine bg_aload_n C d_et_put_60 rfl rfl ?_
          refine bg_getr (i := 2) C cf_et rfl (by decide) rfl tw_142 d_et_put_61 ?_
          refine bg_iload_n C d_et_put_64 rfl rfl ?_
          refine bg_iload C d_et_put_65 rfl ?_
          refine bq_iast0 C hI19 rfl (by decide) rfl (by omega) (by omega) d_et_put_67 (fun w20 hI20 e20 => ?_)
          exact bg_ret C d_et_put_68 (fun h => by cases h) rfl (Nat.zero_le _) (Nat.zero_le _) ⟨rfl, hI20⟩
        · refine bg_iconst C d_et_put_36 ?_
          refine bg_goto (l := 41) C d_et_put_37 (by decide) ?_
          refine bg_isub C d_et_put_41 ?_
          refine bg_iadd C d_et_put_42 ?_
          refine bq_put0 C cf_et hI 3 3 rfl rfl (by decide) rfl (by decide) rfl rfl rfl tw_145 d_et_put_43 (fun w21 hI21 e21 => ?_)
          refine bg_aload_n C d_et_put_46 rfl rfl ?_
          refine bg_getr (i := 0) C cf_et rfl (by decide) rfl tw_136 d_et_put_47 ?_
          refine bg_iload_n C d_et_put_50 rfl rfl ?_
          refine bg_iload_n C d_et_put_51 rfl rfl ?_
          refine bq_iast C hI21 rfl (by decide) rfl (by omega) (by omega) (by omega) (by omega) d_et_put_52 (fun w22 hI22 e22 => ?_)
          refine bg_aload_n C d_et_put_53 rfl rfl ?_
          refine bg_getr (i := 1) C cf_et rfl (by decide) rfl tw_139 d_et_put_54 ?_
          refine bg_iload_n C d_et_put_57 rfl rfl ?_
          refine bg_iload_n C d_et_put_58 rfl rfl ?_
          refine bq_iast C hI22 rfl (by decide) rfl (by omega) (by omega) (by omega) (by omega) d_et_put_59 (fun w23 hI23 e23 => ?_)
          refine bg_aload_n C d_et_put_60 rfl rfl ?_
          refine bg_getr (i := 2) C cf_et rfl (by decide) rfl tw_142 d_et_put_61 ?_
          refine bg_iload_n C d_et_put_64 rfl rfl ?_
          refine bg_iload C d_et_put_65 rfl ?_
          refine bq_iast0 C hI23 rfl (by decide) rfl (by omega) (by omega) d_et_put_67 (fun w24 hI24 e24 => ?_)
          exact bg_ret C d_et_put_68 (fun h => by cases h) rfl (Nat.zero_le _) (Nat.zero_le _) ⟨rfl, hI24⟩
    · exact bg_ret C d_et_put_11 (fun h => by cases h) rfl (Nat.zero_le _) (Nat.zero_le _) ⟨rfl, hI⟩
def rm_ja_fill_vsw : Room := { frames := 0, cells := 0, slots := 0, locals := 0 }
set_option maxRecDepth 20000 in
set_option maxHeartbeats 4000000 in
theorem m_ja_fill_vsw {G : bgGl} (hG : bgOk G) {w0 : bgW} (hw : bgN w0) {x : Int} : bgM G false 0 0 y_ja_fill (.code y_ja_fill co_ja_fill 4 none) rm_ja_fill_vsw [br 17, bi x] w0 (bgPv (fun w' => bgRel w0 w')) := by
  refine bg_met hG (by decide +kernel) (bg_cat rfl) (Nat.le_of_ble_eq_true rfl) ?_
  intro K hK hR hex C
  subst hK
  have hI := bgRel.rfl hw
  show bgX K true 0 0 _ w0 0 [some (br 17), some (bi x), none, none] []
  refine bg_iconst C d_ja_fill_0 ?_
  refine bg_istore_n C d_ja_fill_1 rfl (Nat.le_of_ble_eq_true rfl) ?_
  refine bg_aload_n C d_ja_fill_2 rfl rfl ?_
  refine bg_alen (v := 200) C rfl rfl d_ja_fill_3 ?_
  refine bg_istore_n C d_ja_fill_4 rfl (Nat.le_of_ble_eq_true rfl) ?_
  refine bg_weak ?_
  refine bg_loop (α := bgW × Int) (fun a => (200 - a.2).toNat) (fun a => bgRel w0 a.1 ∧ 0 ≤ a.2 ∧ a.2 ≤ 200) (fun a => (a.1, [some (br 17), some (bi x), some (bi a.2), some (bi 200)], [])) ?_ (w0, 0) ⟨hI, by (try dsimp only) <;> omega, by (try dsimp only) <;> omega⟩
  rintro ⟨w1, i1⟩ ⟨hI1, q1_0, q1_1⟩ ih5
  try dsimp only at ih5
  try dsimp only at q1_0
  try dsimp only at q1_1
  try dsimp only
  refine bg_iload_n C d_ja_fill_5 rfl rfl ?_
  refine bg_iload_n C d_ja_fill_6 rfl rfl ?_
  refine bg_icmp_ge (tgt := 20) C d_ja_fill_7 (by decide) ⟨by omega, by omega⟩ ⟨by omega, by omega⟩ (fun h2 => ?_) (fun h2 => ?_)
  · exact bg_ret C d_ja_fill_20 (fun h => by cases h) rfl (Nat.zero_le _) (Nat.zero_le _) ⟨rfl, hI1⟩
  · refine bg_aload_n C d_ja_fill_10 rfl rfl ?_
    refine bg_iload_n C d_ja_fill_11 rfl rfl ?_
    refine bg_iload_n C d_ja_fill_12 rfl rfl ?_
    refine bq_iast0 C hI1 rfl (by decide) rfl (by omega) (by omega) d_ja_fill_13 (fun w3 hI3 e3 => ?_)
    refine bg_iinc C d_ja_fill_14 rfl ?_
    refine bg_goto (l := 5) C d_ja_fill_17 (by decide) ?_
    exact ih5 (w3, (i1 + 1)) ⟨hI3, by (try dsimp only) <;> omega, by (try dsimp only) <;> omega⟩ (by (try dsimp only) <;> omega)
def rm_ja_fill_wyd : Room := { frames := 0, cells := 0, slots := 0, locals := 0 }
set_option maxRecDepth 20000 in
set_option maxHeartbeats 4000000 in
theorem m_ja_fill_wyd {G : bgGl} (hG : bgOk G) {w0 : bgW} (hw : bgN w0) {x : Int} : bgM G false 0 0 y_ja_fill (.code y_ja_fill co_ja_fill 4 none) rm_ja_fill_wyd [br 24, bi x] w0 (bgPv (fun w' => bgRel w0 w')) := by
  refine bg_met hG (by decide +kernel) (bg_cat rfl) (Nat.le_of_ble_eq_true rfl) ?_
  intro K hK hR hex C
  subst hK
  have hI := bgRel.rfl hw
  show bgX K true 0 0 _ w0 0 [some (br 24), some (bi x), none, none] []
  refine bg_iconst C d_ja_fill_0 ?_
  refine bg_istore_n C d_ja_fill_1 rfl (Nat.le_of_ble_eq_true rfl) ?_
  refine bg_aload_n C d_ja_fill_2 rfl rfl ?_
  refine bg_alen (v := 64) C rfl rfl d_ja_fill_3 ?_
  refine bg_istore_n C d_ja_fill_4 rfl (Nat.le_of_ble_eq_true rfl) ?_
  refine bg_weak ?_
  refine bg_loop (α := bgW × Int) (fun a => (64 - a.2).toNat) (fun a => bgRel w0 a.1 ∧ 0 ≤ a.2 ∧ a.2 ≤ 64) (fun a => (a.1, [some (br 24), some (bi x), some (bi a.2), some (bi 64)], [])) ?_ (w0, 0) ⟨hI, by (try dsimp only) <;> omega, by (try dsimp only) <;> omega⟩
  rintro ⟨w1, i1⟩ ⟨hI1, q1_0, q1_1⟩ ih5
  try dsimp only at ih5
  try dsimp only at q1_0
  try dsimp only at q1_1
  try dsimp only
  refine bg_iload_n C d_ja_fill_5 rfl rfl ?_
  refine bg_iload_n C d_ja_fill_6 rfl rfl ?_
  refine bg_icmp_ge (tgt := 20) C d_ja_fill_7 (by decide) ⟨by omega, by omega⟩ ⟨by omega, by omega⟩ (fun h2 => ?_) (fun h2 => ?_)
  · exact bg_ret C d_ja_fill_20 (fun h => by cases h) rfl (Nat.zero_le _) (Nat.zero_le _) ⟨rfl, hI1⟩
  · refine bg_aload_n C d_ja_fill_10 rfl rfl ?_
    refine bg_iload_n C d_ja_fill_11 rfl rfl ?_
    refine bg_iload_n C d_ja_fill_12 rfl rfl ?_
    refine bq_iast0 C hI1 rfl (by decide) rfl (by omega) (by omega) d_ja_fill_13 (fun w3 hI3 e3 => ?_)
    refine bg_iinc C d_ja_fill_14 rfl ?_
    refine bg_goto (l := 5) C d_ja_fill_17 (by decide) ?_
    exact ih5 (w3, (i1 + 1)) ⟨hI3, by (try dsimp only) <;> omega, by (try dsimp only) <;> omega⟩ (by (try dsimp only) <;> omega)
def rm_ja_fill_wyp : Room := { frames := 0, cells := 0, slots := 0, locals := 0 }
set_option maxRecDepth 20000 in
set_option maxHeartbeats 4000000 in
theorem m_ja_fill_wyp {G : bgGl} (hG : bgOk G) {w0 : bgW} (hw : bgN w0) {x : Int} : bgM G false 0 0 y_ja_fill (.code y_ja_fill co_ja_fill 4 none) rm_ja_fill_wyp [br 25, bi x] w0 (bgPv (fun w' => bgRel w0 w')) := by
  refine bg_met hG (by decide +kernel) (bg_cat rfl) (Nat.le_of_ble_eq_true rfl) ?_
  intro K hK hR hex C
  subst hK
  have hI := bgRel.rfl hw
  show bgX K true 0 0 _ w0 0 [some (br 25), some (bi x), none, none] []
  refine bg_iconst C d_ja_fill_0 ?_
  refine bg_istore_n C d_ja_fill_1 rfl (Nat.le_of_ble_eq_true rfl) ?_
  refine bg_aload_n C d_ja_fill_2 rfl rfl ?_
  refine bg_alen (v := 64) C rfl rfl d_ja_fill_3 ?_
  refine bg_istore_n C d_ja_fill_4 rfl (Nat.le_of_ble_eq_true rfl) ?_
  refine bg_weak ?_
  refine bg_loop (α := bgW × Int) (fun a => (64 - a.2).toNat) (fun a => bgRel w0 a.1 ∧ 0 ≤ a.2 ∧ a.2 ≤ 64) (fun a => (a.1, [some (br 25), some (bi x), some (bi a.2), some (bi 64)], [])) ?_ (w0, 0) ⟨hI, by (try dsimp only) <;> omega, by (try dsimp only) <;> omega⟩
  rintro ⟨w1, i1⟩ ⟨hI1, q1_0, q1_1⟩ ih5
  try dsimp only at ih5
  try dsimp only at q1_0
  try dsimp only at q1_1
  try dsimp only
  refine bg_iload_n C d_ja_fill_5 rfl rfl ?_
  refine bg_iload_n C d_ja_fill_6 rfl rfl ?_
  refine bg_icmp_ge (tgt := 20) C d_ja_fill_7 (by decide) ⟨by omega, by omega⟩ ⟨by omega, by omega⟩ (fun h2 => ?_) (fun h2 => ?_)
  · exact bg_ret C d_ja_fill_20 (fun h => by cases h) rfl (Nat.zero_le _) (Nat.zero_le _) ⟨rfl, hI1⟩
  · refine bg_aload_n C d_ja_fill_10 rfl rfl ?_
    refine bg_iload_n C d_ja_fill_11 rfl rfl ?_
    refine bg_iload_n C d_ja_fill_12 rfl rfl ?_
    refine bq_iast0 C hI1 rfl (by decide) rfl (by omega) (by omega) d_ja_fill_13 (fun w3 hI3 e3 => ?_)
    refine bg_iinc C d_ja_fill_14 rfl ?_
    refine bg_goto (l := 5) C d_ja_fill_17 (by decide) ?_
    exact ih5 (w3, (i1 + 1)) ⟨hI3, by (try dsimp only) <;> omega, by (try dsimp only) <;> omega⟩ (by (try dsimp only) <;> omega)
def rm_et_erase : Room := { frames := 1, cells := 0, slots := 0, locals := 23 }
set_option maxRecDepth 20000 in
set_option maxHeartbeats 4000000 in
theorem m_et_erase {G : bgGl} (hG : bgOk G) {w0 : bgW} (hw : bgN w0) : bgM G false 0 0 y_et_erase (.code y_et_erase co_et_erase 1 none) rm_et_erase [br 14] w0 (bgPv (fun w' => bgRel w0 w')) := by
  refine bg_met hG (by decide +kernel) (bg_cat rfl) (Nat.le_of_ble_eq_true rfl) ?_
  intro K hK hR hex C
  subst hK
  have hI := bgRel.rfl hw
  show bgX K true 0 0 _ w0 0 [some (br 14)] []
  refine bg_aload_n C d_et_erase_0 rfl rfl ?_
  refine bg_getr (i := 2) C cf_et rfl (by decide) rfl tw_142 d_et_erase_1 ?_
  refine bg_iconst C d_et_erase_4 ?_
  refine bg_cv C (m_ja_fill_vsw hG hI.1) (bg_invS C tw_252 tt_ja_fill tc_ja_fill tw_43 ⟨by decide, by decide⟩ (nA := 2) (by decide +kernel) rfl d_et_erase_5 rfl) rfl (by rw [hR]; exact ⟨by decide, by decide⟩) (by rw [hR]; exact ⟨by decide, by decide⟩) (Nat.le_of_ble_eq_true rfl) rfl (fun w1 p1 => ?_)
  have j1 := p1
  have hI1 := hI.trans j1
  refine bg_aload_n C d_et_erase_8 rfl rfl ?_
  refine bg_iconst C d_et_erase_9 ?_
  refine bq_put0 C cf_et hI1 3 3 rfl rfl (by decide) rfl (by decide) rfl rfl rfl tw_145 d_et_erase_10 (fun w2 hI2 e2 => ?_)
  exact bg_ret C d_et_erase_13 (fun h => by cases h) rfl (Nat.zero_le _) (Nat.zero_le _) ⟨rfl, hI2⟩
def rm_et_copyBlock : Room := { frames := 1, cells := 0, slots := 0, locals := 24 }
set_option maxRecDepth 20000 in
set_option maxHeartbeats 4000000 in
theorem m_et_copyBlock {G : bgGl} (hG : bgOk G) {w0 : bgW} (hw : bgN w0) {k : Int} (z0 : 0 ≤ k) (z1 : k ≤ 49) : bgM G false 0 0 y_et_copyBlock (.code y_et_copyBlock co_et_copyBlock 5 none) rm_et_copyBlock [br 10, br 14, bi k] w0 (bgPv (fun w' => bgRel w0 w')) := by
  refine bg_met hG (by decide +kernel) (bg_cat rfl) (Nat.le_of_ble_eq_true rfl) ?_
  intro K hK hR hex C
  subst hK
  have hI := bgRel.rfl hw
  show bgX K true 0 0 _ w0 0 [some (br 10), some (br 14), some (bi k), none, none] []
  refine bg_iload_n C d_et_copyBlock_0 rfl rfl ?_
  refine bg_iconst C d_et_copyBlock_1 ?_
  refine bg_imul C d_et_copyBlock_2 ?_
  refine bg_istore_n C d_et_copyBlock_3 rfl (Nat.le_of_ble_eq_true rfl) ?_
  refine bg_iload_n C d_et_copyBlock_4 rfl rfl ?_
  refine bg_istore C d_et_copyBlock_5 (Nat.le_of_ble_eq_true rfl) ?_
  refine bg_weak ?_
  refine bg_loop (α := bgW × Int) (fun a => (k * 4 + 4 - a.2).toNat) (fun a => bgRel w0 a.1 ∧ k * 4 ≤ a.2 ∧ a.2 ≤ k * 4 + 4) (fun a => (a.1, [some (br 10), some (br 14), some (bi k), some (bi (k * 4)), some (bi a.2)], [])) ?_ (w0, (k * 4)) ⟨hI, by (try dsimp only) <;> omega, by (try dsimp only) <;> omega⟩
  rintro ⟨w1, i1⟩ ⟨hI1, q1_0, q1_1⟩ ih7
  try dsimp only at ih7
  try dsimp only at q1_0
  try dsimp only at q1_1
  try dsimp only
  refine bg_iload C d_et_copyBlock_7 rfl ?_
  refine bg_iload_n C d_et_copyBlock_9 rfl rfl ?_
  refine bg_iconst C d_et_copyBlock_10 ?_
  refine bg_iadd C d_et_copyBlock_11 ?_
  refine bg_icmp_ge (tgt := 61) C d_et_copyBlock_12 (by decide) ⟨by omega, by omega⟩ ⟨by omega, by omega⟩ (fun h2 => ?_) (fun h2 => ?_)
  · exact bg_ret C d_et_copyBlock_61 (fun h => by cases h) rfl (Nat.zero_le _) (Nat.zero_le _) ⟨rfl, hI1⟩
  · refine bg_iload C d_et_copyBlock_15 rfl ?_
    refine bg_if_lt (tgt := 55) C d_et_copyBlock_17 (by decide) ⟨by omega, by omega⟩ (fun h3 => ?_) (fun h3 => ?_)
    · refine bg_iinc C d_et_copyBlock_55 rfl ?_
      refine bg_goto (l := 7) C d_et_copyBlock_58 (by decide) ?_
      exact ih7 (w1, (i1 + 1)) ⟨hI1, by (try dsimp only) <;> omega, by (try dsimp only) <;> omega⟩ (by (try dsimp only) <;> omega)
    · refine bg_iload C d_et_copyBlock_20 rfl ?_
      refine bg_sipush C d_et_copyBlock_22 (by decide +kernel) ?_
      refine bg_icmp_ge (tgt := 55) C d_et_copyBlock_25 (by decide) ⟨by omega, by omega⟩ ⟨by omega, by omega⟩ (fun h4 => ?_) (fun h4 => ?_)
      · refine bg_iinc C d_et_copyBlock_55 rfl ?_
        refine bg_goto (l := 7) C d_et_copyBlock_58 (by decide) ?_
        exact ih7 (w1, (i1 + 1)) ⟨hI1, by (try dsimp only) <;> omega, by (try dsimp only) <;> omega⟩ (by (try dsimp only) <;> omega)
      · refine bg_aload_n C d_et_copyBlock_28 rfl rfl ?_
        refine bg_iload C d_et_copyBlock_29 rfl ?_
        refine bg_aload_n C d_et_copyBlock_31 rfl rfl ?_
        refine bg_getr (i := 0) C cf_et rfl (by decide) rfl tw_136 d_et_copyBlock_32 ?_
        refine bg_iload C d_et_copyBlock_35 rfl ?_
        refine bq_iald C hI1 rfl (by decide) rfl (by omega) (by omega) d_et_copyBlock_37 (fun v5 e5 a5 b5 => ?_)
        refine bg_aload_n C d_et_copyBlock_38 rfl rfl ?_
        refine bg_getr (i := 1) C cf_et rfl (by decide) rfl tw_139 d_et_copyBlock_39 ?_
        refine bg_iload C d_et_copyBlock_42 rfl ?_
        refine bq_iald C hI1 rfl (by decide) rfl (by omega) (by omega) d_et_copyBlock_44 (fun v6 e6 a6 b6 => ?_)
        refine bg_aload_n C d_et_copyBlock_45 rfl rfl ?_
        refine bg_getr (i := 2) C cf_et rfl (by decide) rfl tw_142 d_et_copyBlock_46 ?_
        refine bg_iload C d_et_copyBlock_49 rfl ?_
        refine bq_iald0 C rfl (by omega) (by omega) d_et_copyBlock_51 (fun v7 e7 => ?_)
        refine bg_cv C (m_et_put_hm hG hI1.1 (by omega) (by omega) (by omega) (by omega) (by omega) (by omega)) (bg_invV C cf_et rfl tw_275 ti_et_put ts_et_put tc_et_put tw_40 ⟨by decide, by decide⟩ (nA := 4) (by decide +kernel) rfl d_et_copyBlock_52 rfl) rfl (by rw [hR]; exact ⟨by decide, by decide⟩) (by rw [hR]; exact ⟨by decide, by decide⟩) (Nat.le_of_ble_eq_true rfl) rfl (fun w8 p8 => ?_)
        have j8 := p8
        have hI8 := hI1.trans j8
        refine bg_iinc C d_et_copyBlock_55 rfl ?_
        refine bg_goto (l := 7) C d_et_copyBlock_58 (by decide) ?_
        exact ih7 (w8, (i1 + 1)) ⟨hI8, by (try dsimp only) <;> omega, by (try dsimp only) <;> omega⟩ (by (try dsimp only) <;> omega)
def rm_et_copyAll : Room := { frames := 1, cells := 0, slots := 0, locals := 60 }
set_option maxRecDepth 20000 in
set_option maxHeartbeats 4000000 in
theorem m_et_copyAll {G : bgGl} (hG : bgOk G) {w0 : bgW} (hw : bgN w0) : bgM G false 0 0 y_et_copyAll (.code y_et_copyAll co_et_copyAll 2 none) rm_et_copyAll [br 14, br 10] w0 (bgPv (fun w' => bgRel w0 w')) := by
  refine bg_met hG (by decide +kernel) (bg_cat rfl) (Nat.le_of_ble_eq_true rfl) ?_
  intro K hK hR hex C
  subst hK
  have hI := bgRel.rfl hw
  show bgX K true 0 0 _ w0 0 [some (br 14), some (br 10)] []
  refine bg_aload_n C d_et_copyAll_0 rfl rfl ?_
  refine bg_getr (i := 0) C cf_et rfl (by decide) rfl tw_136 d_et_copyAll_1 ?_
  refine bg_iconst C d_et_copyAll_4 ?_
  refine bg_aload_n C d_et_copyAll_5 rfl rfl ?_
  refine bg_getr (i := 0) C cf_et rfl (by decide) rfl tw_136 d_et_copyAll_6 ?_
  refine bg_iconst C d_et_copyAll_9 ?_
  refine bg_sipush C d_et_copyAll_10 (by decide +kernel) ?_
  refine bg_copyi C tw_313 ta_nat ta_sta ta_ini rfl rfl (by omega) (by omega) (by omega) (by omega) (by omega) rfl (by rw [hR]; decide) (by rw [hR]; exact Nat.le_of_ble_eq_true rfl) d_et_copyAll_13 (fun w1 e1 => ?_)
  have hI1 : bgRel w0 w1 := by rw [e1]; exact hI.cp (by decide) (by decide) (fun _ _ => rfl)
  refine bg_aload_n C d_et_copyAll_16 rfl rfl ?_
  refine bg_getr (i := 1) C cf_et rfl (by decide) rfl tw_139 d_et_copyAll_17 ?_
  refine bg_iconst C d_et_copyAll_20 ?_
  refine bg_aload_n C d_et_copyAll_21 rfl rfl ?_
  refine bg_getr (i := 1) C cf_et rfl (by decide) rfl tw_139 d_et_copyAll_22 ?_
  refine bg_iconst C d_et_copyAll_25 ?_
  refine bg_sipush C d_et_copyAll_26 (by decide +kernel) ?_
  refine bg_copyi C tw_313 ta_nat ta_sta ta_ini rfl rfl (by omega) (by omega) (by omega) (by omega) (by omega) rfl (by rw [hR]; decide) (by rw [hR]; exact Nat.le_of_ble_eq_true rfl) d_et_copyAll_29 (fun w2 e2 => ?_)
  have hI2 : bgRel w0 w2 := by rw [e2]; exact hI1.cp (by decide) (by decide) (fun _ _ => rfl)
  refine bg_aload_n C d_et_copyAll_32 rfl rfl ?_
  refine bg_getr (i := 2) C cf_et rfl (by decide) rfl tw_142 d_et_copyAll_33 ?_
  refine bg_iconst C d_et_copyAll_36 ?_
  refine bg_aload_n C d_et_copyAll_37 rfl rfl ?_
  refine bg_getr (i := 2) C cf_et rfl (by decide) rfl tw_142 d_et_copyAll_38 ?_
  refine bg_iconst C d_et_copyAll_41 ?_
  refine bg_sipush C d_et_copyAll_42 (by decide +kernel) ?_
  refine bg_copyi C tw_313 ta_nat ta_sta ta_ini rfl rfl (by omega) (by omega) (by omega) (by omega) (by omega) rfl (by rw [hR]; decide) (by rw [hR]; exact Nat.le_of_ble_eq_true rfl) d_et_copyAll_45 (fun w3 e3 => ?_)
  have hI3 : bgRel w0 w3 := by rw [e3]; exact hI2.cp (by decide) (by decide) (fun _ _ => rfl)
  refine bg_aload_n C d_et_copyAll_48 rfl rfl ?_
  refine bg_aload_n C d_et_copyAll_49 rfl rfl ?_
  refine bq_get0 C cf_et 3 3 rfl rfl (by decide) rfl tw_145 d_et_copyAll_50 (fun v4 e4 => ?_)
  refine bq_put0 C cf_et hI3 3 3 rfl rfl (by decide) rfl (by decide) rfl rfl rfl tw_145 d_et_copyAll_53 (fun w5 hI5 e5 => ?_)
  exact bg_ret C d_et_copyAll_56 (fun h => by cases h) rfl (Nat.zero_le _) (Nat.zero_le _) ⟨rfl, hI5⟩
