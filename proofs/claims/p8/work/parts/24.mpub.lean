def S_mo_format : List (Nat × Option Int) := [(27, some 0), (27, some 17), (27, some 19), (27, some 6), (27, some 7), (27, some 13), (27, some 5), (27, some 14), (27, some 4), (27, some 10), (27, some 11), (27, some 12), (31, none), (28, none), (33, none)]
def rm_mo_format : Room := { frames := 2, cells := 0, slots := 0, locals := 45 }
set_option maxRecDepth 20000 in
set_option maxHeartbeats 4000000 in
theorem m_mo_format {G : bgGl} (hG : bgOk G) {w0 : bgW} (hw : moN w0) (z0 : bmB w0) : bgM G false 0 0 y_mo_format (.code y_mo_format co_mo_format 1 (some .boolean)) rm_mo_format [br 27] w0 (bgPi (fun v w' => moRel S_mo_format w0 w' ∧ bmB w')) := by
  refine bg_met hG (by decide +kernel) (bg_cat rfl) (Nat.le_of_ble_eq_true rfl) ?_
  intro K hK hR hex C
  subst hK
  have hI := moRel.rfl (S := S_mo_format) hw
  show bgX K true 0 0 _ w0 0 [some (br 27)] []
  have hB := z0
  have hB1 := hB.1
  have hs17 := hw 27 17 0 51 rfl
  have hs7 := hw 27 7 0 20 rfl
  have hs19 := hw 27 19 0 1 rfl
  have hs6 := hw 27 6 0 1 rfl
  have hs5 := hw 27 5 0 1 rfl
  refine bg_aload_n C d_mo_format_0 rfl rfl ?_
  refine bg_iconst C d_mo_format_1 ?_
  refine bm_puti C cf_mo hI 0 0 rfl rfl (by decide) rfl rfl rfl (by omega) (by omega) rfl (Or.inl rfl) tw_677 d_mo_format_2 (fun w1 hI1 e1 => ?_)
  have A1_28 : ∀ i, w1 28 i = w0 28 i := fun i => by rw [e1]; exact bgU_ne i (by decide)
  have A1_29 : ∀ i, w1 29 i = w0 29 i := fun i => by rw [e1]; exact bgU_ne i (by decide)
  have A1_30 : ∀ i, w1 30 i = w0 30 i := fun i => by rw [e1]; exact bgU_ne i (by decide)
  have A1_34 : ∀ i, w1 34 i = w0 34 i := fun i => by rw [e1]; exact bgU_ne i (by decide)
  have g1_0 : w1 27 0 = 0 := by rw [e1]; exact bgU_eq
  have g1_1 : w1 27 4 = w0 27 4 := by rw [e1]; exact bgU_nei (by decide)
  have g1_2 : w1 27 5 = w0 27 5 := by rw [e1]; exact bgU_nei (by decide)
  have g1_3 : w1 27 6 = w0 27 6 := by rw [e1]; exact bgU_nei (by decide)
  have g1_4 : w1 27 7 = w0 27 7 := by rw [e1]; exact bgU_nei (by decide)
  have g1_5 : w1 27 17 = w0 27 17 := by rw [e1]; exact bgU_nei (by decide)
  have g1_6 : w1 27 19 = w0 27 19 := by rw [e1]; exact bgU_nei (by decide)
  have g1_7 : w1 27 20 = w0 27 20 := by rw [e1]; exact bgU_nei (by decide)
  refine bg_aload_n C d_mo_format_5 rfl rfl ?_
  refine bg_iconst C d_mo_format_6 ?_
  refine bm_puti C cf_mo hI1 17 17 rfl rfl (by decide) rfl rfl rfl (by omega) (by omega) rfl (Or.inl rfl) tw_694 d_mo_format_7 (fun w2 hI2 e2 => ?_)
  have A2_28 : ∀ i, w2 28 i = w0 28 i := fun i => by rw [e2]; exact (bgU_ne i (by decide)).trans (A1_28 i)
  have A2_29 : ∀ i, w2 29 i = w0 29 i := fun i => by rw [e2]; exact (bgU_ne i (by decide)).trans (A1_29 i)
  have A2_30 : ∀ i, w2 30 i = w0 30 i := fun i => by rw [e2]; exact (bgU_ne i (by decide)).trans (A1_30 i)
  have A2_34 : ∀ i, w2 34 i = w0 34 i := fun i => by rw [e2]; exact (bgU_ne i (by decide)).trans (A1_34 i)
  have g2_0 : w2 27 0 = w1 27 0 := by rw [e2]; exact bgU_nei (by decide)
  have g2_1 : w2 27 4 = w1 27 4 := by rw [e2]; exact bgU_nei (by decide)
  have g2_2 : w2 27 5 = w1 27 5 := by rw [e2]; exact bgU_nei (by decide)
  have g2_3 : w2 27 6 = w1 27 6 := by rw [e2]; exact bgU_nei (by decide)
  have g2_4 : w2 27 7 = w1 27 7 := by rw [e2]; exact bgU_nei (by decide)
  have g2_5 : w2 27 17 = 0 := by rw [e2]; exact bgU_eq
  have g2_6 : w2 27 19 = w1 27 19 := by rw [e2]; exact bgU_nei (by decide)
  have g2_7 : w2 27 20 = w1 27 20 := by rw [e2]; exact bgU_nei (by decide)
  refine bg_aload_n C d_mo_format_10 rfl rfl ?_
  refine bg_iconst C d_mo_format_11 ?_
  refine bm_puti C cf_mo hI2 19 19 rfl rfl (by decide) rfl rfl rfl (by omega) (by omega) rfl (Or.inr ⟨rfl, by omega⟩) tw_696 d_mo_format_12 (fun w3 hI3 e3 => ?_)
  have A3_28 : ∀ i, w3 28 i = w0 28 i := fun i => by rw [e3]; exact (bgU_ne i (by decide)).trans (A2_28 i)
  have A3_29 : ∀ i, w3 29 i = w0 29 i := fun i => by rw [e3]; exact (bgU_ne i (by decide)).trans (A2_29 i)
  have A3_30 : ∀ i, w3 30 i = w0 30 i := fun i => by rw [e3]; exact (bgU_ne i (by decide)).trans (A2_30 i)
  have A3_34 : ∀ i, w3 34 i = w0 34 i := fun i => by rw [e3]; exact (bgU_ne i (by decide)).trans (A2_34 i)
  have g3_0 : w3 27 0 = w2 27 0 := by rw [e3]; exact bgU_nei (by decide)
  have g3_1 : w3 27 4 = w2 27 4 := by rw [e3]; exact bgU_nei (by decide)
  have g3_2 : w3 27 5 = w2 27 5 := by rw [e3]; exact bgU_nei (by decide)
  have g3_3 : w3 27 6 = w2 27 6 := by rw [e3]; exact bgU_nei (by decide)
  have g3_4 : w3 27 7 = w2 27 7 := by rw [e3]; exact bgU_nei (by decide)
  have g3_5 : w3 27 17 = w2 27 17 := by rw [e3]; exact bgU_nei (by decide)
  have g3_6 : w3 27 19 = 1 := by rw [e3]; exact bgU_eq
  have g3_7 : w3 27 20 = w2 27 20 := by rw [e3]; exact bgU_nei (by decide)
  refine bg_aload_n C d_mo_format_15 rfl rfl ?_
  refine bg_iconst C d_mo_format_16 ?_
  refine bm_puti C cf_mo hI3 6 6 rfl rfl (by decide) rfl rfl rfl (by omega) (by omega) rfl (Or.inr ⟨rfl, by omega⟩) tw_683 d_mo_format_17 (fun w4 hI4 e4 => ?_)
  have A4_28 : ∀ i, w4 28 i = w0 28 i := fun i => by rw [e4]; exact (bgU_ne i (by decide)).trans (A3_28 i)
  have A4_29 : ∀ i, w4 29 i = w0 29 i := fun i => by rw [e4]; exact (bgU_ne i (by decide)).trans (A3_29 i)
  have A4_30 : ∀ i, w4 30 i = w0 30 i := fun i => by rw [e4]; exact (bgU_ne i (by decide)).trans (A3_30 i)
  have A4_34 : ∀ i, w4 34 i = w0 34 i := fun i => by rw [e4]; exact (bgU_ne i (by decide)).trans (A3_34 i)
  have g4_0 : w4 27 0 = w3 27 0 := by rw [e4]; exact bgU_nei (by decide)
  have g4_1 : w4 27 4 = w3 27 4 := by rw [e4]; exact bgU_nei (by decide)
  have g4_2 : w4 27 5 = w3 27 5 := by rw [e4]; exact bgU_nei (by decide)
  have g4_3 : w4 27 6 = 0 := by rw [e4]; exact bgU_eq
  have g4_4 : w4 27 7 = w3 27 7 := by rw [e4]; exact bgU_nei (by decide)
  have g4_5 : w4 27 17 = w3 27 17 := by rw [e4]; exact bgU_nei (by decide)
  have g4_6 : w4 27 19 = w3 27 19 := by rw [e4]; exact bgU_nei (by decide)
  have g4_7 : w4 27 20 = w3 27 20 := by rw [e4]; exact bgU_nei (by decide)
  refine bg_aload_n C d_mo_format_20 rfl rfl ?_
  refine bg_cv C (m_mo_untouch hG hI4.1) (bg_invV C cf_mo rfl tw_756 ti_mo_untouch ts_mo_untouch tc_mo_untouch tw_42 ⟨by decide, by decide⟩ (nA := 0) (by decide +kernel) rfl d_mo_format_21 rfl) rfl (by rw [hR]; exact ⟨by decide, by decide⟩) (by rw [hR]; exact ⟨by decide, by decide⟩) (Nat.le_of_ble_eq_true rfl) rfl (fun w5 p5 => ?_)
  obtain ⟨j5, r5_0⟩ := p5
  have hI5 := hI4.trans j5 (by decide)
  have g5_0 : w5 27 0 = w4 27 0 := j5.2 27 0 rfl
  have g5_1 : w5 27 4 = w4 27 4 := j5.2 27 4 rfl
  have g5_2 : w5 27 5 = w4 27 5 := j5.2 27 5 rfl
  have g5_3 : w5 27 6 = w4 27 6 := j5.2 27 6 rfl
  have g5_5 : w5 27 17 = w4 27 17 := j5.2 27 17 rfl
  have g5_6 : w5 27 19 = w4 27 19 := j5.2 27 19 rfl
  have g5_7 : w5 27 20 = w4 27 20 := j5.2 27 20 rfl
  have A5_28 : ∀ i, w5 28 i = w0 28 i := fun i => (j5.2 28 i rfl).trans (A4_28 i)
  have A5_29 : ∀ i, w5 29 i = w0 29 i := fun i => (j5.2 29 i rfl).trans (A4_29 i)
  have A5_30 : ∀ i, w5 30 i = w0 30 i := fun i => (j5.2 30 i rfl).trans (A4_30 i)
  have A5_34 : ∀ i, w5 34 i = w0 34 i := fun i => (j5.2 34 i rfl).trans (A4_34 i)
  refine bg_aload_n C d_mo_format_24 rfl rfl ?_
  refine bg_ci C (m_mo_isWritten hG hI5.1) (bg_invV C cf_mo rfl tw_760 ti_mo_isWritten ts_mo_isWritten tc_mo_isWritten tw_42 ⟨by decide, by decide⟩ (nA := 0) (by decide +kernel) rfl d_mo_format_25 rfl) rfl (by rw [hR]; exact ⟨by decide, by decide⟩) (by rw [hR]; exact ⟨by decide, by decide⟩) (Nat.le_of_ble_eq_true rfl) rfl (fun v6 w6 p6 => ?_)
  obtain ⟨j6, r6_0, r6_1, r6_2, r6_3, r6_4⟩ := p6
  have hI6 := hI5.trans j6 (by decide)
  have g6_0 : w6 27 0 = w5 27 0 := j6.2 27 0 rfl
  have g6_1 : w6 27 4 = w5 27 4 := j6.2 27 4 rfl
  have g6_4 : w6 27 7 = w5 27 7 := j6.2 27 7 rfl
  have g6_5 : w6 27 17 = w5 27 17 := j6.2 27 17 rfl
  have g6_6 : w6 27 19 = w5 27 19 := j6.2 27 19 rfl
  have g6_7 : w6 27 20 = w5 27 20 := j6.2 27 20 rfl
  have A6_28 : ∀ i, w6 28 i = w0 28 i := fun i => (j6.2 28 i rfl).trans (A5_28 i)
  have A6_29 : ∀ i, w6 29 i = w0 29 i := fun i => (j6.2 29 i rfl).trans (A5_29 i)
  have A6_30 : ∀ i, w6 30 i = w0 30 i := fun i => (j6.2 30 i rfl).trans (A5_30 i)
  have A6_34 : ∀ i, w6 34 i = w0 34 i := fun i => (j6.2 34 i rfl).trans (A5_34 i)
  refine bg_if_ne (tgt := 33) C d_mo_format_28 (by decide) ⟨by omega, by omega⟩ (fun h7 => ?_) (fun h7 => ?_)
  · refine bg_aload_n C d_mo_format_33 rfl rfl ?_
    refine bg_iconst C d_mo_format_34 ?_
    refine bm_puti C cf_mo hI6 4 4 rfl rfl (by decide) rfl rfl rfl (by omega) (by omega) rfl (Or.inr ⟨rfl, by omega⟩) tw_681 d_mo_format_35 (fun w8 hI8 e8 => ?_)
    have A8_28 : ∀ i, w8 28 i = w0 28 i := fun i => by rw [e8]; exact (bgU_ne i (by decide)).trans (A6_28 i)
    have A8_29 : ∀ i, w8 29 i = w0 29 i := fun i => by rw [e8]; exact (bgU_ne i (by decide)).trans (A6_29 i)
    have A8_30 : ∀ i, w8 30 i = w0 30 i := fun i => by rw [e8]; exact (bgU_ne i (by decide)).trans (A6_30 i)
    have A8_34 : ∀ i, w8 34 i = w0 34 i := fun i => by rw [e8]; exact (bgU_ne i (by decide)).trans (A6_34 i)
    have g8_0 : w8 27 0 = w6 27 0 := by rw [e8]; exact bgU_nei (by decide)
    have g8_1 : w8 27 4 = 0 := by rw [e8]; exact bgU_eq
    have g8_2 : w8 27 5 = w6 27 5 := by rw [e8]; exact bgU_nei (by decide)
    have g8_3 : w8 27 6 = w6 27 6 := by rw [e8]; exact bgU_nei (by decide)
    have g8_4 : w8 27 7 = w6 27 7 := by rw [e8]; exact bgU_nei (by decide)
    have g8_5 : w8 27 17 = w6 27 17 := by rw [e8]; exact bgU_nei (by decide)
    have g8_6 : w8 27 19 = w6 27 19 := by rw [e8]; exact bgU_nei (by decide)
    have g8_7 : w8 27 20 = w6 27 20 := by rw [e8]; exact bgU_nei (by decide)
    refine bg_aload_n C d_mo_format_38 rfl rfl ?_
    refine bg_iconst C d_mo_format_39 ?_
    refine bm_puti C cf_mo hI8 10 10 rfl rfl (by decide) rfl rfl rfl (by omega) (by omega) rfl (Or.inr ⟨rfl, by omega⟩) tw_687 d_mo_format_40 (fun w9 hI9 e9 => ?_)
    have A9_28 : ∀ i, w9 28 i = w0 28 i := fun i => by rw [e9]; exact (bgU_ne i (by decide)).trans (A8_28 i)
    have A9_29 : ∀ i, w9 29 i = w0 29 i := fun i => by rw [e9]; exact (bgU_ne i (by decide)).trans (A8_29 i)
    have A9_30 : ∀ i, w9 30 i = w0 30 i := fun i => by rw [e9]; exact (bgU_ne i (by decide)).trans (A8_30 i)
    have A9_34 : ∀ i, w9 34 i = w0 34 i := fun i => by rw [e9]; exact (bgU_ne i (by decide)).trans (A8_34 i)
    have g9_0 : w9 27 0 = w8 27 0 := by rw [e9]; exact bgU_nei (by decide)
    have g9_1 : w9 27 4 = w8 27 4 := by rw [e9]; exact bgU_nei (by decide)
    have g9_2 : w9 27 5 = w8 27 5 := by rw [e9]; exact bgU_nei (by decide)
    have g9_3 : w9 27 6 = w8 27 6 := by rw [e9]; exact bgU_nei (by decide)
    have g9_4 : w9 27 7 = w8 27 7 := by rw [e9]; exact bgU_nei (by decide)
    have g9_5 : w9 27 17 = w8 27 17 := by rw [e9]; exact bgU_nei (by decide)
    have g9_6 : w9 27 19 = w8 27 19 := by rw [e9]; exact bgU_nei (by decide)
    have g9_7 : w9 27 20 = w8 27 20 := by rw [e9]; exact bgU_nei (by decide)
    refine bg_aload_n C d_mo_format_43 rfl rfl ?_
    refine bg_iconst C d_mo_format_44 ?_
    refine bm_put0 C cf_mo hI9 11 11 rfl rfl (by decide) rfl rfl rfl rfl rfl tw_688 d_mo_format_45 (fun w10 hI10 e10 => ?_)
    have A10_28 : ∀ i, w10 28 i = w0 28 i := fun i => by rw [e10]; exact (bgU_ne i (by decide)).trans (A9_28 i)
    have A10_29 : ∀ i, w10 29 i = w0 29 i := fun i => by rw [e10]; exact (bgU_ne i (by decide)).trans (A9_29 i)
    have A10_30 : ∀ i, w10 30 i = w0 30 i := fun i => by rw [e10]; exact (bgU_ne i (by decide)).trans (A9_30 i)
    have A10_34 : ∀ i, w10 34 i = w0 34 i := fun i => by rw [e10]; exact (bgU_ne i (by decide)).trans (A9_34 i)
    have g10_0 : w10 27 0 = w9 27 0 := by rw [e10]; exact bgU_nei (by decide)
    have g10_1 : w10 27 4 = w9 27 4 := by rw [e10]; exact bgU_nei (by decide)
    have g10_2 : w10 27 5 = w9 27 5 := by rw [e10]; exact bgU_nei (by decide)
    have g10_3 : w10 27 6 = w9 27 6 := by rw [e10]; exact bgU_nei (by decide)
    have g10_4 : w10 27 7 = w9 27 7 := by rw [e10]; exact bgU_nei (by decide)
    have g10_5 : w10 27 17 = w9 27 17 := by rw [e10]; exact bgU_nei (by decide)
    have g10_6 : w10 27 19 = w9 27 19 := by rw [e10]; exact bgU_nei (by decide)
    have g10_7 : w10 27 20 = w9 27 20 := by rw [e10]; exact bgU_nei (by decide)
    refine bg_aload_n C d_mo_format_48 rfl rfl ?_
    refine bg_iconst C d_mo_format_49 ?_
    refine bm_put0 C cf_mo hI10 12 12 rfl rfl (by decide) rfl rfl rfl rfl rfl tw_689 d_mo_format_50 (fun w11 hI11 e11 => ?_)
    have A11_28 : ∀ i, w11 28 i = w0 28 i := fun i => by rw [e11]; exact (bgU_ne i (by decide)).trans (A10_28 i)
    have A11_29 : ∀ i, w11 29 i = w0 29 i := fun i => by rw [e11]; exact (bgU_ne i (by decide)).trans (A10_29 i)
    have A11_30 : ∀ i, w11 30 i = w0 30 i := fun i => by rw [e11]; exact (bgU_ne i (by decide)).trans (A10_30 i)
    have A11_34 : ∀ i, w11 34 i = w0 34 i := fun i => by rw [e11]; exact (bgU_ne i (by decide)).trans (A10_34 i)
    have g11_0 : w11 27 0 = w10 27 0 := by rw [e11]; exact bgU_nei (by decide)
    have g11_1 : w11 27 4 = w10 27 4 := by rw [e11]; exact bgU_nei (by decide)
    have g11_2 : w11 27 5 = w10 27 5 := by rw [e11]; exact bgU_nei (by decide)
    have g11_3 : w11 27 6 = w10 27 6 := by rw [e11]; exact bgU_nei (by decide)
    have g11_4 : w11 27 7 = w10 27 7 := by rw [e11]; exact bgU_nei (by decide)
    have g11_5 : w11 27 17 = w10 27 17 := by rw [e11]; exact bgU_nei (by decide)
    have g11_6 : w11 27 19 = w10 27 19 := by rw [e11]; exact bgU_nei (by decide)
    have g11_7 : w11 27 20 = w10 27 20 := by rw [e11]; exact bgU_nei (by decide)
    refine bg_aload_n C d_mo_format_53 rfl rfl ?_
    refine bg_cv C (m_mo_clear hG hI11.1) (bg_invV C cf_mo rfl tw_673 ti_mo_clear ts_mo_clear tc_mo_clear tw_42 ⟨by decide, by decide⟩ (nA := 0) (by decide +kernel) rfl d_mo_format_54 rfl) rfl (by rw [hR]; exact ⟨by decide, by decide⟩) (by rw [hR]; exact ⟨by decide, by decide⟩) (Nat.le_of_ble_eq_true rfl) rfl (fun w12 p12 => ?_)
    obtain ⟨j12, r12_0⟩ := p12
    have hI12 := hI11.trans j12 (by decide)
    have g12_0 : w12 27 0 = w11 27 0 := j12.2 27 0 rfl
    have g12_1 : w12 27 4 = w11 27 4 := j12.2 27 4 rfl
    have g12_2 : w12 27 5 = w11 27 5 := j12.2 27 5 rfl
    have g12_3 : w12 27 6 = w11 27 6 := j12.2 27 6 rfl
    have g12_4 : w12 27 7 = w11 27 7 := j12.2 27 7 rfl
    have g12_5 : w12 27 17 = w11 27 17 := j12.2 27 17 rfl
    have g12_6 : w12 27 19 = w11 27 19 := j12.2 27 19 rfl
    have g12_7 : w12 27 20 = w11 27 20 := j12.2 27 20 rfl
    have A12_29 : ∀ i, w12 29 i = w0 29 i := fun i => (j12.2 29 i rfl).trans (A11_29 i)
    have A12_30 : ∀ i, w12 30 i = w0 30 i := fun i => (j12.2 30 i rfl).trans (A11_30 i)
    have A12_34 : ∀ i, w12 34 i = w0 34 i := fun i => (j12.2 34 i rfl).trans (A11_34 i)
    refine bg_aload_n C d_mo_format_57 rfl rfl ?_
    refine bg_ci C (m_mo_isFormatted hG hI12.1 (by omega)) (bg_invV C cf_mo rfl tw_764 ti_mo_isFormatted ts_mo_isFormatted tc_mo_isFormatted tw_42 ⟨by decide, by decide⟩ (nA := 0) (by decide +kernel) rfl d_mo_format_58 rfl) rfl (by rw [hR]; exact ⟨by decide, by decide⟩) (by rw [hR]; exact ⟨by decide, by decide⟩) (Nat.le_of_ble_eq_true rfl) rfl (fun v13 w13 p13 => ?_)
    obtain ⟨j13, r13_0, r13_1, r13_2, r13_3, r13_4, r13_5⟩ := p13
    have hI13 := hI12.trans j13 (by decide)
    have g13_0 : w13 27 0 = w12 27 0 := j13.2 27 0 rfl
    have g13_1 : w13 27 4 = w12 27 4 := j13.2 27 4 rfl
    have g13_4 : w13 27 7 = w12 27 7 := j13.2 27 7 rfl
    have g13_6 : w13 27 19 = w12 27 19 := j13.2 27 19 rfl
    have g13_7 : w13 27 20 = w12 27 20 := j13.2 27 20 rfl
    have A13_28 : ∀ i, w13 28 i = w12 28 i := fun i => j13.2 28 i rfl
    have A13_29 : ∀ i, w13 29 i = w0 29 i := fun i => (j13.2 29 i rfl).trans (A12_29 i)
    have A13_30 : ∀ i, w13 30 i = w0 30 i := fun i => (j13.2 30 i rfl).trans (A12_30 i)
    have A13_34 : ∀ i, w13 34 i = w0 34 i := fun i => (j13.2 34 i rfl).trans (A12_34 i)
    refine bg_if_ne (tgt := 66) C d_mo_format_61 (by decide) ⟨by omega, by omega⟩ (fun h14 => ?_) (fun h14 => ?_)
    · refine bg_aload_n C d_mo_format_66 rfl rfl ?_
      refine bg_iconst C d_mo_format_67 ?_
      refine bm_puti C cf_mo hI13 4 4 rfl rfl (by decide) rfl rfl rfl (by omega) (by omega) rfl (Or.inr ⟨rfl, by omega⟩) tw_681 d_mo_format_68 (fun w15 hI15 e15 => ?_)
      have A15_28 : ∀ i, w15 28 i = w12 28 i := fun i => by rw [e15]; exact (bgU_ne i (by decide)).trans (A13_28 i)
      have A15_29 : ∀ i, w15 29 i = w0 29 i := fun i => by rw [e15]; exact (bgU_ne i (by decide)).trans (A13_29 i)
      have A15_30 : ∀ i, w15 30 i = w0 30 i := fun i => by rw [e15]; exact (bgU_ne i (by decide)).trans (A13_30 i)
      have A15_34 : ∀ i, w15 34 i = w0 34 i := fun i => by rw [e15]; exact (bgU_ne i (by decide)).trans (A13_34 i)
      have g15_0 : w15 27 0 = w13 27 0 := by rw [e15]; exact bgU_nei (by decide)
      have g15_1 : w15 27 4 = 1 := by rw [e15]; exact bgU_eq
      have g15_2 : w15 27 5 = w13 27 5 := by rw [e15]; exact bgU_nei (by decide)
      have g15_3 : w15 27 6 = w13 27 6 := by rw [e15]; exact bgU_nei (by decide)
      have g15_4 : w15 27 7 = w13 27 7 := by rw [e15]; exact bgU_nei (by decide)
      have g15_5 : w15 27 17 = w13 27 17 := by rw [e15]; exact bgU_nei (by decide)
      have g15_6 : w15 27 19 = w13 27 19 := by rw [e15]; exact bgU_nei (by decide)
      have g15_7 : w15 27 20 = w13 27 20 := by rw [e15]; exact bgU_nei (by decide)
      refine bg_aload_n C d_mo_format_71 rfl rfl ?_
      refine bg_iconst C d_mo_format_72 ?_
      refine bm_puti C cf_mo hI15 5 5 rfl rfl (by decide) rfl rfl rfl (by omega) (by omega) rfl (Or.inr ⟨rfl, by omega⟩) tw_682 d_mo_format_73 (fun w16 hI16 e16 => ?_)
      have A16_28 : ∀ i, w16 28 i = w12 28 i := fun i => by rw [e16]; exact (bgU_ne i (by decide)).trans (A15_28 i)
      have A16_29 : ∀ i, w16 29 i = w0 29 i := fun i => by rw [e16]; exact (bgU_ne i (by decide)).trans (A15_29 i)
      have A16_30 : ∀ i, w16 30 i = w0 30 i := fun i => by rw [e16]; exact (bgU_ne i (by decide)).trans (A15_30 i)
      have A16_34 : ∀ i, w16 34 i = w0 34 i := fun i => by rw [e16]; exact (bgU_ne i (by decide)).trans (A15_34 i)
      have g16_0 : w16 27 0 = w15 27 0 := by rw [e16]; exact bgU_nei (by decide)
      have g16_1 : w16 27 4 = w15 27 4 := by rw [e16]; exact bgU_nei (by decide)
      have g16_2 : w16 27 5 = 0 := by rw [e16]; exact bgU_eq
      have g16_3 : w16 27 6 = w15 27 6 := by rw [e16]; exact bgU_nei (by decide)
      have g16_4 : w16 27 7 = w15 27 7 := by rw [e16]; exact bgU_nei (by decide)
      have g16_5 : w16 27 17 = w15 27 17 := by rw [e16]; exact bgU_nei (by decide)
      have g16_6 : w16 27 19 = w15 27 19 := by rw [e16]; exact bgU_nei (by decide)
      have g16_7 : w16 27 20 = w15 27 20 := by rw [e16]; exact bgU_nei (by decide)
      refine bg_iconst C d_mo_format_76 ?_
      exact bg_iret C d_mo_format_77 (fun h => by cases h) (Or.inr ⟨rfl, by omega⟩) (Nat.zero_le _) (Nat.zero_le _) ⟨_, rfl, hI16, bmB_clear (fun e h0 h1 => (A16_28 e).trans (r12_0 e h0 h1)) (by omega) (by omega)⟩
    · refine bg_iconst C d_mo_format_64 ?_
      exact bg_iret C d_mo_format_65 (fun h => by cases h) (Or.inr ⟨rfl, by omega⟩) (Nat.zero_le _) (Nat.zero_le _) ⟨_, rfl, hI13, bmB_clear (fun e h0 h1 => (A13_28 e).trans (r12_0 e h0 h1)) (by omega) (by omega)⟩
  · refine bg_iconst C d_mo_format_31 ?_
    exact bg_iret C d_mo_format_32 (fun h => by cases h) (Or.inr ⟨rfl, by omega⟩) (Nat.zero_le _) (Nat.zero_le _) ⟨_, rfl, hI6, bmB_1 (bmE_of A6_28 A6_30 hB.2.1) (by omega) (by omega) (by omega)⟩
def S_mo_begin : List (Nat × Option Int) := [(27, some 0), (27, some 6), (27, some 7), (31, none)]
def rm_mo_begin : Room := { frames := 1, cells := 0, slots := 0, locals := 21 }
set_option maxRecDepth 20000 in
set_option maxHeartbeats 4000000 in
theorem m_mo_begin {G : bgGl} (hG : bgOk G) {w0 : bgW} (hw : moN w0) (z0 : bmB w0) : bgM G false 0 0 y_mo_begin (.code y_mo_begin co_mo_begin 1 none) rm_mo_begin [br 27] w0 (bgPv (fun w' => moRel S_mo_begin w0 w' ∧ bmB w')) := by
  refine bg_met hG (by decide +kernel) (bg_cat rfl) (Nat.le_of_ble_eq_true rfl) ?_
  intro K hK hR hex C
  subst hK
  have hI := moRel.rfl (S := S_mo_begin) hw
  show bgX K true 0 0 _ w0 0 [some (br 27)] []
  have hB := z0
  have hB1 := hB.1
  have hs17 := hw 27 17 0 51 rfl
  have hs7 := hw 27 7 0 20 rfl
  have hs19 := hw 27 19 0 1 rfl
  have hs6 := hw 27 6 0 1 rfl
  have hs5 := hw 27 5 0 1 rfl
  refine bg_aload_n C d_mo_begin_0 rfl rfl ?_
  refine bg_aload_n C d_mo_begin_1 rfl rfl ?_
  refine bg_ci C (m_mo_isDown hG hI.1) (bg_invV C cf_mo rfl tw_776 ti_mo_isDown ts_mo_isDown tc_mo_isDown tw_42 ⟨by decide, by decide⟩ (nA := 0) (by decide +kernel) rfl d_mo_begin_2 rfl) rfl (by rw [hR]; exact ⟨by decide, by decide⟩) (by rw [hR]; exact ⟨by decide, by decide⟩) (Nat.le_of_ble_eq_true rfl) rfl (fun v1 w1 p1 => ?_)
  obtain ⟨rfl, r1_0, r1_1, r1_2, r1_3⟩ := p1
  refine bg_if_ne (tgt := 15) C d_mo_begin_5 (by decide) ⟨by omega, by omega⟩ (fun h2 => ?_) (fun h2 => ?_)
  · refine bg_iconst C d_mo_begin_15 ?_
    refine bg_goto (l := 20) C d_mo_begin_16 (by decide) ?_
    refine bm_puti C cf_mo hI 0 0 rfl rfl (by decide) rfl rfl rfl (by omega) (by omega) rfl (Or.inl rfl) tw_677 d_mo_begin_20 (fun w3 hI3 e3 => ?_)
    have A3_28 : ∀ i, w3 28 i = w0 28 i := fun i => by rw [e3]; exact bgU_ne i (by decide)
    have A3_29 : ∀ i, w3 29 i = w0 29 i := fun i => by rw [e3]; exact bgU_ne i (by decide)
    have A3_30 : ∀ i, w3 30 i = w0 30 i := fun i => by rw [e3]; exact bgU_ne i (by decide)
    have A3_34 : ∀ i, w3 34 i = w0 34 i := fun i => by rw [e3]; exact bgU_ne i (by decide)
    have g3_0 : w3 27 0 = 1 := by rw [e3]; exact bgU_eq
    have g3_1 : w3 27 4 = w0 27 4 := by rw [e3]; exact bgU_nei (by decide)
    have g3_2 : w3 27 5 = w0 27 5 := by rw [e3]; exact bgU_nei (by decide)
    have g3_3 : w3 27 6 = w0 27 6 := by rw [e3]; exact bgU_nei (by decide)
    have g3_4 : w3 27 7 = w0 27 7 := by rw [e3]; exact bgU_nei (by decide)
    have g3_5 : w3 27 17 = w0 27 17 := by rw [e3]; exact bgU_nei (by decide)
    have g3_6 : w3 27 19 = w0 27 19 := by rw [e3]; exact bgU_nei (by decide)
    have g3_7 : w3 27 20 = w0 27 20 := by rw [e3]; exact bgU_nei (by decide)
    refine bg_aload_n C d_mo_begin_23 rfl rfl ?_
    refine bm_geti C cf_mo hI3 0 0 rfl rfl (by decide) rfl rfl tw_677 d_mo_begin_24 (fun v4 e4 a4 b4 => ?_)
    refine bg_if_ne (tgt := 39) C d_mo_begin_27 (by decide) ⟨by omega, by omega⟩ (fun h5 => ?_) (fun h5 => by exfalso; omega)
    exact bg_ret C d_mo_begin_39 (fun h => by cases h) rfl (Nat.zero_le _) (Nat.zero_le _) ⟨rfl, hI3, by first | exact bmB_of A3_28 A3_29 A3_30 A3_34 (by omega) (by omega) (by omega) (by omega) (by omega) (by omega) (by omega) hB | exact bmB_J A3_28 A3_29 A3_30 A3_34 (by omega) (by omega) (by omega) (hB.2.2.1 (by omega) (by omega) (Or.inl (by omega))) hB⟩
  · refine bg_aload_n C d_mo_begin_8 rfl rfl ?_
    refine bm_geti C cf_mo hI 6 6 rfl rfl (by decide) rfl rfl tw_683 d_mo_begin_9 (fun v6 e6 a6 b6 => ?_)
    refine bg_if_eq (tgt := 19) C d_mo_begin_12 (by decide) ⟨by omega, by omega⟩ (fun h7 => ?_) (fun h7 => ?_)
    · refine bg_iconst C d_mo_begin_19 ?_
      refine bm_puti C cf_mo hI 0 0 rfl rfl (by decide) rfl rfl rfl (by omega) (by omega) rfl (Or.inl rfl) tw_677 d_mo_begin_20 (fun w8 hI8 e8 => ?_)
      have A8_28 : ∀ i, w8 28 i = w0 28 i := fun i => by rw [e8]; exact bgU_ne i (by decide)
      have A8_29 : ∀ i, w8 29 i = w0 29 i := fun i => by rw [e8]; exact bgU_ne i (by decide)
      have A8_30 : ∀ i, w8 30 i = w0 30 i := fun i => by rw [e8]; exact bgU_ne i (by decide)
      have A8_34 : ∀ i, w8 34 i = w0 34 i := fun i => by rw [e8]; exact bgU_ne i (by decide)
      have g8_0 : w8 27 0 = 0 := by rw [e8]; exact bgU_eq
      have g8_1 : w8 27 4 = w0 27 4 := by rw [e8]; exact bgU_nei (by decide)
      have g8_2 : w8 27 5 = w0 27 5 := by rw [e8]; exact bgU_nei (by decide)
      have g8_3 : w8 27 6 = w0 27 6 := by rw [e8]; exact bgU_nei (by decide)
      have g8_4 : w8 27 7 = w0 27 7 := by rw [e8]; exact bgU_nei (by decide)
      have g8_5 : w8 27 17 = w0 27 17 := by rw [e8]; exact bgU_nei (by decide)
      have g8_6 : w8 27 19 = w0 27 19 := by rw [e8]; exact bgU_nei (by decide)
      have g8_7 : w8 27 20 = w0 27 20 := by rw [e8]; exact bgU_nei (by decide)
      refine bg_aload_n C d_mo_begin_23 rfl rfl ?_
      refine bm_geti C cf_mo hI8 0 0 rfl rfl (by decide) rfl rfl tw_677 d_mo_begin_24 (fun v9 e9 a9 b9 => ?_)
      refine bg_if_ne (tgt := 39) C d_mo_begin_27 (by decide) ⟨by omega, by omega⟩ (fun h10 => by exfalso; omega) (fun h10 => ?_)
      refine bg_aload_n C d_mo_begin_30 rfl rfl ?_
      refine bg_iconst C d_mo_begin_31 ?_
      refine bm_puti C cf_mo hI8 6 6 rfl rfl (by decide) rfl rfl rfl (by omega) (by omega) rfl (Or.inr ⟨rfl, by omega⟩) tw_683 d_mo_begin_32 (fun w11 hI11 e11 => ?_)
      have A11_28 : ∀ i, w11 28 i = w0 28 i := fun i => by rw [e11]; exact (bgU_ne i (by decide)).trans (A8_28 i)
      have A11_29 : ∀ i, w11 29 i = w0 29 i := fun i => by rw [e11]; exact (bgU_ne i (by decide)).trans (A8_29 i)
      have A11_30 : ∀ i, w11 30 i = w0 30 i := fun i => by rw [e11]; exact (bgU_ne i (by decide)).trans (A8_30 i)
      have A11_34 : ∀ i, w11 34 i = w0 34 i := fun i => by rw [e11]; exact (bgU_ne i (by decide)).trans (A8_34 i)
      have g11_0 : w11 27 0 = w8 27 0 := by rw [e11]; exact bgU_nei (by decide)
      have g11_1 : w11 27 4 = w8 27 4 := by rw [e11]; exact bgU_nei (by decide)
      have g11_2 : w11 27 5 = w8 27 5 := by rw [e11]; exact bgU_nei (by decide)
      have g11_3 : w11 27 6 = 1 := by rw [e11]; exact bgU_eq
      have g11_4 : w11 27 7 = w8 27 7 := by rw [e11]; exact bgU_nei (by decide)
      have g11_5 : w11 27 17 = w8 27 17 := by rw [e11]; exact bgU_nei (by decide)
      have g11_6 : w11 27 19 = w8 27 19 := by rw [e11]; exact bgU_nei (by decide)
      have g11_7 : w11 27 20 = w8 27 20 := by rw [e11]; exact bgU_nei (by decide)
      refine bg_aload_n C d_mo_begin_35 rfl rfl ?_
      refine bg_cv C (m_mo_untouch hG hI11.1) (bg_invV C cf_mo rfl tw_756 ti_mo_untouch ts_mo_untouch tc_mo_untouch tw_42 ⟨by decide, by decide⟩ (nA := 0) (by decide +kernel) rfl d_mo_begin_36 rfl) rfl (by rw [hR]; exact ⟨by decide, by decide⟩) (by rw [hR]; exact ⟨by decide, by decide⟩) (Nat.le_of_ble_eq_true rfl) rfl (fun w12 p12 => ?_)
      obtain ⟨j12, r12_0⟩ := p12
      have hI12 := hI11.trans j12 (by decide)
      have g12_0 : w12 27 0 = w11 27 0 := j12.2 27 0 rfl
      have g12_1 : w12 27 4 = w11 27 4 := j12.2 27 4 rfl
      have g12_2 : w12 27 5 = w11 27 5 := j12.2 27 5 rfl
      have g12_3 : w12 27 6 = w11 27 6 := j12.2 27 6 rfl
      have g12_5 : w12 27 17 = w11 27 17 := j12.2 27 17 rfl
      have g12_6 : w12 27 19 = w11 27 19 := j12.2 27 19 rfl
      have g12_7 : w12 27 20 = w11 27 20 := j12.2 27 20 rfl
      have A12_28 : ∀ i, w12 28 i = w0 28 i := fun i => (j12.2 28 i rfl).trans (A11_28 i)
      have A12_29 : ∀ i, w12 29 i = w0 29 i := fun i => (j12.2 29 i rfl).trans (A11_29 i)
      have A12_30 : ∀ i, w12 30 i = w0 30 i := fun i => (j12.2 30 i rfl).trans (A11_30 i)
      have A12_34 : ∀ i, w12 34 i = w0 34 i := fun i => (j12.2 34 i rfl).trans (A11_34 i)
      exact bg_ret C d_mo_begin_39 (fun h => by cases h) rfl (Nat.zero_le _) (Nat.zero_le _) ⟨rfl, hI12, by first | exact bmB_of A12_28 A12_29 A12_30 A12_34 (by omega) (by omega) (by omega) (by omega) (by omega) (by omega) (by omega) hB | exact bmB_J A12_28 A12_29 A12_30 A12_34 (by omega) (by omega) (by omega) (hB.2.2.1 (by omega) (by omega) (Or.inl (by omega))) hB⟩
    · refine bg_iconst C d_mo_begin_15 ?_
      refine bg_goto (l := 20) C d_mo_begin_16 (by decide) ?_
      refine bm_puti C cf_mo hI 0 0 rfl rfl (by decide) rfl rfl rfl (by omega) (by omega) rfl (Or.inl rfl) tw_677 d_mo_begin_20 (fun w13 hI13 e13 => ?_)
      have A13_28 : ∀ i, w13 28 i = w0 28 i := fun i => by rw [e13]; exact bgU_ne i (by decide)
      have A13_29 : ∀ i, w13 29 i = w0 29 i := fun i => by rw [e13]; exact bgU_ne i (by decide)
      have A13_30 : ∀ i, w13 30 i = w0 30 i := fun i => by rw [e13]; exact bgU_ne i (by decide)
      have A13_34 : ∀ i, w13 34 i = w0 34 i := fun i => by rw [e13]; exact bgU_ne i (by decide)
      have g13_0 : w13 27 0 = 1 := by rw [e13]; exact bgU_eq
      have g13_1 : w13 27 4 = w0 27 4 := by rw [e13]; exact bgU_nei (by decide)
      have g13_2 : w13 27 5 = w0 27 5 := by rw [e13]; exact bgU_nei (by decide)
      have g13_3 : w13 27 6 = w0 27 6 := by rw [e13]; exact bgU_nei (by decide)
      have g13_4 : w13 27 7 = w0 27 7 := by rw [e13]; exact bgU_nei (by decide)
      have g13_5 : w13 27 17 = w0 27 17 := by rw [e13]; exact bgU_nei (by decide)
      have g13_6 : w13 27 19 = w0 27 19 := by rw [e13]; exact bgU_nei (by decide)
      have g13_7 : w13 27 20 = w0 27 20 := by rw [e13]; exact bgU_nei (by decide)
      refine bg_aload_n C d_mo_begin_23 rfl rfl ?_
      refine bm_geti C cf_mo hI13 0 0 rfl rfl (by decide) rfl rfl tw_677 d_mo_begin_24 (fun v14 e14 a14 b14 => ?_)
      refine bg_if_ne (tgt := 39) C d_mo_begin_27 (by decide) ⟨by omega, by omega⟩ (fun h15 => ?_) (fun h15 => by exfalso; omega)
      exact bg_ret C d_mo_begin_39 (fun h => by cases h) rfl (Nat.zero_le _) (Nat.zero_le _) ⟨rfl, hI13, by first | exact bmB_of A13_28 A13_29 A13_30 A13_34 (by omega) (by omega) (by omega) (by omega) (by omega) (by omega) (by omega) hB | exact bmB_J A13_28 A13_29 A13_30 A13_34 (by omega) (by omega) (by omega) (hB.2.2.1 (by omega) (by omega) (Or.inl (by omega))) hB⟩
def S_mo_add : List (Nat × Option Int) := [(27, some 0), (27, some 7), (27, some 19), (28, none), (29, none), (30, none), (31, none)]
def rm_mo_add : Room := { frames := 1, cells := 0, slots := 0, locals := 22 }
set_option maxRecDepth 20000 in
set_option maxHeartbeats 4000000 in
theorem m_mo_add {G : bgGl} (hG : bgOk G) {w0 : bgW} (hw : moN w0) {f t x : Int} (z0 : -2147483648 ≤ f) (z1 : f ≤ 2147483647) (z2 : -2147483648 ≤ t) (z3 : t ≤ 2147483647) (z4 : -2147483648 ≤ x) (z5 : x ≤ 2147483647) (z6 : bmB w0) : bgM G false 0 0 y_mo_add (.code y_mo_add co_mo_add 5 (some .int)) rm_mo_add [br 27, bi f, bi t, bi x] w0 (bgPi (fun v w' => moRel S_mo_add w0 w' ∧ bmB w')) := by
  refine bg_met hG (by decide +kernel) (bg_cat rfl) (Nat.le_of_ble_eq_true rfl) ?_
  intro K hK hR hex C
  subst hK
  have hI := moRel.rfl (S := S_mo_add) hw
  show bgX K true 0 0 _ w0 0 [some (br 27), some (bi f), some (bi t), some (bi x), none] []
  have hB := z6
  have hB1 := hB.1
  have hs17 := hw 27 17 0 51 rfl
  have hs7 := hw 27 7 0 20 rfl
  have hs19 := hw 27 19 0 1 rfl
  have hs6 := hw 27 6 0 1 rfl
  have hs5 := hw 27 5 0 1 rfl
  refine bg_aload_n C d_mo_add_0 rfl rfl ?_
  refine bg_aload_n C d_mo_add_1 rfl rfl ?_
  refine bg_ci C (m_mo_isDown hG hI.1) (bg_invV C cf_mo rfl tw_776 ti_mo_isDown ts_mo_isDown tc_mo_isDown tw_42 ⟨by decide, by decide⟩ (nA := 0) (by decide +kernel) rfl d_mo_add_2 rfl) rfl (by rw [hR]; exact ⟨by decide, by decide⟩) (by rw [hR]; exact ⟨by decide, by decide⟩) (Nat.le_of_ble_eq_true rfl) rfl (fun v1 w1 p1 => ?_)
  obtain ⟨rfl, r1_0, r1_1, r1_2, r1_3⟩ := p1
  refine bg_if_ne (tgt := 15) C d_mo_add_5 (by decide) ⟨by omega, by omega⟩ (fun h2 => ?_) (fun h2 => ?_)
  · refine bg_iconst C d_mo_add_15 ?_
    refine bg_goto (l := 73) C d_mo_add_16 (by decide) ?_
    refine bm_puti C cf_mo hI 0 0 rfl rfl (by decide) rfl rfl rfl (by omega) (by omega) rfl (Or.inl rfl) tw_677 d_mo_add_73 (fun w3 hI3 e3 => ?_)
    have A3_28 : ∀ i, w3 28 i = w0 28 i := fun i => by rw [e3]; exact bgU_ne i (by decide)
    have A3_29 : ∀ i, w3 29 i = w0 29 i := fun i => by rw [e3]; exact bgU_ne i (by decide)
    have A3_30 : ∀ i, w3 30 i = w0 30 i := fun i => by rw [e3]; exact bgU_ne i (by decide)
    have A3_34 : ∀ i, w3 34 i = w0 34 i := fun i => by rw [e3]; exact bgU_ne i (by decide)
    have g3_0 : w3 27 0 = 1 := by rw [e3]; exact bgU_eq
    have g3_1 : w3 27 4 = w0 27 4 := by rw [e3]; exact bgU_nei (by decide)
    have g3_2 : w3 27 5 = w0 27 5 := by rw [e3]; exact bgU_nei (by decide)
    have g3_3 : w3 27 6 = w0 27 6 := by rw [e3]; exact bgU_nei (by decide)
    have g3_4 : w3 27 7 = w0 27 7 := by rw [e3]; exact bgU_nei (by decide)
    have g3_5 : w3 27 17 = w0 27 17 := by rw [e3]; exact bgU_nei (by decide)
    have g3_6 : w3 27 19 = w0 27 19 := by rw [e3]; exact bgU_nei (by decide)
    have g3_7 : w3 27 20 = w0 27 20 := by rw [e3]; exact bgU_nei (by decide)
    refine bg_aload_n C d_mo_add_76 rfl rfl ?_
    refine bm_geti C cf_mo hI3 0 0 rfl rfl (by decide) rfl rfl tw_677 d_mo_add_77 (fun v4 e4 a4 b4 => ?_)
    refine bg_if_le (tgt := 85) C d_mo_add_80 (by decide) ⟨by omega, by omega⟩ (fun h5 => by exfalso; omega) (fun h5 => ?_)
    refine bg_iconst C d_mo_add_83 ?_
    exact bg_iret C d_mo_add_84 (fun h => by cases h) (Or.inl rfl) (Nat.zero_le _) (Nat.zero_le _) ⟨_, rfl, hI3, bmB_of A3_28 A3_29 A3_30 A3_34 (by omega) (by omega) (by omega) (by omega) (by omega) (by omega) (by omega) hB⟩
  · refine bg_aload_n C d_mo_add_8 rfl rfl ?_
    refine bm_geti C cf_mo hI 6 6 rfl rfl (by decide) rfl rfl tw_683 d_mo_add_9 (fun v6 e6 a6 b6 => ?_)
    refine bg_if_ne (tgt := 19) C d_mo_add_12 (by decide) ⟨by omega, by omega⟩ (fun h7 => ?_) (fun h7 => ?_)
    · refine bg_iload_n C d_mo_add_19 rfl rfl ?_
      refine bg_ci C (m_mo_isVertex hG hI.1 (by omega) (by omega)) (bg_invS C tw_784 tt_mo_isVertex tc_mo_isVertex tw_42 ⟨by decide, by decide⟩ (nA := 1) (by decide +kernel) rfl d_mo_add_20 rfl) rfl (by rw [hR]; exact ⟨by decide, by decide⟩) (by rw [hR]; exact ⟨by decide, by decide⟩) (Nat.le_of_ble_eq_true rfl) rfl (fun v8 w8 p8 => ?_)
      obtain ⟨rfl, r8_0, r8_1, r8_2⟩ := p8
      refine bg_if_eq (tgt := 45) C d_mo_add_23 (by decide) ⟨by omega, by omega⟩ (fun h9 => ?_) (fun h9 => ?_)
      · refine bg_iconst C d_mo_add_45 ?_
        refine bg_goto (l := 73) C d_mo_add_46 (by decide) ?_
        refine bm_puti C cf_mo hI 0 0 rfl rfl (by decide) rfl rfl rfl (by omega) (by omega) rfl (Or.inl rfl) tw_677 d_mo_add_73 (fun w10 hI10 e10 => ?_)
        have A10_28 : ∀ i, w10 28 i = w0 28 i := fun i => by rw [e10]; exact bgU_ne i (by decide)
        have A10_29 : ∀ i, w10 29 i = w0 29 i := fun i => by rw [e10]; exact bgU_ne i (by decide)
        have A10_30 : ∀ i, w10 30 i = w0 30 i := fun i => by rw [e10]; exact bgU_ne i (by decide)
        have A10_34 : ∀ i, w10 34 i = w0 34 i := fun i => by rw [e10]; exact bgU_ne i (by decide)
        have g10_0 : w10 27 0 = 2 := by rw [e10]; exact bgU_eq
        have g10_1 : w10 27 4 = w0 27 4 := by rw [e10]; exact bgU_nei (by decide)
        have g10_2 : w10 27 5 = w0 27 5 := by rw [e10]; exact bgU_nei (by decide)
        have g10_3 : w10 27 6 = w0 27 6 := by rw [e10]; exact bgU_nei (by decide)
        have g10_4 : w10 27 7 = w0 27 7 := by rw [e10]; exact bgU_nei (by decide)
        have g10_5 : w10 27 17 = w0 27 17 := by rw [e10]; exact bgU_nei (by decide)
        have g10_6 : w10 27 19 = w0 27 19 := by rw [e10]; exact bgU_nei (by decide)
        have g10_7 : w10 27 20 = w0 27 20 := by rw [e10]; exact bgU_nei (by decide)
        refine bg_aload_n C d_mo_add_76 rfl rfl ?_
        refine bm_geti C cf_mo hI10 0 0 rfl rfl (by decide) rfl rfl tw_677 d_mo_add_77 (fun v11 e11 a11 b11 => ?_)
        refine bg_if_le (tgt := 85) C d_mo_add_80 (by decide) ⟨by omega, by omega⟩ (fun h12 => by exfalso; omega) (fun h12 => ?_)
        refine bg_iconst C d_mo_add_83 ?_
        exact bg_iret C d_mo_add_84 (fun h => by cases h) (Or.inl rfl) (Nat.zero_le _) (Nat.zero_le _) ⟨_, rfl, hI10, bmB_of A10_28 A10_29 A10_30 A10_34 (by omega) (by omega) (by omega) (by omega) (by omega) (by omega) (by omega) hB⟩
      · refine bg_iload_n C d_mo_add_26 rfl rfl ?_
        refine bg_ci C (m_mo_isVertex hG hI.1 (by omega) (by omega)) (bg_invS C tw_784 tt_mo_isVertex tc_mo_isVertex tw_42 ⟨by decide, by decide⟩ (nA := 1) (by decide +kernel) rfl d_mo_add_27 rfl) rfl (by rw [hR]; exact ⟨by decide, by decide⟩) (by rw [hR]; exact ⟨by decide, by decide⟩) (Nat.le_of_ble_eq_true rfl) rfl (fun v13 w13 p13 => ?_)
        obtain ⟨rfl, r13_0, r13_1, r13_2⟩ := p13
        refine bg_if_eq (tgt := 45) C d_mo_add_30 (by decide) ⟨by omega, by omega⟩ (fun h14 => ?_) (fun h14 => ?_)
        · refine bg_iconst C d_mo_add_45 ?_
          refine bg_goto (l := 73) C d_mo_add_46 (by decide) ?_
          refine bm_puti C cf_mo hI 0 0 rfl rfl (by decide) rfl rfl rfl (by omega) (by omega) rfl (Or.inl rfl) tw_677 d_mo_add_73 (fun w15 hI15 e15 => ?_)
          have A15_28 : ∀ i, w15 28 i = w0 28 i := fun i => by rw [e15]; exact bgU_ne i (by decide)
          have A15_29 : ∀ i, w15 29 i = w0 29 i := fun i => by rw [e15]; exact bgU_ne i (by decide)
          have A15_30 : ∀ i, w15 30 i = w0 30 i := fun i => by rw [e15]; exact bgU_ne i (by decide)
          have A15_34 : ∀ i, w15 34 i = w0 34 i := fun i => by rw [e15]; exact bgU_ne i (by decide)
          have g15_0 : w15 27 0 = 2 := by rw [e15]; exact bgU_eq
          have g15_1 : w15 27 4 = w0 27 4 := by rw [e15]; exact bgU_nei (by decide)
          have g15_2 : w15 27 5 = w0 27 5 := by rw [e15]; exact bgU_nei (by decide)
          have g15_3 : w15 27 6 = w0 27 6 := by rw [e15]; exact bgU_nei (by decide)
          have g15_4 : w15 27 7 = w0 27 7 := by rw [e15]; exact bgU_nei (by decide)
          have g15_5 : w15 27 17 = w0 27 17 := by rw [e15]; exact bgU_nei (by decide)
          have g15_6 : w15 27 19 = w0 27 19 := by rw [e15]; exact bgU_nei (by decide)
          have g15_7 : w15 27 20 = w0 27 20 := by rw [e15]; exact bgU_nei (by decide)
          refine bg_aload_n C d_mo_add_76 rfl rfl ?_
          refine bm_geti C cf_mo hI15 0 0 rfl rfl (by decide) rfl rfl tw_677 d_mo_add_77 (fun v16 e16 a16 b16 => ?_)
          refine bg_if_le (tgt := 85) C d_mo_add_80 (by decide) ⟨by omega, by omega⟩ (fun h17 => by exfalso; omega) (fun h17 => ?_)
          refine bg_iconst C d_mo_add_83 ?_
          exact bg_iret C d_mo_add_84 (fun h => by cases h) (Or.inl rfl) (Nat.zero_le _) (Nat.zero_le _) ⟨_, rfl, hI15, bmB_of A15_28 A15_29 A15_30 A15_34 (by omega) (by omega) (by omega) (by omega) (by omega) (by omega) (by omega) hB⟩
        · refine bg_iload_n C d_mo_add_33 rfl rfl ?_
          refine bg_iconst C d_mo_add_34 ?_
          refine bg_icmp_lt (tgt := 45) C d_mo_add_35 (by decide) ⟨by omega, by omega⟩ ⟨by omega, by omega⟩ (fun h18 => ?_) (fun h18 => ?_)
          · refine bg_iconst C d_mo_add_45 ?_
            refine bg_goto (l := 73) C d_mo_add_46 (by decide) ?_
            refine bm_puti C cf_mo hI 0 0 rfl rfl (by decide) rfl rfl rfl (by omega) (by omega) rfl (Or.inl rfl) tw_677 d_mo_add_73 (fun w19 hI19 e19 => ?_)
            have A19_28 : ∀ i, w19 28 i = w0 28 i := fun i => by rw [e19]; exact bgU_ne i (by decide)
            have A19_29 : ∀ i, w19 29 i = w0 29 i := fun i => by rw [e19]; exact bgU_ne i (by decide)
            have A19_30 : ∀ i, w19 30 i = w0 30 i := fun i => by rw [e19]; exact bgU_ne i (by decide)
            have A19_34 : ∀ i, w19 34 i = w0 34 i := fun i => by rw [e19]; exact bgU_ne i (by decide)
            have g19_0 : w19 27 0 = 2 := by rw [e19]; exact bgU_eq
            have g19_1 : w19 27 4 = w0 27 4 := by rw [e19]; exact bgU_nei (by decide)
            have g19_2 : w19 27 5 = w0 27 5 := by rw [e19]; exact bgU_nei (by decide)
            have g19_3 : w19 27 6 = w0 27 6 := by rw [e19]; exact bgU_nei (by decide)
            have g19_4 : w19 27 7 = w0 27 7 := by rw [e19]; exact bgU_nei (by decide)
            have g19_5 : w19 27 17 = w0 27 17 := by rw [e19]; exact bgU_nei (by decide)
            have g19_6 : w19 27 19 = w0 27 19 := by rw [e19]; exact bgU_nei (by decide)
            have g19_7 : w19 27 20 = w0 27 20 := by rw [e19]; exact bgU_nei (by decide)
            refine bg_aload_n C d_mo_add_76 rfl rfl ?_
            refine bm_geti C cf_mo hI19 0 0 rfl rfl (by decide) rfl rfl tw_677 d_mo_add_77 (fun v20 e20 a20 b20 => ?_)
            refine bg_if_le (tgt := 85) C d_mo_add_80 (by decide) ⟨by omega, by omega⟩ (fun h21 => by exfalso; omega) (fun h21 => ?_)
            refine bg_iconst C d_mo_add_83 ?_
            exact bg_iret C d_mo_add_84 (fun h => by cases h) (Or.inl rfl) (Nat.zero_le _) (Nat.zero_le _) ⟨_, rfl, hI19, bmB_of A19_28 A19_29 A19_30 A19_34 (by omega) (by omega) (by omega) (by omega) (by omega) (by omega) (by omega) hB⟩
          · refine bg_iload_n C d_mo_add_38 rfl rfl ?_
            refine bg_sipush C d_mo_add_39 (by decide +kernel) ?_
            refine bg_icmp_le (tgt := 49) C d_mo_add_42 (by decide) ⟨by omega, by omega⟩ ⟨by omega, by omega⟩ (fun h22 => ?_) (fun h22 => ?_)
            · refine bg_aload_n C d_mo_add_49 rfl rfl ?_
              refine bg_ci C (m_mo_visible hG hI.1) (bg_invV C cf_mo rfl tw_787 ti_mo_visible ts_mo_visible tc_mo_visible tw_42 ⟨by decide, by decide⟩ (nA := 0) (by decide +kernel) rfl d_mo_add_50 rfl) rfl (by rw [hR]; exact ⟨by decide, by decide⟩) (by rw [hR]; exact ⟨by decide, by decide⟩) (Nat.le_of_ble_eq_true rfl) rfl (fun v23 w23 p23 => ?_)
              obtain ⟨rfl, r23_0, r23_1, r23_2⟩ := p23
              refine bg_sipush C d_mo_add_53 (by decide +kernel) ?_
              refine bg_icmp_eq (tgt := 68) C d_mo_add_56 (by decide) ⟨by omega, by omega⟩ ⟨by omega, by omega⟩ (fun h24 => ?_) (fun h24 => ?_)
              · refine bg_iconst C d_mo_add_68 ?_
                refine bg_goto (l := 73) C d_mo_add_69 (by decide) ?_
                refine bm_puti C cf_mo hI 0 0 rfl rfl (by decide) rfl rfl rfl (by omega) (by omega) rfl (Or.inl rfl) tw_677 d_mo_add_73 (fun w25 hI25 e25 => ?_)
                have A25_28 : ∀ i, w25 28 i = w0 28 i := fun i => by rw [e25]; exact bgU_ne i (by decide)
                have A25_29 : ∀ i, w25 29 i = w0 29 i := fun i => by rw [e25]; exact bgU_ne i (by decide)
                have A25_30 : ∀ i, w25 30 i = w0 30 i := fun i => by rw [e25]; exact bgU_ne i (by decide)
                have A25_34 : ∀ i, w25 34 i = w0 34 i := fun i => by rw [e25]; exact bgU_ne i (by decide)
                have g25_0 : w25 27 0 = 3 := by rw [e25]; exact bgU_eq
                have g25_1 : w25 27 4 = w0 27 4 := by rw [e25]; exact bgU_nei (by decide)
                have g25_2 : w25 27 5 = w0 27 5 := by rw [e25]; exact bgU_nei (by decide)
                have g25_3 : w25 27 6 = w0 27 6 := by rw [e25]; exact bgU_nei (by decide)
                have g25_4 : w25 27 7 = w0 27 7 := by rw [e25]; exact bgU_nei (by decide)
                have g25_5 : w25 27 17 = w0 27 17 := by rw [e25]; exact bgU_nei (by decide)
                have g25_6 : w25 27 19 = w0 27 19 := by rw [e25]; exact bgU_nei (by decide)
                have g25_7 : w25 27 20 = w0 27 20 := by rw [e25]; exact bgU_nei (by decide)
                refine bg_aload_n C d_mo_add_76 rfl rfl ?_
                refine bm_geti C cf_mo hI25 0 0 rfl rfl (by decide) rfl rfl tw_677 d_mo_add_77 (fun v26 e26 a26 b26 => ?_)
                refine bg_if_le (tgt := 85) C d_mo_add_80 (by decide) ⟨by omega, by omega⟩ (fun h27 => by exfalso; omega) (fun h27 => ?_)
                refine bg_iconst C d_mo_add_83 ?_
                exact bg_iret C d_mo_add_84 (fun h => by cases h) (Or.inl rfl) (Nat.zero_le _) (Nat.zero_le _) ⟨_, rfl, hI25, bmB_of A25_28 A25_29 A25_30 A25_34 (by omega) (by omega) (by omega) (by omega) (by omega) (by omega) (by omega) hB⟩
              · refine bg_aload_n C d_mo_add_59 rfl rfl ?_
                refine bm_geti C cf_mo hI 7 7 rfl rfl (by decide) rfl rfl tw_684 d_mo_add_60 (fun v28 e28 a28 b28 => ?_)
                refine bg_bipush C d_mo_add_63 (by decide +kernel) ?_
                refine bg_icmp_ne (tgt := 72) C d_mo_add_65 (by decide) ⟨by omega, by omega⟩ ⟨by omega, by omega⟩ (fun h29 => ?_) (fun h29 => ?_)
                · refine bg_iconst C d_mo_add_72 ?_
                  refine bm_puti C cf_mo hI 0 0 rfl rfl (by decide) rfl rfl rfl (by omega) (by omega) rfl (Or.inl rfl) tw_677 d_mo_add_73 (fun w30 hI30 e30 => ?_)
                  have A30_28 : ∀ i, w30 28 i = w0 28 i := fun i => by rw [e30]; exact bgU_ne i (by decide)
                  have A30_29 : ∀ i, w30 29 i = w0 29 i := fun i => by rw [e30]; exact bgU_ne i (by decide)
                  have A30_30 : ∀ i, w30 30 i = w0 30 i := fun i => by rw [e30]; exact bgU_ne i (by decide)
                  have A30_34 : ∀ i, w30 34 i = w0 34 i := fun i => by rw [e30]; exact bgU_ne i (by decide)
                  have g30_0 : w30 27 0 = 0 := by rw [e30]; exact bgU_eq
                  have g30_1 : w30 27 4 = w0 27 4 := by rw [e30]; exact bgU_nei (by decide)
                  have g30_2 : w30 27 5 = w0 27 5 := by rw [e30]; exact bgU_nei (by decide)
                  have g30_3 : w30 27 6 = w0 27 6 := by rw [e30]; exact bgU_nei (by decide)
                  have g30_4 : w30 27 7 = w0 27 7 := by rw [e30]; exact bgU_nei (by decide)
                  have g30_5 : w30 27 17 = w0 27 17 := by rw [e30]; exact bgU_nei (by decide)
                  have g30_6 : w30 27 19 = w0 27 19 := by rw [e30]; exact bgU_nei (by decide)
                  have g30_7 : w30 27 20 = w0 27 20 := by rw [e30]; exact bgU_nei (by decide)
                  refine bg_aload_n C d_mo_add_76 rfl rfl ?_
                  refine bm_geti C cf_mo hI30 0 0 rfl rfl (by decide) rfl rfl tw_677 d_mo_add_77 (fun v31 e31 a31 b31 => ?_)
                  refine bg_if_le (tgt := 85) C d_mo_add_80 (by decide) ⟨by omega, by omega⟩ (fun h32 => ?_) (fun h32 => by exfalso; omega)
                  obtain ⟨y0, y1, y2, y3⟩ : ∃ e, 0 ≤ e ∧ e < 200 ∧ w0 28 (200 + e) = -1 := (r23_2).resolve_left (by omega)
                  have y4 : w30 28 (200 + y0) = -1 := (A30_28 _).trans y3
                  refine bg_iconst C d_mo_add_85 ?_
                  refine bg_istore C d_mo_add_86 (Nat.le_of_ble_eq_true rfl) ?_
                  refine bg_loop (α := Int) (fun a => (200 - a).toNat) (fun a => 0 ≤ a ∧ a ≤ y0) (fun a => (w30, [some (br 27), some (bi f), some (bi t), some (bi x), some (bi a)], [])) ?_ 0 ⟨by (try dsimp only) <;> omega, by omega⟩
                  rintro i33 ⟨q33_0, q33_1⟩ ih88
                  try dsimp only at ih88
                  try dsimp only at q33_0
                  try dsimp only at q33_1
                  try dsimp only
                  refine bg_aload_n C d_mo_add_88 rfl rfl ?_
                  refine bg_getr (i := 1) C cf_mo rfl (by decide) rfl tw_678 d_mo_add_89 ?_
                  refine bg_sipush C d_mo_add_92 (by decide +kernel) ?_
                  refine bg_iload C d_mo_add_95 rfl ?_
                  refine bg_iadd C d_mo_add_97 ?_
                  refine bm_iald C hI30 rfl rfl (by omega) (by omega) d_mo_add_98 (fun v34 e34 a34 b34 => ?_)
                  refine bg_iconst C d_mo_add_99 ?_
                  refine bg_icmp_eq (tgt := 109) C d_mo_add_100 (by decide) ⟨by omega, by omega⟩ ⟨by omega, by omega⟩ (fun h35 => ?_) (fun h35 => ?_)
                  · refine bg_aload_n C d_mo_add_109 rfl rfl ?_
                    refine bg_getr (i := 1) C cf_mo rfl (by decide) rfl tw_678 d_mo_add_110 ?_
                    refine bg_sipush C d_mo_add_113 (by decide +kernel) ?_
                    refine bg_iload C d_mo_add_116 rfl ?_
                    refine bg_iadd C d_mo_add_118 ?_
                    refine bg_iload_n C d_mo_add_119 rfl rfl ?_
                    refine bm_iast C hI30 rfl rfl rfl (by omega) (by omega) (by omega) (by omega) d_mo_add_120 (fun w36 hI36 e36 => ?_)
                    have A36_29 : ∀ i, w36 29 i = w0 29 i := fun i => by rw [e36]; exact (bgU_ne i (by decide)).trans (A30_29 i)
                    have A36_30 : ∀ i, w36 30 i = w0 30 i := fun i => by rw [e36]; exact (bgU_ne i (by decide)).trans (A30_30 i)
                    have A36_34 : ∀ i, w36 34 i = w0 34 i := fun i => by rw [e36]; exact (bgU_ne i (by decide)).trans (A30_34 i)
                    have g36_0 : w36 27 0 = w30 27 0 := by rw [e36]; exact bgU_ne _ (by decide)
                    have g36_1 : w36 27 4 = w30 27 4 := by rw [e36]; exact bgU_ne _ (by decide)
                    have g36_2 : w36 27 5 = w30 27 5 := by rw [e36]; exact bgU_ne _ (by decide)
                    have g36_3 : w36 27 6 = w30 27 6 := by rw [e36]; exact bgU_ne _ (by decide)
                    have g36_4 : w36 27 7 = w30 27 7 := by rw [e36]; exact bgU_ne _ (by decide)
                    have g36_5 : w36 27 17 = w30 27 17 := by rw [e36]; exact bgU_ne _ (by decide)
                    have g36_6 : w36 27 19 = w30 27 19 := by rw [e36]; exact bgU_ne _ (by decide)
                    have g36_7 : w36 27 20 = w30 27 20 := by rw [e36]; exact bgU_ne _ (by decide)
                    have a1 : ∀ i, w30 28 i = w0 28 i := A30_28
                    have b1 := e36
                    refine bg_aload_n C d_mo_add_121 rfl rfl ?_
                    refine bg_getr (i := 2) C cf_mo rfl (by decide) rfl tw_679 d_mo_add_122 ?_
                    refine bg_sipush C d_mo_add_125 (by decide +kernel) ?_
                    refine bg_iload C d_mo_add_128 rfl ?_
                    refine bg_iadd C d_mo_add_130 ?_
                    refine bg_iload_n C d_mo_add_131 rfl rfl ?_
                    refine bm_iast C hI36 rfl rfl rfl (by omega) (by omega) (by omega) (by omega) d_mo_add_132 (fun w37 hI37 e37 => ?_)
                    have A37_28 : ∀ i, w37 28 i = w36 28 i := fun i => by rw [e37]; exact bgU_ne i (by decide)
                    have A37_30 : ∀ i, w37 30 i = w0 30 i := fun i => by rw [e37]; exact (bgU_ne i (by decide)).trans (A36_30 i)
                    have A37_34 : ∀ i, w37 34 i = w0 34 i := fun i => by rw [e37]; exact (bgU_ne i (by decide)).trans (A36_34 i)
                    have g37_0 : w37 27 0 = w36 27 0 := by rw [e37]; exact bgU_ne _ (by decide)
                    have g37_1 : w37 27 4 = w36 27 4 := by rw [e37]; exact bgU_ne _ (by decide)
                    have g37_2 : w37 27 5 = w36 27 5 := by rw [e37]; exact bgU_ne _ (by decide)
                    have g37_3 : w37 27 6 = w36 27 6 := by rw [e37]; exact bgU_ne _ (by decide)
                    have g37_4 : w37 27 7 = w36 27 7 := by rw [e37]; exact bgU_ne _ (by decide)
                    have g37_5 : w37 27 17 = w36 27 17 := by rw [e37]; exact bgU_ne _ (by decide)
                    have g37_6 : w37 27 19 = w36 27 19 := by rw [e37]; exact bgU_ne _ (by decide)
                    have g37_7 : w37 27 20 = w36 27 20 := by rw [e37]; exact bgU_ne _ (by decide)
                    refine bg_aload_n C d_mo_add_133 rfl rfl ?_
                    refine bg_getr (i := 3) C cf_mo rfl (by decide) rfl tw_680 d_mo_add_134 ?_
                    refine bg_sipush C d_mo_add_137 (by decide +kernel) ?_
                    refine bg_iload C d_mo_add_140 rfl ?_
                    refine bg_iadd C d_mo_add_142 ?_
                    refine bg_iload_n C d_mo_add_143 rfl rfl ?_
                    refine bm_iast C hI37 rfl rfl rfl (by omega) (by omega) (by omega) (by omega) d_mo_add_144 (fun w38 hI38 e38 => ?_)
                    have A38_28 : ∀ i, w38 28 i = w36 28 i := fun i => by rw [e38]; exact (bgU_ne i (by decide)).trans (A37_28 i)
                    have A38_29 : ∀ i, w38 29 i = w37 29 i := fun i => by rw [e38]; exact bgU_ne i (by decide)
                    have A38_34 : ∀ i, w38 34 i = w0 34 i := fun i => by rw [e38]; exact (bgU_ne i (by decide)).trans (A37_34 i)
                    have g38_0 : w38 27 0 = w37 27 0 := by rw [e38]; exact bgU_ne _ (by decide)
                    have g38_1 : w38 27 4 = w37 27 4 := by rw [e38]; exact bgU_ne _ (by decide)
                    have g38_2 : w38 27 5 = w37 27 5 := by rw [e38]; exact bgU_ne _ (by decide)
                    have g38_3 : w38 27 6 = w37 27 6 := by rw [e38]; exact bgU_ne _ (by decide)
                    have g38_4 : w38 27 7 = w37 27 7 := by rw [e38]; exact bgU_ne _ (by decide)
                    have g38_5 : w38 27 17 = w37 27 17 := by rw [e38]; exact bgU_ne _ (by decide)
                    have g38_6 : w38 27 19 = w37 27 19 := by rw [e38]; exact bgU_ne _ (by decide)
                    have g38_7 : w38 27 20 = w37 27 20 := by rw [e38]; exact bgU_ne _ (by decide)
                    have a2 : ∀ i, w37 30 i = w0 30 i := A37_30
                    have b2 := e38
                    refine bg_aload_n C d_mo_add_145 rfl rfl ?_
                    refine bg_getr (i := 8) C cf_mo rfl (by decide) rfl tw_685 d_mo_add_146 ?_
                    refine bg_iload C d_mo_add_149 rfl ?_
                    refine bg_iconst C d_mo_add_151 ?_
                    refine bg_idiv C d_mo_add_152 (by omega) (by omega) (by omega) (by omega) ?_
                    refine bg_iconst C d_mo_add_153 ?_
                    refine bm_zast C hI38 rfl rfl rfl (by omega) (by omega) (by omega) (by omega) (by omega) d_mo_add_154 (fun w39 hI39 e39 => ?_)
                    have A39_28 : ∀ i, w39 28 i = w36 28 i := fun i => by rw [e39]; exact (bgU_ne i (by decide)).trans (A38_28 i)
                    have A39_29 : ∀ i, w39 29 i = w37 29 i := fun i => by rw [e39]; exact (bgU_ne i (by decide)).trans (A38_29 i)
                    have A39_30 : ∀ i, w39 30 i = w38 30 i := fun i => by rw [e39]; exact bgU_ne i (by decide)
                    have A39_34 : ∀ i, w39 34 i = w0 34 i := fun i => by rw [e39]; exact (bgU_ne i (by decide)).trans (A38_34 i)
                    have g39_0 : w39 27 0 = w38 27 0 := by rw [e39]; exact bgU_ne _ (by decide)
                    have g39_1 : w39 27 4 = w38 27 4 := by rw [e39]; exact bgU_ne _ (by decide)
                    have g39_2 : w39 27 5 = w38 27 5 := by rw [e39]; exact bgU_ne _ (by decide)
                    have g39_3 : w39 27 6 = w38 27 6 := by rw [e39]; exact bgU_ne _ (by decide)
                    have g39_4 : w39 27 7 = w38 27 7 := by rw [e39]; exact bgU_ne _ (by decide)
                    have g39_5 : w39 27 17 = w38 27 17 := by rw [e39]; exact bgU_ne _ (by decide)
                    have g39_6 : w39 27 19 = w38 27 19 := by rw [e39]; exact bgU_ne _ (by decide)
                    have g39_7 : w39 27 20 = w38 27 20 := by rw [e39]; exact bgU_ne _ (by decide)
                    refine bg_aload_n C d_mo_add_155 rfl rfl ?_
                    refine bg_dup C d_mo_add_156 rfl ?_
                    refine bm_geti C cf_mo hI39 7 7 rfl rfl (by decide) rfl rfl tw_684 d_mo_add_157 (fun v40 e40 a40 b40 => ?_)
                    refine bg_iconst C d_mo_add_160 ?_
                    refine bg_iadd C d_mo_add_161 ?_
                    refine bm_puti C cf_mo hI39 7 7 rfl rfl (by decide) rfl rfl rfl (by omega) (by omega) rfl (Or.inl rfl) tw_684 d_mo_add_162 (fun w41 hI41 e41 => ?_)
                    have A41_28 : ∀ i, w41 28 i = w36 28 i := fun i => by rw [e41]; exact (bgU_ne i (by decide)).trans (A39_28 i)
                    have A41_29 : ∀ i, w41 29 i = w37 29 i := fun i => by rw [e41]; exact (bgU_ne i (by decide)).trans (A39_29 i)
                    have A41_30 : ∀ i, w41 30 i = w38 30 i := fun i => by rw [e41]; exact (bgU_ne i (by decide)).trans (A39_30 i)
                    have A41_34 : ∀ i, w41 34 i = w0 34 i := fun i => by rw [e41]; exact (bgU_ne i (by decide)).trans (A39_34 i)
                    have g41_0 : w41 27 0 = w39 27 0 := by rw [e41]; exact bgU_nei (by decide)
                    have g41_1 : w41 27 4 = w39 27 4 := by rw [e41]; exact bgU_nei (by decide)
                    have g41_2 : w41 27 5 = w39 27 5 := by rw [e41]; exact bgU_nei (by decide)
                    have g41_3 : w41 27 6 = w39 27 6 := by rw [e41]; exact bgU_nei (by decide)
                    have g41_4 : w41 27 7 = (v40 + 1) := by rw [e41]; exact bgU_eq
                    have g41_5 : w41 27 17 = w39 27 17 := by rw [e41]; exact bgU_nei (by decide)
                    have g41_6 : w41 27 19 = w39 27 19 := by rw [e41]; exact bgU_nei (by decide)
                    have g41_7 : w41 27 20 = w39 27 20 := by rw [e41]; exact bgU_nei (by decide)
                    refine bg_aload_n C d_mo_add_165 rfl rfl ?_
                    refine bg_iconst C d_mo_add_166 ?_
                    refine bm_puti C cf_mo hI41 19 19 rfl rfl (by decide) rfl rfl rfl (by omega) (by omega) rfl (Or.inr ⟨rfl, by omega⟩) tw_696 d_mo_add_167 (fun w42 hI42 e42 => ?_)
                    have A42_28 : ∀ i, w42 28 i = w36 28 i := fun i => by rw [e42]; exact (bgU_ne i (by decide)).trans (A41_28 i)
                    have A42_29 : ∀ i, w42 29 i = w37 29 i := fun i => by rw [e42]; exact (bgU_ne i (by decide)).trans (A41_29 i)
                    have A42_30 : ∀ i, w42 30 i = w38 30 i := fun i => by rw [e42]; exact (bgU_ne i (by decide)).trans (A41_30 i)
                    have A42_34 : ∀ i, w42 34 i = w0 34 i := fun i => by rw [e42]; exact (bgU_ne i (by decide)).trans (A41_34 i)
                    have g42_0 : w42 27 0 = w41 27 0 := by rw [e42]; exact bgU_nei (by decide)
                    have g42_1 : w42 27 4 = w41 27 4 := by rw [e42]; exact bgU_nei (by decide)
                    have g42_2 : w42 27 5 = w41 27 5 := by rw [e42]; exact bgU_nei (by decide)
                    have g42_3 : w42 27 6 = w41 27 6 := by rw [e42]; exact bgU_nei (by decide)
                    have g42_4 : w42 27 7 = w41 27 7 := by rw [e42]; exact bgU_nei (by decide)
                    have g42_5 : w42 27 17 = w41 27 17 := by rw [e42]; exact bgU_nei (by decide)
                    have g42_6 : w42 27 19 = 1 := by rw [e42]; exact bgU_eq
                    have g42_7 : w42 27 20 = w41 27 20 := by rw [e42]; exact bgU_nei (by decide)
                    refine bg_iload C d_mo_add_170 rfl ?_
                    exact bg_iret C d_mo_add_172 (fun h => by cases h) (Or.inl rfl) (Nat.zero_le _) (Nat.zero_le _) ⟨_, rfl, hI42, bmB_2 (bmE_add b1 a1 b2 a2 A42_28 A42_30 (by omega) hB.2.1) (by omega) (by omega) (by omega) (by omega)⟩
                  · refine bg_iinc C d_mo_add_103 rfl ?_
                    refine bg_goto (l := 88) C d_mo_add_106 (by decide) ?_
                    exact ih88 (i33 + 1) ⟨by omega, by by_cases hc : i33 = y0 <;> first | omega | (exfalso; subst hc; omega)⟩ (by omega)
                · refine bg_iconst C d_mo_add_68 ?_
                  refine bg_goto (l := 73) C d_mo_add_69 (by decide) ?_
                  refine bm_puti C cf_mo hI 0 0 rfl rfl (by decide) rfl rfl rfl (by omega) (by omega) rfl (Or.inl rfl) tw_677 d_mo_add_73 (fun w43 hI43 e43 => ?_)
                  have A43_28 : ∀ i, w43 28 i = w0 28 i := fun i => by rw [e43]; exact bgU_ne i (by decide)
                  have A43_29 : ∀ i, w43 29 i = w0 29 i := fun i => by rw [e43]; exact bgU_ne i (by decide)
                  have A43_30 : ∀ i, w43 30 i = w0 30 i := fun i => by rw [e43]; exact bgU_ne i (by decide)
                  have A43_34 : ∀ i, w43 34 i = w0 34 i := fun i => by rw [e43]; exact bgU_ne i (by decide)
                  have g43_0 : w43 27 0 = 3 := by rw [e43]; exact bgU_eq
                  have g43_1 : w43 27 4 = w0 27 4 := by rw [e43]; exact bgU_nei (by decide)
                  have g43_2 : w43 27 5 = w0 27 5 := by rw [e43]; exact bgU_nei (by decide)
                  have g43_3 : w43 27 6 = w0 27 6 := by rw [e43]; exact bgU_nei (by decide)
                  have g43_4 : w43 27 7 = w0 27 7 := by rw [e43]; exact bgU_nei (by decide)
                  have g43_5 : w43 27 17 = w0 27 17 := by rw [e43]; exact bgU_nei (by decide)
                  have g43_6 : w43 27 19 = w0 27 19 := by rw [e43]; exact bgU_nei (by decide)
                  have g43_7 : w43 27 20 = w0 27 20 := by rw [e43]; exact bgU_nei (by decide)
                  refine bg_aload_n C d_mo_add_76 rfl rfl ?_
                  refine bm_geti C cf_mo hI43 0 0 rfl rfl (by decide) rfl rfl tw_677 d_mo_add_77 (fun v44 e44 a44 b44 => ?_)
                  refine bg_if_le (tgt := 85) C d_mo_add_80 (by decide) ⟨by omega, by omega⟩ (fun h45 => by exfalso; omega) (fun h45 => ?_)
                  refine bg_iconst C d_mo_add_83 ?_
                  exact bg_iret C d_mo_add_84 (fun h => by cases h) (Or.inl rfl) (Nat.zero_le _) (Nat.zero_le _) ⟨_, rfl, hI43, bmB_of A43_28 A43_29 A43_30 A43_34 (by omega) (by omega) (by omega) (by omega) (by omega) (by omega) (by omega) hB⟩
            · refine bg_iconst C d_mo_add_45 ?_
              refine bg_goto (l := 73) C d_mo_add_46 (by decide) ?_
              refine bm_puti C cf_mo hI 0 0 rfl rfl (by decide) rfl rfl rfl (by omega) (by omega) rfl (Or.inl rfl) tw_677 d_mo_add_73 (fun w46 hI46 e46 => ?_)
              have A46_28 : ∀ i, w46 28 i = w0 28 i := fun i => by rw [e46]; exact bgU_ne i (by decide)
              have A46_29 : ∀ i, w46 29 i = w0 29 i := fun i => by rw [e46]; exact bgU_ne i (by decide)
              have A46_30 : ∀ i, w46 30 i = w0 30 i := fun i => by rw [e46]; exact bgU_ne i (by decide)
              have A46_34 : ∀ i, w46 34 i = w0 34 i := fun i => by rw [e46]; exact bgU_ne i (by decide)
              have g46_0 : w46 27 0 = 2 := by rw [e46]; exact bgU_eq
              have g46_1 : w46 27 4 = w0 27 4 := by rw [e46]; exact bgU_nei (by decide)
              have g46_2 : w46 27 5 = w0 27 5 := by rw [e46]; exact bgU_nei (by decide)
              have g46_3 : w46 27 6 = w0 27 6 := by rw [e46]; exact bgU_nei (by decide)
              have g46_4 : w46 27 7 = w0 27 7 := by rw [e46]; exact bgU_nei (by decide)
              have g46_5 : w46 27 17 = w0 27 17 := by rw [e46]; exact bgU_nei (by decide)
              have g46_6 : w46 27 19 = w0 27 19 := by rw [e46]; exact bgU_nei (by decide)
              have g46_7 : w46 27 20 = w0 27 20 := by rw [e46]; exact bgU_nei (by decide)
              refine bg_aload_n C d_mo_add_76 rfl rfl ?_
              refine bm_geti C cf_mo hI46 0 0 rfl rfl (by decide) rfl rfl tw_677 d_mo_add_77 (fun v47 e47 a47 b47 => ?_)
              refine bg_if_le (tgt := 85) C d_mo_add_80 (by decide) ⟨by omega, by omega⟩ (fun h48 => by exfalso; omega) (fun h48 => ?_)
              refine bg_iconst C d_mo_add_83 ?_
              exact bg_iret C d_mo_add_84 (fun h => by cases h) (Or.inl rfl) (Nat.zero_le _) (Nat.zero_le _) ⟨_, rfl, hI46, bmB_of A46_28 A46_29 A46_30 A46_34 (by omega) (by omega) (by omega) (by omega) (by omega) (by omega) (by omega) hB⟩
    · refine bg_iconst C d_mo_add_15 ?_
      refine bg_goto (l := 73) C d_mo_add_16 (by decide) ?_
      refine bm_puti C cf_mo hI 0 0 rfl rfl (by decide) rfl rfl rfl (by omega) (by omega) rfl (Or.inl rfl) tw_677 d_mo_add_73 (fun w49 hI49 e49 => ?_)
      have A49_28 : ∀ i, w49 28 i = w0 28 i := fun i => by rw [e49]; exact bgU_ne i (by decide)
      have A49_29 : ∀ i, w49 29 i = w0 29 i := fun i => by rw [e49]; exact bgU_ne i (by decide)
      have A49_30 : ∀ i, w49 30 i = w0 30 i := fun i => by rw [e49]; exact bgU_ne i (by decide)
      have A49_34 : ∀ i, w49 34 i = w0 34 i := fun i => by rw [e49]; exact bgU_ne i (by decide)
      have g49_0 : w49 27 0 = 1 := by rw [e49]; exact bgU_eq
      have g49_1 : w49 27 4 = w0 27 4 := by rw [e49]; exact bgU_nei (by decide)
      have g49_2 : w49 27 5 = w0 27 5 := by rw [e49]; exact bgU_nei (by decide)
      have g49_3 : w49 27 6 = w0 27 6 := by rw [e49]; exact bgU_nei (by decide)
      have g49_4 : w49 27 7 = w0 27 7 := by rw [e49]; exact bgU_nei (by decide)
      have g49_5 : w49 27 17 = w0 27 17 := by rw [e49]; exact bgU_nei (by decide)
      have g49_6 : w49 27 19 = w0 27 19 := by rw [e49]; exact bgU_nei (by decide)
      have g49_7 : w49 27 20 = w0 27 20 := by rw [e49]; exact bgU_nei (by decide)
      refine bg_aload_n C d_mo_add_76 rfl rfl ?_
      refine bm_geti C cf_mo hI49 0 0 rfl rfl (by decide) rfl rfl tw_677 d_mo_add_77 (fun v50 e50 a50 b50 => ?_)
      refine bg_if_le (tgt := 85) C d_mo_add_80 (by decide) ⟨by omega, by omega⟩ (fun h51 => by exfalso; omega) (fun h51 => ?_)
      refine bg_iconst C d_mo_add_83 ?_
      exact bg_iret C d_mo_add_84 (fun h => by cases h) (Or.inl rfl) (Nat.zero_le _) (Nat.zero_le _) ⟨_, rfl, hI49, bmB_of A49_28 A49_29 A49_30 A49_34 (by omega) (by omega) (by omega) (by omega) (by omega) (by omega) (by omega) hB⟩
def S_mo_remove : List (Nat × Option Int) := [(27, some 0), (27, some 7), (27, some 19), (28, none), (31, none)]
def rm_mo_remove : Room := { frames := 1, cells := 0, slots := 0, locals := 21 }
set_option maxRecDepth 20000 in
set_option maxHeartbeats 4000000 in
theorem m_mo_remove {G : bgGl} (hG : bgOk G) {w0 : bgW} (hw : moN w0) {e : Int} (z0 : -2147483648 ≤ e) (z1 : e ≤ 2147483647) (z2 : bmB w0) : bgM G false 0 0 y_mo_remove (.code y_mo_remove co_mo_remove 2 none) rm_mo_remove [br 27, bi e] w0 (bgPv (fun w' => moRel S_mo_remove w0 w' ∧ bmB w')) := by
  refine bg_met hG (by decide +kernel) (bg_cat rfl) (Nat.le_of_ble_eq_true rfl) ?_
  intro K hK hR hex C
  subst hK
  have hI := moRel.rfl (S := S_mo_remove) hw
  show bgX K true 0 0 _ w0 0 [some (br 27), some (bi e)] []
  have hB := z2
  have hB1 := hB.1
  have hs17 := hw 27 17 0 51 rfl
  have hs7 := hw 27 7 0 20 rfl
  have hs19 := hw 27 19 0 1 rfl
  have hs6 := hw 27 6 0 1 rfl
  have hs5 := hw 27 5 0 1 rfl
  refine bg_aload_n C d_mo_remove_0 rfl rfl ?_
  refine bg_aload_n C d_mo_remove_1 rfl rfl ?_
  refine bg_ci C (m_mo_isDown hG hI.1) (bg_invV C cf_mo rfl tw_776 ti_mo_isDown ts_mo_isDown tc_mo_isDown tw_42 ⟨by decide, by decide⟩ (nA := 0) (by decide +kernel) rfl d_mo_remove_2 rfl) rfl (by rw [hR]; exact ⟨by decide, by decide⟩) (by rw [hR]; exact ⟨by decide, by decide⟩) (Nat.le_of_ble_eq_true rfl) rfl (fun v1 w1 p1 => ?_)
  obtain ⟨rfl, r1_0, r1_1, r1_2, r1_3⟩ := p1
  refine bg_if_ne (tgt := 15) C d_mo_remove_5 (by decide) ⟨by omega, by omega⟩ (fun h2 => ?_) (fun h2 => ?_)
  · refine bg_iconst C d_mo_remove_15 ?_
    refine bg_goto (l := 45) C d_mo_remove_16 (by decide) ?_
    refine bm_puti C cf_mo hI 0 0 rfl rfl (by decide) rfl rfl rfl (by omega) (by omega) rfl (Or.inl rfl) tw_677 d_mo_remove_45 (fun w3 hI3 e3 => ?_)
    have A3_28 : ∀ i, w3 28 i = w0 28 i := fun i => by rw [e3]; exact bgU_ne i (by decide)
    have A3_29 : ∀ i, w3 29 i = w0 29 i := fun i => by rw [e3]; exact bgU_ne i (by decide)
    have A3_30 : ∀ i, w3 30 i = w0 30 i := fun i => by rw [e3]; exact bgU_ne i (by decide)
    have A3_34 : ∀ i, w3 34 i = w0 34 i := fun i => by rw [e3]; exact bgU_ne i (by decide)
    have g3_0 : w3 27 0 = 1 := by rw [e3]; exact bgU_eq
    have g3_1 : w3 27 4 = w0 27 4 := by rw [e3]; exact bgU_nei (by decide)
    have g3_2 : w3 27 5 = w0 27 5 := by rw [e3]; exact bgU_nei (by decide)
    have g3_3 : w3 27 6 = w0 27 6 := by rw [e3]; exact bgU_nei (by decide)
    have g3_4 : w3 27 7 = w0 27 7 := by rw [e3]; exact bgU_nei (by decide)
    have g3_5 : w3 27 17 = w0 27 17 := by rw [e3]; exact bgU_nei (by decide)
    have g3_6 : w3 27 19 = w0 27 19 := by rw [e3]; exact bgU_nei (by decide)
    have g3_7 : w3 27 20 = w0 27 20 := by rw [e3]; exact bgU_nei (by decide)
    refine bg_aload_n C d_mo_remove_48 rfl rfl ?_
    refine bm_geti C cf_mo hI3 0 0 rfl rfl (by decide) rfl rfl tw_677 d_mo_remove_49 (fun v4 e4 a4 b4 => ?_)
    refine bg_if_ne (tgt := 90) C d_mo_remove_52 (by decide) ⟨by omega, by omega⟩ (fun h5 => ?_) (fun h5 => by exfalso; omega)
    exact bg_ret C d_mo_remove_90 (fun h => by cases h) rfl (Nat.zero_le _) (Nat.zero_le _) ⟨rfl, hI3, by first | exact bmB_of A3_28 A3_29 A3_30 A3_34 (by omega) (by omega) (by omega) (by omega) (by omega) (by omega) (by omega) hB | exact bmB_2 (bmE_rm b1 a1 A3_28 A3_30 hB.2.1) (by omega) (by omega) (by omega) (by omega)⟩
  · refine bg_aload_n C d_mo_remove_8 rfl rfl ?_
    refine bm_geti C cf_mo hI 6 6 rfl rfl (by decide) rfl rfl tw_683 d_mo_remove_9 (fun v6 e6 a6 b6 => ?_)
    refine bg_if_ne (tgt := 19) C d_mo_remove_12 (by decide) ⟨by omega, by omega⟩ (fun h7 => ?_) (fun h7 => ?_)
    · refine bg_aload_n C d_mo_remove_19 rfl rfl ?_
      refine bg_iload_n C d_mo_remove_20 rfl rfl ?_
      refine bg_ci C (m_mo_isVisible hG hI.1 (by omega) (by omega)) (bg_invV C cf_mo rfl tw_795 ti_mo_isVisible ts_mo_isVisible tc_mo_isVisible tw_42 ⟨by decide, by decide⟩ (nA := 1) (by decide +kernel) rfl d_mo_remove_21 rfl) rfl (by rw [hR]; exact ⟨by decide, by decide⟩) (by rw [hR]; exact ⟨by decide, by decide⟩) (Nat.le_of_ble_eq_true rfl) rfl (fun v8 w8 p8 => ?_)
      obtain ⟨rfl, r8_0, r8_1, r8_2⟩ := p8
      refine bg_if_ne (tgt := 31) C d_mo_remove_24 (by decide) ⟨by omega, by omega⟩ (fun h9 => ?_) (fun h9 => ?_)
      · refine bg_aload_n C d_mo_remove_31 rfl rfl ?_
        refine bm_geti C cf_mo hI 7 7 rfl rfl (by decide) rfl rfl tw_684 d_mo_remove_32 (fun v10 e10 a10 b10 => ?_)
        refine bg_bipush C d_mo_remove_35 (by decide +kernel) ?_
        refine bg_icmp_ne (tgt := 44) C d_mo_remove_37 (by decide) ⟨by omega, by omega⟩ ⟨by omega, by omega⟩ (fun h11 => ?_) (fun h11 => ?_)
        · refine bg_iconst C d_mo_remove_44 ?_
          refine bm_puti C cf_mo hI 0 0 rfl rfl (by decide) rfl rfl rfl (by omega) (by omega) rfl (Or.inl rfl) tw_677 d_mo_remove_45 (fun w12 hI12 e12 => ?_)
          have A12_28 : ∀ i, w12 28 i = w0 28 i := fun i => by rw [e12]; exact bgU_ne i (by decide)
          have A12_29 : ∀ i, w12 29 i = w0 29 i := fun i => by rw [e12]; exact bgU_ne i (by decide)
          have A12_30 : ∀ i, w12 30 i = w0 30 i := fun i => by rw [e12]; exact bgU_ne i (by decide)
          have A12_34 : ∀ i, w12 34 i = w0 34 i := fun i => by rw [e12]; exact bgU_ne i (by decide)
          have g12_0 : w12 27 0 = 0 := by rw [e12]; exact bgU_eq
          have g12_1 : w12 27 4 = w0 27 4 := by rw [e12]; exact bgU_nei (by decide)
          have g12_2 : w12 27 5 = w0 27 5 := by rw [e12]; exact bgU_nei (by decide)
          have g12_3 : w12 27 6 = w0 27 6 := by rw [e12]; exact bgU_nei (by decide)
          have g12_4 : w12 27 7 = w0 27 7 := by rw [e12]; exact bgU_nei (by decide)
          have g12_5 : w12 27 17 = w0 27 17 := by rw [e12]; exact bgU_nei (by decide)
          have g12_6 : w12 27 19 = w0 27 19 := by rw [e12]; exact bgU_nei (by decide)
          have g12_7 : w12 27 20 = w0 27 20 := by rw [e12]; exact bgU_nei (by decide)
          refine bg_aload_n C d_mo_remove_48 rfl rfl ?_
          refine bm_geti C cf_mo hI12 0 0 rfl rfl (by decide) rfl rfl tw_677 d_mo_remove_49 (fun v13 e13 a13 b13 => ?_)
          refine bg_if_ne (tgt := 90) C d_mo_remove_52 (by decide) ⟨by omega, by omega⟩ (fun h14 => by exfalso; omega) (fun h14 => ?_)
          refine bg_aload_n C d_mo_remove_55 rfl rfl ?_
          refine bg_getr (i := 1) C cf_mo rfl (by decide) rfl tw_678 d_mo_remove_56 ?_
          refine bg_sipush C d_mo_remove_59 (by decide +kernel) ?_
          refine bg_iload_n C d_mo_remove_62 rfl rfl ?_
          refine bg_iadd C d_mo_remove_63 ?_
          refine bg_iconst C d_mo_remove_64 ?_
          refine bm_iast C hI12 rfl rfl rfl (by omega) (by omega) (by omega) (by omega) d_mo_remove_65 (fun w15 hI15 e15 => ?_)
          have A15_29 : ∀ i, w15 29 i = w0 29 i := fun i => by rw [e15]; exact (bgU_ne i (by decide)).trans (A12_29 i)
          have A15_30 : ∀ i, w15 30 i = w0 30 i := fun i => by rw [e15]; exact (bgU_ne i (by decide)).trans (A12_30 i)
          have A15_34 : ∀ i, w15 34 i = w0 34 i := fun i => by rw [e15]; exact (bgU_ne i (by decide)).trans (A12_34 i)
          have g15_0 : w15 27 0 = w12 27 0 := by rw [e15]; exact bgU_ne _ (by decide)
          have g15_1 : w15 27 4 = w12 27 4 := by rw [e15]; exact bgU_ne _ (by decide)
          have g15_2 : w15 27 5 = w12 27 5 := by rw [e15]; exact bgU_ne _ (by decide)
          have g15_3 : w15 27 6 = w12 27 6 := by rw [e15]; exact bgU_ne _ (by decide)
          have g15_4 : w15 27 7 = w12 27 7 := by rw [e15]; exact bgU_ne _ (by decide)
          have g15_5 : w15 27 17 = w12 27 17 := by rw [e15]; exact bgU_ne _ (by decide)
          have g15_6 : w15 27 19 = w12 27 19 := by rw [e15]; exact bgU_ne _ (by decide)
          have g15_7 : w15 27 20 = w12 27 20 := by rw [e15]; exact bgU_ne _ (by decide)
          have a1 : ∀ i, w12 28 i = w0 28 i := A12_28
          have b1 := e15
          refine bg_aload_n C d_mo_remove_66 rfl rfl ?_
          refine bg_getr (i := 8) C cf_mo rfl (by decide) rfl tw_685 d_mo_remove_67 ?_
          refine bg_iload_n C d_mo_remove_70 rfl rfl ?_
          refine bg_iconst C d_mo_remove_71 ?_
          refine bg_idiv C d_mo_remove_72 (by omega) (by omega) (by omega) (by omega) ?_
          refine bg_iconst C d_mo_remove_73 ?_
          refine bm_zast C hI15 rfl rfl rfl (by omega) (by omega) (by omega) (by omega) (by omega) d_mo_remove_74 (fun w16 hI16 e16 => ?_)
          have A16_28 : ∀ i, w16 28 i = w15 28 i := fun i => by rw [e16]; exact bgU_ne i (by decide)
          have A16_29 : ∀ i, w16 29 i = w0 29 i := fun i => by rw [e16]; exact (bgU_ne i (by decide)).trans (A15_29 i)
          have A16_30 : ∀ i, w16 30 i = w0 30 i := fun i => by rw [e16]; exact (bgU_ne i (by decide)).trans (A15_30 i)
          have A16_34 : ∀ i, w16 34 i = w0 34 i := fun i => by rw [e16]; exact (bgU_ne i (by decide)).trans (A15_34 i)
          have g16_0 : w16 27 0 = w15 27 0 := by rw [e16]; exact bgU_ne _ (by decide)
          have g16_1 : w16 27 4 = w15 27 4 := by rw [e16]; exact bgU_ne _ (by decide)
          have g16_2 : w16 27 5 = w15 27 5 := by rw [e16]; exact bgU_ne _ (by decide)
          have g16_3 : w16 27 6 = w15 27 6 := by rw [e16]; exact bgU_ne _ (by decide)
          have g16_4 : w16 27 7 = w15 27 7 := by rw [e16]; exact bgU_ne _ (by decide)
          have g16_5 : w16 27 17 = w15 27 17 := by rw [e16]; exact bgU_ne _ (by decide)
          have g16_6 : w16 27 19 = w15 27 19 := by rw [e16]; exact bgU_ne _ (by decide)
          have g16_7 : w16 27 20 = w15 27 20 := by rw [e16]; exact bgU_ne _ (by decide)
          refine bg_aload_n C d_mo_remove_75 rfl rfl ?_
          refine bg_dup C d_mo_remove_76 rfl ?_
          refine bm_geti C cf_mo hI16 7 7 rfl rfl (by decide) rfl rfl tw_684 d_mo_remove_77 (fun v17 e17 a17 b17 => ?_)
          refine bg_iconst C d_mo_remove_80 ?_
          refine bg_iadd C d_mo_remove_81 ?_
          refine bm_puti C cf_mo hI16 7 7 rfl rfl (by decide) rfl rfl rfl (by omega) (by omega) rfl (Or.inl rfl) tw_684 d_mo_remove_82 (fun w18 hI18 e18 => ?_)
          have A18_28 : ∀ i, w18 28 i = w15 28 i := fun i => by rw [e18]; exact (bgU_ne i (by decide)).trans (A16_28 i)
          have A18_29 : ∀ i, w18 29 i = w0 29 i := fun i => by rw [e18]; exact (bgU_ne i (by decide)).trans (A16_29 i)
          have A18_30 : ∀ i, w18 30 i = w0 30 i := fun i => by rw [e18]; exact (bgU_ne i (by decide)).trans (A16_30 i)
          have A18_34 : ∀ i, w18 34 i = w0 34 i := fun i => by rw [e18]; exact (bgU_ne i (by decide)).trans (A16_34 i)
          have g18_0 : w18 27 0 = w16 27 0 := by rw [e18]; exact bgU_nei (by decide)
          have g18_1 : w18 27 4 = w16 27 4 := by rw [e18]; exact bgU_nei (by decide)
          have g18_2 : w18 27 5 = w16 27 5 := by rw [e18]; exact bgU_nei (by decide)
          have g18_3 : w18 27 6 = w16 27 6 := by rw [e18]; exact bgU_nei (by decide)
          have g18_4 : w18 27 7 = (v17 + 1) := by rw [e18]; exact bgU_eq
          have g18_5 : w18 27 17 = w16 27 17 := by rw [e18]; exact bgU_nei (by decide)
          have g18_6 : w18 27 19 = w16 27 19 := by rw [e18]; exact bgU_nei (by decide)
          have g18_7 : w18 27 20 = w16 27 20 := by rw [e18]; exact bgU_nei (by decide)
          refine bg_aload_n C d_mo_remove_85 rfl rfl ?_
          refine bg_iconst C d_mo_remove_86 ?_
          refine bm_puti C cf_mo hI18 19 19 rfl rfl (by decide) rfl rfl rfl (by omega) (by omega) rfl (Or.inr ⟨rfl, by omega⟩) tw_696 d_mo_remove_87 (fun w19 hI19 e19 => ?_)
          have A19_28 : ∀ i, w19 28 i = w15 28 i := fun i => by rw [e19]; exact (bgU_ne i (by decide)).trans (A18_28 i)
          have A19_29 : ∀ i, w19 29 i = w0 29 i := fun i => by rw [e19]; exact (bgU_ne i (by decide)).trans (A18_29 i)
          have A19_30 : ∀ i, w19 30 i = w0 30 i := fun i => by rw [e19]; exact (bgU_ne i (by decide)).trans (A18_30 i)
          have A19_34 : ∀ i, w19 34 i = w0 34 i := fun i => by rw [e19]; exact (bgU_ne i (by decide)).trans (A18_34 i)
          have g19_0 : w19 27 0 = w18 27 0 := by rw [e19]; exact bgU_nei (by decide)
          have g19_1 : w19 27 4 = w18 27 4 := by rw [e19]; exact bgU_nei (by decide)
          have g19_2 : w19 27 5 = w18 27 5 := by rw [e19]; exact bgU_nei (by decide)
          have g19_3 : w19 27 6 = w18 27 6 := by rw [e19]; exact bgU_nei (by decide)
          have g19_4 : w19 27 7 = w18 27 7 := by rw [e19]; exact bgU_nei (by decide)
          have g19_5 : w19 27 17 = w18 27 17 := by rw [e19]; exact bgU_nei (by decide)
          have g19_6 : w19 27 19 = 1 := by rw [e19]; exact bgU_eq
          have g19_7 : w19 27 20 = w18 27 20 := by rw [e19]; exact bgU_nei (by decide)
          exact bg_ret C d_mo_remove_90 (fun h => by cases h) rfl (Nat.zero_le _) (Nat.zero_le _) ⟨rfl, hI19, by first | exact bmB_of A19_28 A19_29 A19_30 A19_34 (by omega) (by omega) (by omega) (by omega) (by omega) (by omega) (by omega) hB | exact bmB_2 (bmE_rm b1 a1 A19_28 A19_30 hB.2.1) (by omega) (by omega) (by omega) (by omega)⟩
        · refine bg_iconst C d_mo_remove_40 ?_
          refine bg_goto (l := 45) C d_mo_remove_41 (by decide) ?_
          refine bm_puti C cf_mo hI 0 0 rfl rfl (by decide) rfl rfl rfl (by omega) (by omega) rfl (Or.inl rfl) tw_677 d_mo_remove_45 (fun w20 hI20 e20 => ?_)
          have A20_28 : ∀ i, w20 28 i = w0 28 i := fun i => by rw [e20]; exact bgU_ne i (by decide)
          have A20_29 : ∀ i, w20 29 i = w0 29 i := fun i => by rw [e20]; exact bgU_ne i (by decide)
          have A20_30 : ∀ i, w20 30 i = w0 30 i := fun i => by rw [e20]; exact bgU_ne i (by decide)
          have A20_34 : ∀ i, w20 34 i = w0 34 i := fun i => by rw [e20]; exact bgU_ne i (by decide)
          have g20_0 : w20 27 0 = 3 := by rw [e20]; exact bgU_eq
          have g20_1 : w20 27 4 = w0 27 4 := by rw [e20]; exact bgU_nei (by decide)
          have g20_2 : w20 27 5 = w0 27 5 := by rw [e20]; exact bgU_nei (by decide)
          have g20_3 : w20 27 6 = w0 27 6 := by rw [e20]; exact bgU_nei (by decide)
          have g20_4 : w20 27 7 = w0 27 7 := by rw [e20]; exact bgU_nei (by decide)
          have g20_5 : w20 27 17 = w0 27 17 := by rw [e20]; exact bgU_nei (by decide)
          have g20_6 : w20 27 19 = w0 27 19 := by rw [e20]; exact bgU_nei (by decide)
          have g20_7 : w20 27 20 = w0 27 20 := by rw [e20]; exact bgU_nei (by decide)
          refine bg_aload_n C d_mo_remove_48 rfl rfl ?_
          refine bm_geti C cf_mo hI20 0 0 rfl rfl (by decide) rfl rfl tw_677 d_mo_remove_49 (fun v21 e21 a21 b21 => ?_)
          refine bg_if_ne (tgt := 90) C d_mo_remove_52 (by decide) ⟨by omega, by omega⟩ (fun h22 => ?_) (fun h22 => by exfalso; omega)
          exact bg_ret C d_mo_remove_90 (fun h => by cases h) rfl (Nat.zero_le _) (Nat.zero_le _) ⟨rfl, hI20, by first | exact bmB_of A20_28 A20_29 A20_30 A20_34 (by omega) (by omega) (by omega) (by omega) (by omega) (by omega) (by omega) hB | exact bmB_2 (bmE_rm b1 a1 A20_28 A20_30 hB.2.1) (by omega) (by omega) (by omega) (by omega)⟩
      · refine bg_iconst C d_mo_remove_27 ?_
        refine bg_goto (l := 45) C d_mo_remove_28 (by decide) ?_
        refine bm_puti C cf_mo hI 0 0 rfl rfl (by decide) rfl rfl rfl (by omega) (by omega) rfl (Or.inl rfl) tw_677 d_mo_remove_45 (fun w23 hI23 e23 => ?_)
        have A23_28 : ∀ i, w23 28 i = w0 28 i := fun i => by rw [e23]; exact bgU_ne i (by decide)
        have A23_29 : ∀ i, w23 29 i = w0 29 i := fun i => by rw [e23]; exact bgU_ne i (by decide)
        have A23_30 : ∀ i, w23 30 i = w0 30 i := fun i => by rw [e23]; exact bgU_ne i (by decide)
        have A23_34 : ∀ i, w23 34 i = w0 34 i := fun i => by rw [e23]; exact bgU_ne i (by decide)
        have g23_0 : w23 27 0 = 2 := by rw [e23]; exact bgU_eq
        have g23_1 : w23 27 4 = w0 27 4 := by rw [e23]; exact bgU_nei (by decide)
        have g23_2 : w23 27 5 = w0 27 5 := by rw [e23]; exact bgU_nei (by decide)
        have g23_3 : w23 27 6 = w0 27 6 := by rw [e23]; exact bgU_nei (by decide)
        have g23_4 : w23 27 7 = w0 27 7 := by rw [e23]; exact bgU_nei (by decide)
        have g23_5 : w23 27 17 = w0 27 17 := by rw [e23]; exact bgU_nei (by decide)
        have g23_6 : w23 27 19 = w0 27 19 := by rw [e23]; exact bgU_nei (by decide)
        have g23_7 : w23 27 20 = w0 27 20 := by rw [e23]; exact bgU_nei (by decide)
        refine bg_aload_n C d_mo_remove_48 rfl rfl ?_
        refine bm_geti C cf_mo hI23 0 0 rfl rfl (by decide) rfl rfl tw_677 d_mo_remove_49 (fun v24 e24 a24 b24 => ?_)
        refine bg_if_ne (tgt := 90) C d_mo_remove_52 (by decide) ⟨by omega, by omega⟩ (fun h25 => ?_) (fun h25 => by exfalso; omega)
        exact bg_ret C d_mo_remove_90 (fun h => by cases h) rfl (Nat.zero_le _) (Nat.zero_le _) ⟨rfl, hI23, by first | exact bmB_of A23_28 A23_29 A23_30 A23_34 (by omega) (by omega) (by omega) (by omega) (by omega) (by omega) (by omega) hB | exact bmB_2 (bmE_rm b1 a1 A23_28 A23_30 hB.2.1) (by omega) (by omega) (by omega) (by omega)⟩
    · refine bg_iconst C d_mo_remove_15 ?_
      refine bg_goto (l := 45) C d_mo_remove_16 (by decide) ?_
      refine bm_puti C cf_mo hI 0 0 rfl rfl (by decide) rfl rfl rfl (by omega) (by omega) rfl (Or.inl rfl) tw_677 d_mo_remove_45 (fun w26 hI26 e26 => ?_)
      have A26_28 : ∀ i, w26 28 i = w0 28 i := fun i => by rw [e26]; exact bgU_ne i (by decide)
      have A26_29 : ∀ i, w26 29 i = w0 29 i := fun i => by rw [e26]; exact bgU_ne i (by decide)
      have A26_30 : ∀ i, w26 30 i = w0 30 i := fun i => by rw [e26]; exact bgU_ne i (by decide)
      have A26_34 : ∀ i, w26 34 i = w0 34 i := fun i => by rw [e26]; exact bgU_ne i (by decide)
      have g26_0 : w26 27 0 = 1 := by rw [e26]; exact bgU_eq
      have g26_1 : w26 27 4 = w0 27 4 := by rw [e26]; exact bgU_nei (by decide)
      have g26_2 : w26 27 5 = w0 27 5 := by rw [e26]; exact bgU_nei (by decide)
      have g26_3 : w26 27 6 = w0 27 6 := by rw [e26]; exact bgU_nei (by decide)
      have g26_4 : w26 27 7 = w0 27 7 := by rw [e26]; exact bgU_nei (by decide)
      have g26_5 : w26 27 17 = w0 27 17 := by rw [e26]; exact bgU_nei (by decide)
      have g26_6 : w26 27 19 = w0 27 19 := by rw [e26]; exact bgU_nei (by decide)
      have g26_7 : w26 27 20 = w0 27 20 := by rw [e26]; exact bgU_nei (by decide)
      refine bg_aload_n C d_mo_remove_48 rfl rfl ?_
      refine bm_geti C cf_mo hI26 0 0 rfl rfl (by decide) rfl rfl tw_677 d_mo_remove_49 (fun v27 e27 a27 b27 => ?_)
      refine bg_if_ne (tgt := 90) C d_mo_remove_52 (by decide) ⟨by omega, by omega⟩ (fun h28 => ?_) (fun h28 => by exfalso; omega)
      exact bg_ret C d_mo_remove_90 (fun h => by cases h) rfl (Nat.zero_le _) (Nat.zero_le _) ⟨rfl, hI26, by first | exact bmB_of A26_28 A26_29 A26_30 A26_34 (by omega) (by omega) (by omega) (by omega) (by omega) (by omega) (by omega) hB | exact bmB_2 (bmE_rm b1 a1 A26_28 A26_30 hB.2.1) (by omega) (by omega) (by omega) (by omega)⟩
def S_mo_commit : List (Nat × Option Int) := [(27, some 0), (27, some 12), (27, some 11), (27, some 13), (27, some 5), (27, some 6), (27, some 14), (27, some 17), (27, some 10), (33, none), (28, none), (29, none), (30, none), (32, none)]
def rm_mo_commit : Room := { frames := 2, cells := 0, slots := 0, locals := 45 }
set_option maxRecDepth 20000 in
set_option maxHeartbeats 4000000 in
theorem m_mo_commit {G : bgGl} (hG : bgOk G) {w0 : bgW} (hw : moN w0) (z0 : bmB w0) : bgM G false 0 0 y_mo_commit (.code y_mo_commit co_mo_commit 2 (some .boolean)) rm_mo_commit [br 27] w0 (bgPi (fun v w' => moRel S_mo_commit w0 w' ∧ bmB w')) := by
  refine bg_met hG (by decide +kernel) (bg_cat rfl) (Nat.le_of_ble_eq_true rfl) ?_
  intro K hK hR hex C
  subst hK
  have hI := moRel.rfl (S := S_mo_commit) hw
  show bgX K true 0 0 _ w0 0 [some (br 27), none] []
  have hB := z0
  have hB1 := hB.1
  have hs17 := hw 27 17 0 51 rfl
  have hs7 := hw 27 7 0 20 rfl
  have hs19 := hw 27 19 0 1 rfl
  have hs6 := hw 27 6 0 1 rfl
  have hs5 := hw 27 5 0 1 rfl
  refine bg_aload_n C d_mo_commit_0 rfl rfl ?_
  refine bg_aload_n C d_mo_commit_1 rfl rfl ?_
  refine bg_ci C (m_mo_isDown hG hI.1) (bg_invV C cf_mo rfl tw_776 ti_mo_isDown ts_mo_isDown tc_mo_isDown tw_42 ⟨by decide, by decide⟩ (nA := 0) (by decide +kernel) rfl d_mo_commit_2 rfl) rfl (by rw [hR]; exact ⟨by decide, by decide⟩) (by rw [hR]; exact ⟨by decide, by decide⟩) (Nat.le_of_ble_eq_true rfl) rfl (fun v1 w1 p1 => ?_)
  obtain ⟨rfl, r1_0, r1_1, r1_2, r1_3⟩ := p1
  refine bg_if_ne (tgt := 15) C d_mo_commit_5 (by decide) ⟨by omega, by omega⟩ (fun h2 => ?_) (fun h2 => ?_)
  · refine bg_iconst C d_mo_commit_15 ?_
    refine bg_goto (l := 20) C d_mo_commit_16 (by decide) ?_
    refine bm_puti C cf_mo hI 0 0 rfl rfl (by decide) rfl rfl rfl (by omega) (by omega) rfl (Or.inl rfl) tw_677 d_mo_commit_20 (fun w3 hI3 e3 => ?_)
    have A3_28 : ∀ i, w3 28 i = w0 28 i := fun i => by rw [e3]; exact bgU_ne i (by decide)
    have A3_29 : ∀ i, w3 29 i = w0 29 i := fun i => by rw [e3]; exact bgU_ne i (by decide)
    have A3_30 : ∀ i, w3 30 i = w0 30 i := fun i => by rw [e3]; exact bgU_ne i (by decide)
    have A3_34 : ∀ i, w3 34 i = w0 34 i := fun i => by rw [e3]; exact bgU_ne i (by decide)
    have g3_0 : w3 27 0 = 1 := by rw [e3]; exact bgU_eq
    have g3_1 : w3 27 4 = w0 27 4 := by rw [e3]; exact bgU_nei (by decide)
    have g3_2 : w3 27 5 = w0 27 5 := by rw [e3]; exact bgU_nei (by decide)
    have g3_3 : w3 27 6 = w0 27 6 := by rw [e3]; exact bgU_nei (by decide)
    have g3_4 : w3 27 7 = w0 27 7 := by rw [e3]; exact bgU_nei (by decide)
    have g3_5 : w3 27 17 = w0 27 17 := by rw [e3]; exact bgU_nei (by decide)
    have g3_6 : w3 27 19 = w0 27 19 := by rw [e3]; exact bgU_nei (by decide)
    have g3_7 : w3 27 20 = w0 27 20 := by rw [e3]; exact bgU_nei (by decide)
    refine bg_aload_n C d_mo_commit_23 rfl rfl ?_
    refine bm_geti C cf_mo hI3 0 0 rfl rfl (by decide) rfl rfl tw_677 d_mo_commit_24 (fun v4 e4 a4 b4 => ?_)
    refine bg_if_le (tgt := 32) C d_mo_commit_27 (by decide) ⟨by omega, by omega⟩ (fun h5 => by exfalso; omega) (fun h5 => ?_)
    refine bg_iconst C d_mo_commit_30 ?_
    exact bg_iret C d_mo_commit_31 (fun h => by cases h) (Or.inr ⟨rfl, by omega⟩) (Nat.zero_le _) (Nat.zero_le _) ⟨_, rfl, hI3, bmB_of A3_28 A3_29 A3_30 A3_34 (by omega) (by omega) (by omega) (by omega) (by omega) (by omega) (by omega) hB⟩
  · refine bg_aload_n C d_mo_commit_8 rfl rfl ?_
    refine bm_geti C cf_mo hI 6 6 rfl rfl (by decide) rfl rfl tw_683 d_mo_commit_9 (fun v6 e6 a6 b6 => ?_)
    refine bg_if_ne (tgt := 19) C d_mo_commit_12 (by decide) ⟨by omega, by omega⟩ (fun h7 => ?_) (fun h7 => ?_)
    · refine bg_iconst C d_mo_commit_19 ?_
      refine bm_puti C cf_mo hI 0 0 rfl rfl (by decide) rfl rfl rfl (by omega) (by omega) rfl (Or.inl rfl) tw_677 d_mo_commit_20 (fun w8 hI8 e8 => ?_)
      have A8_28 : ∀ i, w8 28 i = w0 28 i := fun i => by rw [e8]; exact bgU_ne i (by decide)
      have A8_29 : ∀ i, w8 29 i = w0 29 i := fun i => by rw [e8]; exact bgU_ne i (by decide)
      have A8_30 : ∀ i, w8 30 i = w0 30 i := fun i => by rw [e8]; exact bgU_ne i (by decide)
      have A8_34 : ∀ i, w8 34 i = w0 34 i := fun i => by rw [e8]; exact bgU_ne i (by decide)
      have g8_0 : w8 27 0 = 0 := by rw [e8]; exact bgU_eq
      have g8_1 : w8 27 4 = w0 27 4 := by rw [e8]; exact bgU_nei (by decide)
      have g8_2 : w8 27 5 = w0 27 5 := by rw [e8]; exact bgU_nei (by decide)
      have g8_3 : w8 27 6 = w0 27 6 := by rw [e8]; exact bgU_nei (by decide)
      have g8_4 : w8 27 7 = w0 27 7 := by rw [e8]; exact bgU_nei (by decide)
      have g8_5 : w8 27 17 = w0 27 17 := by rw [e8]; exact bgU_nei (by decide)
      have g8_6 : w8 27 19 = w0 27 19 := by rw [e8]; exact bgU_nei (by decide)
      have g8_7 : w8 27 20 = w0 27 20 := by rw [e8]; exact bgU_nei (by decide)
      refine bg_aload_n C d_mo_commit_23 rfl rfl ?_
      refine bm_geti C cf_mo hI8 0 0 rfl rfl (by decide) rfl rfl tw_677 d_mo_commit_24 (fun v9 e9 a9 b9 => ?_)
      refine bg_if_le (tgt := 32) C d_mo_commit_27 (by decide) ⟨by omega, by omega⟩ (fun h10 => ?_) (fun h10 => by exfalso; omega)
      refine bg_aload_n C d_mo_commit_32 rfl rfl ?_
      refine bg_iconst C d_mo_commit_33 ?_
      refine bm_puti C cf_mo hI8 6 6 rfl rfl (by decide) rfl rfl rfl (by omega) (by omega) rfl (Or.inr ⟨rfl, by omega⟩) tw_683 d_mo_commit_34 (fun w11 hI11 e11 => ?_)
      have A11_28 : ∀ i, w11 28 i = w0 28 i := fun i => by rw [e11]; exact (bgU_ne i (by decide)).trans (A8_28 i)
      have A11_29 : ∀ i, w11 29 i = w0 29 i := fun i => by rw [e11]; exact (bgU_ne i (by decide)).trans (A8_29 i)
      have A11_30 : ∀ i, w11 30 i = w0 30 i := fun i => by rw [e11]; exact (bgU_ne i (by decide)).trans (A8_30 i)
      have A11_34 : ∀ i, w11 34 i = w0 34 i := fun i => by rw [e11]; exact (bgU_ne i (by decide)).trans (A8_34 i)
      have g11_0 : w11 27 0 = w8 27 0 := by rw [e11]; exact bgU_nei (by decide)
      have g11_1 : w11 27 4 = w8 27 4 := by rw [e11]; exact bgU_nei (by decide)
      have g11_2 : w11 27 5 = w8 27 5 := by rw [e11]; exact bgU_nei (by decide)
      have g11_3 : w11 27 6 = 0 := by rw [e11]; exact bgU_eq
      have g11_4 : w11 27 7 = w8 27 7 := by rw [e11]; exact bgU_nei (by decide)
      have g11_5 : w11 27 17 = w8 27 17 := by rw [e11]; exact bgU_nei (by decide)
      have g11_6 : w11 27 19 = w8 27 19 := by rw [e11]; exact bgU_nei (by decide)
      have g11_7 : w11 27 20 = w8 27 20 := by rw [e11]; exact bgU_nei (by decide)
      refine bg_aload_n C d_mo_commit_37 rfl rfl ?_
      refine bm_geti C cf_mo hI11 7 7 rfl rfl (by decide) rfl rfl tw_684 d_mo_commit_38 (fun v12 e12 a12 b12 => ?_)
      refine bg_if_ne (tgt := 46) C d_mo_commit_41 (by decide) ⟨by omega, by omega⟩ (fun h13 => ?_) (fun h13 => ?_)
      · refine bg_iconst C d_mo_commit_46 ?_
        refine bg_istore_n C d_mo_commit_47 rfl (Nat.le_of_ble_eq_true rfl) ?_
        refine bg_loop (α := bgW × Int) (fun a => (21 - a.2).toNat) (fun a => moRel S_mo_commit w0 a.1 ∧ 0 ≤ a.2 ∧ a.2 ≤ 21 ∧ a.1 27 0 = w11 27 0 ∧ a.1 27 4 = w11 27 4 ∧ a.1 27 5 = w11 27 5 ∧ a.1 27 6 = w11 27 6 ∧ a.1 27 7 = w11 27 7 ∧ a.1 27 17 = w11 27 17 ∧ a.1 27 19 = w11 27 19 ∧ a.1 27 20 = w11 27 20 ∧ (∀ y9, a.1 28 y9 = w0 28 y9) ∧ (∀ y9, a.1 29 y9 = w0 29 y9) ∧ (∀ y9, a.1 30 y9 = w0 30 y9) ∧ (∀ y9, a.1 34 y9 = w0 34 y9)) (fun a => (a.1, [some (br 27), some (bi a.2)], [])) ?_ (w11, 0) ⟨hI11, by (try dsimp only) <;> omega, by (try dsimp only) <;> omega, by (try dsimp only) <;> omega, by (try dsimp only) <;> omega, by (try dsimp only) <;> omega, by (try dsimp only) <;> omega, by (try dsimp only) <;> omega, by (try dsimp only) <;> omega, by (try dsimp only) <;> omega, by (try dsimp only) <;> omega, A11_28, A11_29, A11_30, A11_34⟩
        rintro ⟨w14, i14⟩ ⟨hI14, q14_0, q14_1, q14_2, q14_3, q14_4, q14_5, q14_6, q14_7, q14_8, q14_9, q14_10, q14_11, q14_12, q14_13⟩ ih48
        try dsimp only at ih48
        try dsimp only at q14_0
        try dsimp only at q14_1
        try dsimp only at q14_2
        try dsimp only at q14_3
        try dsimp only at q14_4
        try dsimp only at q14_5
        try dsimp only at q14_6
        try dsimp only at q14_7
        try dsimp only at q14_8
        try dsimp only at q14_9
        try dsimp only at q14_10
        try dsimp only at q14_11
        try dsimp only at q14_12
        try dsimp only at q14_13
        try dsimp only
        refine bg_iload_n C d_mo_commit_48 rfl rfl ?_
        refine bg_aload_n C d_mo_commit_49 rfl rfl ?_
        refine bm_geti C cf_mo hI14 7 7 rfl rfl (by decide) rfl rfl tw_684 d_mo_commit_50 (fun v15 e15 a15 b15 => ?_)
        refine bg_icmp_gt (tgt := 71) C d_mo_commit_53 (by decide) ⟨by omega, by omega⟩ ⟨by omega, by omega⟩ (fun h16 => ?_) (fun h16 => ?_)
        · refine bg_aload_n C d_mo_commit_71 rfl rfl ?_
          refine bg_iconst C d_mo_commit_72 ?_
          refine bg_sipush C d_mo_commit_73 (by decide +kernel) ?_
          refine bg_cv C (m_mo_copy_home hG hI14.1) (bg_invV C cf_mo rfl tw_803 ti_mo_copy ts_mo_copy tc_mo_copy tw_42 ⟨by decide, by decide⟩ (nA := 2) (by decide +kernel) rfl d_mo_commit_76 rfl) rfl (by rw [hR]; exact ⟨by decide, by decide⟩) (by rw [hR]; exact ⟨by decide, by decide⟩) (Nat.le_of_ble_eq_true rfl) rfl (fun w17 p17 => ?_)
          obtain ⟨j17, r17_0⟩ := p17
          have hI17 := hI14.trans j17 (by decide)
          have g17_0 : w17 27 0 = w14 27 0 := j17.2 27 0 rfl
          have g17_1 : w17 27 4 = w14 27 4 := j17.2 27 4 rfl
          have g17_2 : w17 27 5 = w14 27 5 := j17.2 27 5 rfl
          have g17_3 : w17 27 6 = w14 27 6 := j17.2 27 6 rfl
          have g17_4 : w17 27 7 = w14 27 7 := j17.2 27 7 rfl
          have g17_5 : w17 27 17 = w14 27 17 := j17.2 27 17 rfl
          have g17_6 : w17 27 19 = w14 27 19 := j17.2 27 19 rfl
          have g17_7 : w17 27 20 = w14 27 20 := j17.2 27 20 rfl
          have A17_34 : ∀ i, w17 34 i = w0 34 i := fun i => (j17.2 34 i rfl).trans (q14_13 i)
          have cE : bmE w17 := bmE_cp (w0 := w14) (to := 0) (fr := 200) (by omega) r17_0 (bmE_of q14_10 q14_12 hB.2.1)
          have cH : bmH w17 := bmH_cp (w0 := w14) (to := 0) (fr := 200) (by omega) r17_0
          have c28 : ∀ e, 0 ≤ e → e < 200 → w17 28 (200 + e) = w0 28 (200 + e) := fun e h0 h1 => ((r17_0 28 e (by simp) h0 h1).2).trans ((q14_10 _))
          have c29 : ∀ e, 0 ≤ e → e < 200 → w17 29 (200 + e) = w0 29 (200 + e) := fun e h0 h1 => ((r17_0 29 e (by simp) h0 h1).2).trans ((q14_11 _))
          have c30 : ∀ e, 0 ≤ e → e < 200 → w17 30 (200 + e) = w0 30 (200 + e) := fun e h0 h1 => ((r17_0 30 e (by simp) h0 h1).2).trans ((q14_12 _))
          refine bg_aload_n C d_mo_commit_79 rfl rfl ?_
          refine bg_dup C d_mo_commit_80 rfl ?_
          refine bq_get0 C cf_mo 12 12 rfl rfl (by decide) rfl tw_689 d_mo_commit_81 (fun v18 e18 => ?_)
          refine bg_iconst C d_mo_commit_84 ?_
          refine bg_iadd C d_mo_commit_85 ?_
          refine bm_put0 C cf_mo hI17 12 12 rfl rfl (by decide) rfl rfl rfl rfl rfl tw_689 d_mo_commit_86 (fun w19 hI19 e19 => ?_)
          have A19_28 : ∀ i, w19 28 i = w17 28 i := fun i => by rw [e19]; exact bgU_ne i (by decide)
          have A19_29 : ∀ i, w19 29 i = w17 29 i := fun i => by rw [e19]; exact bgU_ne i (by decide)
          have A19_30 : ∀ i, w19 30 i = w17 30 i := fun i => by rw [e19]; exact bgU_ne i (by decide)
          have A19_34 : ∀ i, w19 34 i = w0 34 i := fun i => by rw [e19]; exact (bgU_ne i (by decide)).trans (A17_34 i)
          have g19_0 : w19 27 0 = w17 27 0 := by rw [e19]; exact bgU_nei (by decide)
          have g19_1 : w19 27 4 = w17 27 4 := by rw [e19]; exact bgU_nei (by decide)
          have g19_2 : w19 27 5 = w17 27 5 := by rw [e19]; exact bgU_nei (by decide)
          have g19_3 : w19 27 6 = w17 27 6 := by rw [e19]; exact bgU_nei (by decide)
          have g19_4 : w19 27 7 = w17 27 7 := by rw [e19]; exact bgU_nei (by decide)
          have g19_5 : w19 27 17 = w17 27 17 := by rw [e19]; exact bgU_nei (by decide)
          have g19_6 : w19 27 19 = w17 27 19 := by rw [e19]; exact bgU_nei (by decide)
          have g19_7 : w19 27 20 = w17 27 20 := by rw [e19]; exact bgU_nei (by decide)
          refine bg_aload_n C d_mo_commit_89 rfl rfl ?_
          refine bg_iconst C d_mo_commit_90 ?_
          refine bm_puti C cf_mo hI19 10 10 rfl rfl (by decide) rfl rfl rfl (by omega) (by omega) rfl (Or.inr ⟨rfl, by omega⟩) tw_687 d_mo_commit_91 (fun w20 hI20 e20 => ?_)
          have A20_28 : ∀ i, w20 28 i = w17 28 i := fun i => by rw [e20]; exact (bgU_ne i (by decide)).trans (A19_28 i)
          have A20_29 : ∀ i, w20 29 i = w17 29 i := fun i => by rw [e20]; exact (bgU_ne i (by decide)).trans (A19_29 i)
          have A20_30 : ∀ i, w20 30 i = w17 30 i := fun i => by rw [e20]; exact (bgU_ne i (by decide)).trans (A19_30 i)
          have A20_34 : ∀ i, w20 34 i = w0 34 i := fun i => by rw [e20]; exact (bgU_ne i (by decide)).trans (A19_34 i)
          have g20_0 : w20 27 0 = w19 27 0 := by rw [e20]; exact bgU_nei (by decide)
          have g20_1 : w20 27 4 = w19 27 4 := by rw [e20]; exact bgU_nei (by decide)
          have g20_2 : w20 27 5 = w19 27 5 := by rw [e20]; exact bgU_nei (by decide)
          have g20_3 : w20 27 6 = w19 27 6 := by rw [e20]; exact bgU_nei (by decide)
          have g20_4 : w20 27 7 = w19 27 7 := by rw [e20]; exact bgU_nei (by decide)
          have g20_5 : w20 27 17 = w19 27 17 := by rw [e20]; exact bgU_nei (by decide)
          have g20_6 : w20 27 19 = w19 27 19 := by rw [e20]; exact bgU_nei (by decide)
          have g20_7 : w20 27 20 = w19 27 20 := by rw [e20]; exact bgU_nei (by decide)
          refine bg_iconst C d_mo_commit_94 ?_
          refine bg_istore_n C d_mo_commit_95 rfl (Nat.le_of_ble_eq_true rfl) ?_
          refine bg_loop (α := bgW × Int) (fun a => (50 - a.2).toNat) (fun a => moRel S_mo_commit w0 a.1 ∧ 0 ≤ a.2 ∧ a.2 ≤ 50 ∧ a.1 27 0 = w20 27 0 ∧ a.1 27 4 = w20 27 4 ∧ a.1 27 5 = w20 27 5 ∧ a.1 27 6 = w20 27 6 ∧ a.1 27 7 = w20 27 7 ∧ a.1 27 17 = w20 27 17 ∧ a.1 27 19 = w20 27 19 ∧ a.1 27 20 = w20 27 20 ∧ (∀ y9, a.1 28 y9 = w17 28 y9) ∧ (∀ y9, a.1 29 y9 = w17 29 y9) ∧ (∀ y9, a.1 30 y9 = w17 30 y9) ∧ (∀ y9, a.1 34 y9 = w0 34 y9)) (fun a => (a.1, [some (br 27), some (bi a.2)], [])) ?_ (w20, 0) ⟨hI20, by (try dsimp only) <;> omega, by (try dsimp only) <;> omega, by (try dsimp only) <;> omega, by (try dsimp only) <;> omega, by (try dsimp only) <;> omega, by (try dsimp only) <;> omega, by (try dsimp only) <;> omega, by (try dsimp only) <;> omega, by (try dsimp only) <;> omega, by (try dsimp only) <;> omega, A20_28, A20_29, A20_30, A20_34⟩
          rintro ⟨w21, i21⟩ ⟨hI21, q21_0, q21_1, q21_2, q21_3, q21_4, q21_5, q21_6, q21_7, q21_8, q21_9, q21_10, q21_11, q21_12, q21_13⟩ ih96
          try dsimp only at ih96
          try dsimp only at q21_0
          try dsimp only at q21_1
          try dsimp only at q21_2
          try dsimp only at q21_3
          try dsimp only at q21_4
          try dsimp only at q21_5
          try dsimp only at q21_6
          try dsimp only at q21_7
          try dsimp only at q21_8
          try dsimp only at q21_9
          try dsimp only at q21_10
          try dsimp only at q21_11
          try dsimp only at q21_12
          try dsimp only at q21_13
          try dsimp only
          refine bg_iload_n C d_mo_commit_96 rfl rfl ?_
          refine bg_bipush C d_mo_commit_97 (by decide +kernel) ?_
          refine bg_icmp_ge (tgt := 120) C d_mo_commit_99 (by decide) ⟨by omega, by omega⟩ ⟨by omega, by omega⟩ (fun h22 => ?_) (fun h22 => ?_)
          · refine bg_aload_n C d_mo_commit_120 rfl rfl ?_
            refine bg_ci C (m_mo_isHome hG hI21.1 (by omega)) (bg_invV C cf_mo rfl tw_807 ti_mo_isHome ts_mo_isHome tc_mo_isHome tw_42 ⟨by decide, by decide⟩ (nA := 0) (by decide +kernel) rfl d_mo_commit_121 rfl) rfl (by rw [hR]; exact ⟨by decide, by decide⟩) (by rw [hR]; exact ⟨by decide, by decide⟩) (Nat.le_of_ble_eq_true rfl) rfl (fun v23 w23 p23 => ?_)
            obtain ⟨j23, r23_0, r23_1, r23_2, r23_3, r23_4, r23_5⟩ := p23
            have hI23 := hI21.trans j23 (by decide)
            have g23_0 : w23 27 0 = w21 27 0 := j23.2 27 0 rfl
            have g23_1 : w23 27 4 = w21 27 4 := j23.2 27 4 rfl
            have g23_4 : w23 27 7 = w21 27 7 := j23.2 27 7 rfl
            have g23_6 : w23 27 19 = w21 27 19 := j23.2 27 19 rfl
            have g23_7 : w23 27 20 = w21 27 20 := j23.2 27 20 rfl
            have A23_28 : ∀ i, w23 28 i = w17 28 i := fun i => (j23.2 28 i rfl).trans (q21_10 i)
            have A23_29 : ∀ i, w23 29 i = w17 29 i := fun i => (j23.2 29 i rfl).trans (q21_11 i)
            have A23_30 : ∀ i, w23 30 i = w17 30 i := fun i => (j23.2 30 i rfl).trans (q21_12 i)
            have A23_34 : ∀ i, w23 34 i = w0 34 i := fun i => (j23.2 34 i rfl).trans (q21_13 i)
            refine bg_if_ne (tgt := 129) C d_mo_commit_124 (by decide) ⟨by omega, by omega⟩ (fun h24 => ?_) (fun h24 => ?_)
            · refine bg_aload_n C d_mo_commit_129 rfl rfl ?_
              refine bg_dup C d_mo_commit_130 rfl ?_
              refine bq_get0 C cf_mo 11 11 rfl rfl (by decide) rfl tw_688 d_mo_commit_131 (fun v25 e25 => ?_)
              refine bg_aload_n C d_mo_commit_134 rfl rfl ?_
              refine bq_get0 C cf_mo 12 12 rfl rfl (by decide) rfl tw_689 d_mo_commit_135 (fun v26 e26 => ?_)
              refine bg_iadd C d_mo_commit_138 ?_
              refine bm_put0 C cf_mo hI23 11 11 rfl rfl (by decide) rfl rfl rfl rfl rfl tw_688 d_mo_commit_139 (fun w27 hI27 e27 => ?_)
              have A27_28 : ∀ i, w27 28 i = w17 28 i := fun i => by rw [e27]; exact (bgU_ne i (by decide)).trans (A23_28 i)
              have A27_29 : ∀ i, w27 29 i = w17 29 i := fun i => by rw [e27]; exact (bgU_ne i (by decide)).trans (A23_29 i)
              have A27_30 : ∀ i, w27 30 i = w17 30 i := fun i => by rw [e27]; exact (bgU_ne i (by decide)).trans (A23_30 i)
              have A27_34 : ∀ i, w27 34 i = w0 34 i := fun i => by rw [e27]; exact (bgU_ne i (by decide)).trans (A23_34 i)
              have g27_0 : w27 27 0 = w23 27 0 := by rw [e27]; exact bgU_nei (by decide)
              have g27_1 : w27 27 4 = w23 27 4 := by rw [e27]; exact bgU_nei (by decide)
              have g27_2 : w27 27 5 = w23 27 5 := by rw [e27]; exact bgU_nei (by decide)
              have g27_3 : w27 27 6 = w23 27 6 := by rw [e27]; exact bgU_nei (by decide)
              have g27_4 : w27 27 7 = w23 27 7 := by rw [e27]; exact bgU_nei (by decide)
              have g27_5 : w27 27 17 = w23 27 17 := by rw [e27]; exact bgU_nei (by decide)
              have g27_6 : w27 27 19 = w23 27 19 := by rw [e27]; exact bgU_nei (by decide)
              have g27_7 : w27 27 20 = w23 27 20 := by rw [e27]; exact bgU_nei (by decide)
              refine bg_aload_n C d_mo_commit_142 rfl rfl ?_
              refine bg_iconst C d_mo_commit_143 ?_
              refine bm_put0 C cf_mo hI27 12 12 rfl rfl (by decide) rfl rfl rfl rfl rfl tw_689 d_mo_commit_144 (fun w28 hI28 e28 => ?_)
              have A28_28 : ∀ i, w28 28 i = w17 28 i := fun i => by rw [e28]; exact (bgU_ne i (by decide)).trans (A27_28 i)
              have A28_29 : ∀ i, w28 29 i = w17 29 i := fun i => by rw [e28]; exact (bgU_ne i (by decide)).trans (A27_29 i)
              have A28_30 : ∀ i, w28 30 i = w17 30 i := fun i => by rw [e28]; exact (bgU_ne i (by decide)).trans (A27_30 i)
              have A28_34 : ∀ i, w28 34 i = w0 34 i := fun i => by rw [e28]; exact (bgU_ne i (by decide)).trans (A27_34 i)
              have g28_0 : w28 27 0 = w27 27 0 := by rw [e28]; exact bgU_nei (by decide)
              have g28_1 : w28 27 4 = w27 27 4 := by rw [e28]; exact bgU_nei (by decide)
              have g28_2 : w28 27 5 = w27 27 5 := by rw [e28]; exact bgU_nei (by decide)
              have g28_3 : w28 27 6 = w27 27 6 := by rw [e28]; exact bgU_nei (by decide)
              have g28_4 : w28 27 7 = w27 27 7 := by rw [e28]; exact bgU_nei (by decide)
              have g28_5 : w28 27 17 = w27 27 17 := by rw [e28]; exact bgU_nei (by decide)
              have g28_6 : w28 27 19 = w27 27 19 := by rw [e28]; exact bgU_nei (by decide)
              have g28_7 : w28 27 20 = w27 27 20 := by rw [e28]; exact bgU_nei (by decide)
              refine bg_iconst C d_mo_commit_147 ?_
              exact bg_iret C d_mo_commit_148 (fun h => by cases h) (Or.inr ⟨rfl, by omega⟩) (Nat.zero_le _) (Nat.zero_le _) ⟨_, rfl, hI28, ⟨by omega, bmE_of A28_28 A28_30 cE, fun _ _ _ => bmH_of A28_28 A28_29 A28_30 cH, fun _ => bmTi_ofV (fun e h0 h1 => (A28_28 _).trans (c28 e h0 h1)) (fun e h0 h1 => (A28_29 _).trans (c29 e h0 h1)) (fun e h0 h1 => (A28_30 _).trans (c30 e h0 h1)) A28_34 (by omega) (hB.2.2.2 (by omega))⟩⟩
            · refine bg_iconst C d_mo_commit_127 ?_
              exact bg_iret C d_mo_commit_128 (fun h => by cases h) (Or.inr ⟨rfl, by omega⟩) (Nat.zero_le _) (Nat.zero_le _) ⟨_, rfl, hI23, ⟨by omega, bmE_of A23_28 A23_30 cE, fun _ _ _ => bmH_of A23_28 A23_29 A23_30 cH, fun _ => bmTi_ofV (fun e h0 h1 => (A23_28 _).trans (c28 e h0 h1)) (fun e h0 h1 => (A23_29 _).trans (c29 e h0 h1)) (fun e h0 h1 => (A23_30 _).trans (c30 e h0 h1)) A23_34 (by omega) (hB.2.2.2 (by omega))⟩⟩
          · refine bg_aload_n C d_mo_commit_102 rfl rfl ?_
            refine bg_getr (i := 9) C cf_mo rfl (by decide) rfl tw_686 d_mo_commit_103 ?_
            refine bg_iload_n C d_mo_commit_106 rfl rfl ?_
            refine bg_aload_n C d_mo_commit_107 rfl rfl ?_
            refine bg_getr (i := 8) C cf_mo rfl (by decide) rfl tw_685 d_mo_commit_108 ?_
            refine bg_iload_n C d_mo_commit_111 rfl rfl ?_
            refine bm_zald C hI21 rfl rfl (by omega) (by omega) d_mo_commit_112 (fun v29 e29 a29 b29 => ?_)
            refine bm_zast C hI21 rfl rfl rfl (by omega) (by omega) (by omega) (by omega) (by omega) d_mo_commit_113 (fun w30 hI30 e30 => ?_)
            have A30_28 : ∀ i, w30 28 i = w17 28 i := fun i => by rw [e30]; exact (bgU_ne i (by decide)).trans (q21_10 i)
            have A30_29 : ∀ i, w30 29 i = w17 29 i := fun i => by rw [e30]; exact (bgU_ne i (by decide)).trans (q21_11 i)
            have A30_30 : ∀ i, w30 30 i = w17 30 i := fun i => by rw [e30]; exact (bgU_ne i (by decide)).trans (q21_12 i)
            have A30_34 : ∀ i, w30 34 i = w0 34 i := fun i => by rw [e30]; exact (bgU_ne i (by decide)).trans (q21_13 i)
            have g30_0 : w30 27 0 = w21 27 0 := by rw [e30]; exact bgU_ne _ (by decide)
            have g30_1 : w30 27 4 = w21 27 4 := by rw [e30]; exact bgU_ne _ (by decide)
            have g30_2 : w30 27 5 = w21 27 5 := by rw [e30]; exact bgU_ne _ (by decide)
            have g30_3 : w30 27 6 = w21 27 6 := by rw [e30]; exact bgU_ne _ (by decide)
            have g30_4 : w30 27 7 = w21 27 7 := by rw [e30]; exact bgU_ne _ (by decide)
            have g30_5 : w30 27 17 = w21 27 17 := by rw [e30]; exact bgU_ne _ (by decide)
            have g30_6 : w30 27 19 = w21 27 19 := by rw [e30]; exact bgU_ne _ (by decide)
            have g30_7 : w30 27 20 = w21 27 20 := by rw [e30]; exact bgU_ne _ (by decide)
            refine bg_iinc C d_mo_commit_114 rfl ?_
            refine bg_goto (l := 96) C d_mo_commit_117 (by decide) ?_
            exact ih96 (w30, (i21 + 1)) ⟨hI30, by (try dsimp only) <;> omega, by (try dsimp only) <;> omega, by (try dsimp only) <;> omega, by (try dsimp only) <;> omega, by (try dsimp only) <;> omega, by (try dsimp only) <;> omega, by (try dsimp only) <;> omega, by (try dsimp only) <;> omega, by (try dsimp only) <;> omega, by (try dsimp only) <;> omega, A30_28, A30_29, A30_30, A30_34⟩ (by (try dsimp only) <;> omega)
        · refine bg_aload_n C d_mo_commit_56 rfl rfl ?_
          refine bg_ci C (m_mo_isWritten hG hI14.1) (bg_invV C cf_mo rfl tw_760 ti_mo_isWritten ts_mo_isWritten tc_mo_isWritten tw_42 ⟨by decide, by decide⟩ (nA := 0) (by decide +kernel) rfl d_mo_commit_57 rfl) rfl (by rw [hR]; exact ⟨by decide, by decide⟩) (by rw [hR]; exact ⟨by decide, by decide⟩) (Nat.le_of_ble_eq_true rfl) rfl (fun v31 w31 p31 => ?_)
          obtain ⟨j31, r31_0, r31_1, r31_2, r31_3, r31_4⟩ := p31
          have hI31 := hI14.trans j31 (by decide)
          have g31_0 : w31 27 0 = w14 27 0 := j31.2 27 0 rfl
          have g31_1 : w31 27 4 = w14 27 4 := j31.2 27 4 rfl
          have g31_4 : w31 27 7 = w14 27 7 := j31.2 27 7 rfl
          have g31_5 : w31 27 17 = w14 27 17 := j31.2 27 17 rfl
          have g31_6 : w31 27 19 = w14 27 19 := j31.2 27 19 rfl
          have g31_7 : w31 27 20 = w14 27 20 := j31.2 27 20 rfl
          have A31_28 : ∀ i, w31 28 i = w0 28 i := fun i => (j31.2 28 i rfl).trans (q14_10 i)
          have A31_29 : ∀ i, w31 29 i = w0 29 i := fun i => (j31.2 29 i rfl).trans (q14_11 i)
          have A31_30 : ∀ i, w31 30 i = w0 30 i := fun i => (j31.2 30 i rfl).trans (q14_12 i)
          have A31_34 : ∀ i, w31 34 i = w0 34 i := fun i => (j31.2 34 i rfl).trans (q14_13 i)
          refine bg_if_ne (tgt := 65) C d_mo_commit_60 (by decide) ⟨by omega, by omega⟩ (fun h32 => ?_) (fun h32 => ?_)
          · refine bg_iinc C d_mo_commit_65 rfl ?_
            refine bg_goto (l := 48) C d_mo_commit_68 (by decide) ?_
            exact ih48 (w31, (i14 + 1)) ⟨hI31, by (try dsimp only) <;> omega, by (try dsimp only) <;> omega, by (try dsimp only) <;> omega, by (try dsimp only) <;> omega, by (try dsimp only) <;> omega, by (try dsimp only) <;> omega, by (try dsimp only) <;> omega, by (try dsimp only) <;> omega, by (try dsimp only) <;> omega, by (try dsimp only) <;> omega, A31_28, A31_29, A31_30, A31_34⟩ (by (try dsimp only) <;> omega)
          · refine bg_iconst C d_mo_commit_63 ?_
            exact bg_iret C d_mo_commit_64 (fun h => by cases h) (Or.inr ⟨rfl, by omega⟩) (Nat.zero_le _) (Nat.zero_le _) ⟨_, rfl, hI31, bmB_dn A31_28 A31_29 A31_30 A31_34 (by omega) (by omega) (by omega) (by omega) hB⟩
      · refine bg_iconst C d_mo_commit_44 ?_
        exact bg_iret C d_mo_commit_45 (fun h => by cases h) (Or.inr ⟨rfl, by omega⟩) (Nat.zero_le _) (Nat.zero_le _) ⟨_, rfl, hI11, bmB_J A11_28 A11_29 A11_30 A11_34 (by omega) (by omega) (by omega) (hB.2.2.1 (by omega) (by omega) (Or.inr (by omega))) hB⟩
    · refine bg_iconst C d_mo_commit_15 ?_
      refine bg_goto (l := 20) C d_mo_commit_16 (by decide) ?_
      refine bm_puti C cf_mo hI 0 0 rfl rfl (by decide) rfl rfl rfl (by omega) (by omega) rfl (Or.inl rfl) tw_677 d_mo_commit_20 (fun w33 hI33 e33 => ?_)
      have A33_28 : ∀ i, w33 28 i = w0 28 i := fun i => by rw [e33]; exact bgU_ne i (by decide)
      have A33_29 : ∀ i, w33 29 i = w0 29 i := fun i => by rw [e33]; exact bgU_ne i (by decide)
      have A33_30 : ∀ i, w33 30 i = w0 30 i := fun i => by rw [e33]; exact bgU_ne i (by decide)
      have A33_34 : ∀ i, w33 34 i = w0 34 i := fun i => by rw [e33]; exact bgU_ne i (by decide)
      have g33_0 : w33 27 0 = 1 := by rw [e33]; exact bgU_eq
      have g33_1 : w33 27 4 = w0 27 4 := by rw [e33]; exact bgU_nei (by decide)
      have g33_2 : w33 27 5 = w0 27 5 := by rw [e33]; exact bgU_nei (by decide)
      have g33_3 : w33 27 6 = w0 27 6 := by rw [e33]; exact bgU_nei (by decide)
      have g33_4 : w33 27 7 = w0 27 7 := by rw [e33]; exact bgU_nei (by decide)
      have g33_5 : w33 27 17 = w0 27 17 := by rw [e33]; exact bgU_nei (by decide)
      have g33_6 : w33 27 19 = w0 27 19 := by rw [e33]; exact bgU_nei (by decide)
      have g33_7 : w33 27 20 = w0 27 20 := by rw [e33]; exact bgU_nei (by decide)
      refine bg_aload_n C d_mo_commit_23 rfl rfl ?_
      refine bm_geti C cf_mo hI33 0 0 rfl rfl (by decide) rfl rfl tw_677 d_mo_commit_24 (fun v34 e34 a34 b34 => ?_)
      refine bg_if_le (tgt := 32) C d_mo_commit_27 (by decide) ⟨by omega, by omega⟩ (fun h35 => by exfalso; omega) (fun h35 => ?_)
      refine bg_iconst C d_mo_commit_30 ?_
      exact bg_iret C d_mo_commit_31 (fun h => by cases h) (Or.inr ⟨rfl, by omega⟩) (Nat.zero_le _) (Nat.zero_le _) ⟨_, rfl, hI33, bmB_of A33_28 A33_29 A33_30 A33_34 (by omega) (by omega) (by omega) (by omega) (by omega) (by omega) (by omega) hB⟩
def S_mo_abort : List (Nat × Option Int) := [(27, some 0), (27, some 6), (27, some 19), (28, none), (29, none), (30, none)]
def rm_mo_abort : Room := { frames := 1, cells := 0, slots := 0, locals := 23 }
set_option maxRecDepth 20000 in
set_option maxHeartbeats 4000000 in
theorem m_mo_abort {G : bgGl} (hG : bgOk G) {w0 : bgW} (hw : moN w0) (z0 : bmB w0) : bgM G false 0 0 y_mo_abort (.code y_mo_abort co_mo_abort 1 (some .int)) rm_mo_abort [br 27] w0 (bgPi (fun v w' => moRel S_mo_abort w0 w' ∧ bmB w')) := by
  refine bg_met hG (by decide +kernel) (bg_cat rfl) (Nat.le_of_ble_eq_true rfl) ?_
  intro K hK hR hex C
  subst hK
  have hI := moRel.rfl (S := S_mo_abort) hw
  show bgX K true 0 0 _ w0 0 [some (br 27)] []
  have hB := z0
  have hB1 := hB.1
  have hs17 := hw 27 17 0 51 rfl
  have hs7 := hw 27 7 0 20 rfl
  have hs19 := hw 27 19 0 1 rfl
  have hs6 := hw 27 6 0 1 rfl
  have hs5 := hw 27 5 0 1 rfl
  refine bg_aload_n C d_mo_abort_0 rfl rfl ?_
  refine bg_aload_n C d_mo_abort_1 rfl rfl ?_
  refine bg_ci C (m_mo_isDown hG hI.1) (bg_invV C cf_mo rfl tw_776 ti_mo_isDown ts_mo_isDown tc_mo_isDown tw_42 ⟨by decide, by decide⟩ (nA := 0) (by decide +kernel) rfl d_mo_abort_2 rfl) rfl (by rw [hR]; exact ⟨by decide, by decide⟩) (by rw [hR]; exact ⟨by decide, by decide⟩) (Nat.le_of_ble_eq_true rfl) rfl (fun v1 w1 p1 => ?_)
  obtain ⟨rfl, r1_0, r1_1, r1_2, r1_3⟩ := p1
  refine bg_if_ne (tgt := 15) C d_mo_abort_5 (by decide) ⟨by omega, by omega⟩ (fun h2 => ?_) (fun h2 => ?_)
  · refine bg_iconst C d_mo_abort_15 ?_
    refine bg_goto (l := 20) C d_mo_abort_16 (by decide) ?_
    refine bm_puti C cf_mo hI 0 0 rfl rfl (by decide) rfl rfl rfl (by omega) (by omega) rfl (Or.inl rfl) tw_677 d_mo_abort_20 (fun w3 hI3 e3 => ?_)
    have A3_28 : ∀ i, w3 28 i = w0 28 i := fun i => by rw [e3]; exact bgU_ne i (by decide)
    have A3_29 : ∀ i, w3 29 i = w0 29 i := fun i => by rw [e3]; exact bgU_ne i (by decide)
    have A3_30 : ∀ i, w3 30 i = w0 30 i := fun i => by rw [e3]; exact bgU_ne i (by decide)
    have A3_34 : ∀ i, w3 34 i = w0 34 i := fun i => by rw [e3]; exact bgU_ne i (by decide)
    have g3_0 : w3 27 0 = 1 := by rw [e3]; exact bgU_eq
    have g3_1 : w3 27 4 = w0 27 4 := by rw [e3]; exact bgU_nei (by decide)
    have g3_2 : w3 27 5 = w0 27 5 := by rw [e3]; exact bgU_nei (by decide)
    have g3_3 : w3 27 6 = w0 27 6 := by rw [e3]; exact bgU_nei (by decide)
    have g3_4 : w3 27 7 = w0 27 7 := by rw [e3]; exact bgU_nei (by decide)
    have g3_5 : w3 27 17 = w0 27 17 := by rw [e3]; exact bgU_nei (by decide)
    have g3_6 : w3 27 19 = w0 27 19 := by rw [e3]; exact bgU_nei (by decide)
    have g3_7 : w3 27 20 = w0 27 20 := by rw [e3]; exact bgU_nei (by decide)
    refine bg_aload_n C d_mo_abort_23 rfl rfl ?_
    refine bm_geti C cf_mo hI3 0 0 rfl rfl (by decide) rfl rfl tw_677 d_mo_abort_24 (fun v4 e4 a4 b4 => ?_)
    refine bg_if_le (tgt := 32) C d_mo_abort_27 (by decide) ⟨by omega, by omega⟩ (fun h5 => by exfalso; omega) (fun h5 => ?_)
    refine bg_iconst C d_mo_abort_30 ?_
    exact bg_iret C d_mo_abort_31 (fun h => by cases h) (Or.inl rfl) (Nat.zero_le _) (Nat.zero_le _) ⟨_, rfl, hI3, bmB_of A3_28 A3_29 A3_30 A3_34 (by omega) (by omega) (by omega) (by omega) (by omega) (by omega) (by omega) hB⟩
  · refine bg_aload_n C d_mo_abort_8 rfl rfl ?_
    refine bm_geti C cf_mo hI 6 6 rfl rfl (by decide) rfl rfl tw_683 d_mo_abort_9 (fun v6 e6 a6 b6 => ?_)
    refine bg_if_ne (tgt := 19) C d_mo_abort_12 (by decide) ⟨by omega, by omega⟩ (fun h7 => ?_) (fun h7 => ?_)
    · refine bg_iconst C d_mo_abort_19 ?_
      refine bm_puti C cf_mo hI 0 0 rfl rfl (by decide) rfl rfl rfl (by omega) (by omega) rfl (Or.inl rfl) tw_677 d_mo_abort_20 (fun w8 hI8 e8 => ?_)
      have A8_28 : ∀ i, w8 28 i = w0 28 i := fun i => by rw [e8]; exact bgU_ne i (by decide)
      have A8_29 : ∀ i, w8 29 i = w0 29 i := fun i => by rw [e8]; exact bgU_ne i (by decide)
      have A8_30 : ∀ i, w8 30 i = w0 30 i := fun i => by rw [e8]; exact bgU_ne i (by decide)
      have A8_34 : ∀ i, w8 34 i = w0 34 i := fun i => by rw [e8]; exact bgU_ne i (by decide)
      have g8_0 : w8 27 0 = 0 := by rw [e8]; exact bgU_eq
      have g8_1 : w8 27 4 = w0 27 4 := by rw [e8]; exact bgU_nei (by decide)
      have g8_2 : w8 27 5 = w0 27 5 := by rw [e8]; exact bgU_nei (by decide)
      have g8_3 : w8 27 6 = w0 27 6 := by rw [e8]; exact bgU_nei (by decide)
      have g8_4 : w8 27 7 = w0 27 7 := by rw [e8]; exact bgU_nei (by decide)
      have g8_5 : w8 27 17 = w0 27 17 := by rw [e8]; exact bgU_nei (by decide)
      have g8_6 : w8 27 19 = w0 27 19 := by rw [e8]; exact bgU_nei (by decide)
      have g8_7 : w8 27 20 = w0 27 20 := by rw [e8]; exact bgU_nei (by decide)
      refine bg_aload_n C d_mo_abort_23 rfl rfl ?_
      refine bm_geti C cf_mo hI8 0 0 rfl rfl (by decide) rfl rfl tw_677 d_mo_abort_24 (fun v9 e9 a9 b9 => ?_)
      refine bg_if_le (tgt := 32) C d_mo_abort_27 (by decide) ⟨by omega, by omega⟩ (fun h10 => ?_) (fun h10 => by exfalso; omega)
      refine bg_aload_n C d_mo_abort_32 rfl rfl ?_
      refine bg_iconst C d_mo_abort_33 ?_
      refine bm_puti C cf_mo hI8 6 6 rfl rfl (by decide) rfl rfl rfl (by omega) (by omega) rfl (Or.inr ⟨rfl, by omega⟩) tw_683 d_mo_abort_34 (fun w11 hI11 e11 => ?_)
      have A11_28 : ∀ i, w11 28 i = w0 28 i := fun i => by rw [e11]; exact (bgU_ne i (by decide)).trans (A8_28 i)
      have A11_29 : ∀ i, w11 29 i = w0 29 i := fun i => by rw [e11]; exact (bgU_ne i (by decide)).trans (A8_29 i)
      have A11_30 : ∀ i, w11 30 i = w0 30 i := fun i => by rw [e11]; exact (bgU_ne i (by decide)).trans (A8_30 i)
      have A11_34 : ∀ i, w11 34 i = w0 34 i := fun i => by rw [e11]; exact (bgU_ne i (by decide)).trans (A8_34 i)
      have g11_0 : w11 27 0 = w8 27 0 := by rw [e11]; exact bgU_nei (by decide)
      have g11_1 : w11 27 4 = w8 27 4 := by rw [e11]; exact bgU_nei (by decide)
      have g11_2 : w11 27 5 = w8 27 5 := by rw [e11]; exact bgU_nei (by decide)
      have g11_3 : w11 27 6 = 0 := by rw [e11]; exact bgU_eq
      have g11_4 : w11 27 7 = w8 27 7 := by rw [e11]; exact bgU_nei (by decide)
      have g11_5 : w11 27 17 = w8 27 17 := by rw [e11]; exact bgU_nei (by decide)
      have g11_6 : w11 27 19 = w8 27 19 := by rw [e11]; exact bgU_nei (by decide)
      have g11_7 : w11 27 20 = w8 27 20 := by rw [e11]; exact bgU_nei (by decide)
      refine bg_aload_n C d_mo_abort_37 rfl rfl ?_
      refine bg_aload_n C d_mo_abort_38 rfl rfl ?_
      refine bm_geti C cf_mo hI11 19 19 rfl rfl (by decide) rfl rfl tw_696 d_mo_abort_39 (fun v12 e12 a12 b12 => ?_)
      refine bg_if_ne (tgt := 52) C d_mo_abort_42 (by decide) ⟨by omega, by omega⟩ (fun h13 => ?_) (fun h13 => ?_)
      · refine bg_iconst C d_mo_abort_52 ?_
        refine bg_goto (l := 57) C d_mo_abort_53 (by decide) ?_
        refine bm_puti C cf_mo hI11 19 19 rfl rfl (by decide) rfl rfl rfl (by omega) (by omega) rfl (Or.inr ⟨rfl, by omega⟩) tw_696 d_mo_abort_57 (fun w14 hI14 e14 => ?_)
        have A14_28 : ∀ i, w14 28 i = w0 28 i := fun i => by rw [e14]; exact (bgU_ne i (by decide)).trans (A11_28 i)
        have A14_29 : ∀ i, w14 29 i = w0 29 i := fun i => by rw [e14]; exact (bgU_ne i (by decide)).trans (A11_29 i)
        have A14_30 : ∀ i, w14 30 i = w0 30 i := fun i => by rw [e14]; exact (bgU_ne i (by decide)).trans (A11_30 i)
        have A14_34 : ∀ i, w14 34 i = w0 34 i := fun i => by rw [e14]; exact (bgU_ne i (by decide)).trans (A11_34 i)
        have g14_0 : w14 27 0 = w11 27 0 := by rw [e14]; exact bgU_nei (by decide)
        have g14_1 : w14 27 4 = w11 27 4 := by rw [e14]; exact bgU_nei (by decide)
        have g14_2 : w14 27 5 = w11 27 5 := by rw [e14]; exact bgU_nei (by decide)
        have g14_3 : w14 27 6 = w11 27 6 := by rw [e14]; exact bgU_nei (by decide)
        have g14_4 : w14 27 7 = w11 27 7 := by rw [e14]; exact bgU_nei (by decide)
        have g14_5 : w14 27 17 = w11 27 17 := by rw [e14]; exact bgU_nei (by decide)
        have g14_6 : w14 27 19 = 1 := by rw [e14]; exact bgU_eq
        have g14_7 : w14 27 20 = w11 27 20 := by rw [e14]; exact bgU_nei (by decide)
        refine bg_aload_n C d_mo_abort_60 rfl rfl ?_
        refine bg_sipush C d_mo_abort_61 (by decide +kernel) ?_
        refine bg_iconst C d_mo_abort_64 ?_
        refine bg_cv C (m_mo_copy_vis hG hI14.1) (bg_invV C cf_mo rfl tw_803 ti_mo_copy ts_mo_copy tc_mo_copy tw_42 ⟨by decide, by decide⟩ (nA := 2) (by decide +kernel) rfl d_mo_abort_65 rfl) rfl (by rw [hR]; exact ⟨by decide, by decide⟩) (by rw [hR]; exact ⟨by decide, by decide⟩) (Nat.le_of_ble_eq_true rfl) rfl (fun w15 p15 => ?_)
        obtain ⟨j15, r15_0⟩ := p15
        have hI15 := hI14.trans j15 (by decide)
        have g15_0 : w15 27 0 = w14 27 0 := j15.2 27 0 rfl
        have g15_1 : w15 27 4 = w14 27 4 := j15.2 27 4 rfl
        have g15_2 : w15 27 5 = w14 27 5 := j15.2 27 5 rfl
        have g15_3 : w15 27 6 = w14 27 6 := j15.2 27 6 rfl
        have g15_4 : w15 27 7 = w14 27 7 := j15.2 27 7 rfl
        have g15_5 : w15 27 17 = w14 27 17 := j15.2 27 17 rfl
        have g15_6 : w15 27 19 = w14 27 19 := j15.2 27 19 rfl
        have g15_7 : w15 27 20 = w14 27 20 := j15.2 27 20 rfl
        have A15_34 : ∀ i, w15 34 i = w0 34 i := fun i => (j15.2 34 i rfl).trans (A14_34 i)
        have cE : bmE w15 := bmE_cp (w0 := w14) (to := 200) (fr := 0) (by omega) r15_0 (bmE_of A14_28 A14_30 hB.2.1)
        have cH : bmH w15 := bmH_cp (w0 := w14) (to := 200) (fr := 0) (by omega) r15_0
        have c28 : ∀ e, 0 ≤ e → e < 200 → w15 28 (200 + e) = w0 28 (e) := fun e h0 h1 => ((r15_0 28 e (by simp) h0 h1).1).trans ((A14_28 _).trans (by rw [Int.zero_add]))
        have c29 : ∀ e, 0 ≤ e → e < 200 → w15 29 (200 + e) = w0 29 (e) := fun e h0 h1 => ((r15_0 29 e (by simp) h0 h1).1).trans ((A14_29 _).trans (by rw [Int.zero_add]))
        have c30 : ∀ e, 0 ≤ e → e < 200 → w15 30 (200 + e) = w0 30 (e) := fun e h0 h1 => ((r15_0 30 e (by simp) h0 h1).1).trans ((A14_30 _).trans (by rw [Int.zero_add]))
        refine bg_aload_n C d_mo_abort_68 rfl rfl ?_
        refine bm_geti C cf_mo hI15 7 7 rfl rfl (by decide) rfl rfl tw_684 d_mo_abort_69 (fun v16 e16 a16 b16 => ?_)
        exact bg_iret C d_mo_abort_72 (fun h => by cases h) (Or.inl rfl) (Nat.zero_le _) (Nat.zero_le _) ⟨_, rfl, hI15, ⟨by omega, bmE_of (fun _ => rfl) (fun _ => rfl) cE, fun _ _ _ => bmH_of (fun _ => rfl) (fun _ => rfl) (fun _ => rfl) cH, by first | exact fun h => absurd h (by omega) | exact fun _ => bmTi_vis (fun e h0 h1 => ((fun _ => rfl) _).trans (c28 e h0 h1)) (fun e h0 h1 => ((fun _ => rfl) _).trans (c29 e h0 h1)) (fun e h0 h1 => ((fun _ => rfl) _).trans (c30 e h0 h1)) A15_34 (by omega) (hB.2.2.1 (by omega) (by omega) (Or.inr (by omega))) (hB.2.2.2 (by omega))⟩⟩
      · refine bg_aload_n C d_mo_abort_45 rfl rfl ?_
        refine bm_geti C cf_mo hI11 7 7 rfl rfl (by decide) rfl rfl tw_684 d_mo_abort_46 (fun v17 e17 a17 b17 => ?_)
        refine bg_if_le (tgt := 56) C d_mo_abort_49 (by decide) ⟨by omega, by omega⟩ (fun h18 => ?_) (fun h18 => ?_)
        · refine bg_iconst C d_mo_abort_56 ?_
          refine bm_puti C cf_mo hI11 19 19 rfl rfl (by decide) rfl rfl rfl (by omega) (by omega) rfl (Or.inr ⟨rfl, by omega⟩) tw_696 d_mo_abort_57 (fun w19 hI19 e19 => ?_)
          have A19_28 : ∀ i, w19 28 i = w0 28 i := fun i => by rw [e19]; exact (bgU_ne i (by decide)).trans (A11_28 i)
          have A19_29 : ∀ i, w19 29 i = w0 29 i := fun i => by rw [e19]; exact (bgU_ne i (by decide)).trans (A11_29 i)
          have A19_30 : ∀ i, w19 30 i = w0 30 i := fun i => by rw [e19]; exact (bgU_ne i (by decide)).trans (A11_30 i)
          have A19_34 : ∀ i, w19 34 i = w0 34 i := fun i => by rw [e19]; exact (bgU_ne i (by decide)).trans (A11_34 i)
          have g19_0 : w19 27 0 = w11 27 0 := by rw [e19]; exact bgU_nei (by decide)
          have g19_1 : w19 27 4 = w11 27 4 := by rw [e19]; exact bgU_nei (by decide)
          have g19_2 : w19 27 5 = w11 27 5 := by rw [e19]; exact bgU_nei (by decide)
          have g19_3 : w19 27 6 = w11 27 6 := by rw [e19]; exact bgU_nei (by decide)
          have g19_4 : w19 27 7 = w11 27 7 := by rw [e19]; exact bgU_nei (by decide)
          have g19_5 : w19 27 17 = w11 27 17 := by rw [e19]; exact bgU_nei (by decide)
          have g19_6 : w19 27 19 = 0 := by rw [e19]; exact bgU_eq
          have g19_7 : w19 27 20 = w11 27 20 := by rw [e19]; exact bgU_nei (by decide)
          refine bg_aload_n C d_mo_abort_60 rfl rfl ?_
          refine bg_sipush C d_mo_abort_61 (by decide +kernel) ?_
          refine bg_iconst C d_mo_abort_64 ?_
          refine bg_cv C (m_mo_copy_vis hG hI19.1) (bg_invV C cf_mo rfl tw_803 ti_mo_copy ts_mo_copy tc_mo_copy tw_42 ⟨by decide, by decide⟩ (nA := 2) (by decide +kernel) rfl d_mo_abort_65 rfl) rfl (by rw [hR]; exact ⟨by decide, by decide⟩) (by rw [hR]; exact ⟨by decide, by decide⟩) (Nat.le_of_ble_eq_true rfl) rfl (fun w20 p20 => ?_)
          obtain ⟨j20, r20_0⟩ := p20
          have hI20 := hI19.trans j20 (by decide)
          have g20_0 : w20 27 0 = w19 27 0 := j20.2 27 0 rfl
          have g20_1 : w20 27 4 = w19 27 4 := j20.2 27 4 rfl
          have g20_2 : w20 27 5 = w19 27 5 := j20.2 27 5 rfl
          have g20_3 : w20 27 6 = w19 27 6 := j20.2 27 6 rfl
          have g20_4 : w20 27 7 = w19 27 7 := j20.2 27 7 rfl
          have g20_5 : w20 27 17 = w19 27 17 := j20.2 27 17 rfl
          have g20_6 : w20 27 19 = w19 27 19 := j20.2 27 19 rfl
          have g20_7 : w20 27 20 = w19 27 20 := j20.2 27 20 rfl
          have A20_34 : ∀ i, w20 34 i = w0 34 i := fun i => (j20.2 34 i rfl).trans (A19_34 i)
          have cE : bmE w20 := bmE_cp (w0 := w19) (to := 200) (fr := 0) (by omega) r20_0 (bmE_of A19_28 A19_30 hB.2.1)
          have cH : bmH w20 := bmH_cp (w0 := w19) (to := 200) (fr := 0) (by omega) r20_0
          have c28 : ∀ e, 0 ≤ e → e < 200 → w20 28 (200 + e) = w0 28 (e) := fun e h0 h1 => ((r20_0 28 e (by simp) h0 h1).1).trans ((A19_28 _).trans (by rw [Int.zero_add]))
          have c29 : ∀ e, 0 ≤ e → e < 200 → w20 29 (200 + e) = w0 29 (e) := fun e h0 h1 => ((r20_0 29 e (by simp) h0 h1).1).trans ((A19_29 _).trans (by rw [Int.zero_add]))
          have c30 : ∀ e, 0 ≤ e → e < 200 → w20 30 (200 + e) = w0 30 (e) := fun e h0 h1 => ((r20_0 30 e (by simp) h0 h1).1).trans ((A19_30 _).trans (by rw [Int.zero_add]))
          refine bg_aload_n C d_mo_abort_68 rfl rfl ?_
          refine bm_geti C cf_mo hI20 7 7 rfl rfl (by decide) rfl rfl tw_684 d_mo_abort_69 (fun v21 e21 a21 b21 => ?_)
          exact bg_iret C d_mo_abort_72 (fun h => by cases h) (Or.inl rfl) (Nat.zero_le _) (Nat.zero_le _) ⟨_, rfl, hI20, ⟨by omega, bmE_of (fun _ => rfl) (fun _ => rfl) cE, fun _ _ _ => bmH_of (fun _ => rfl) (fun _ => rfl) (fun _ => rfl) cH, by first | exact fun h => absurd h (by omega) | exact fun _ => bmTi_vis (fun e h0 h1 => ((fun _ => rfl) _).trans (c28 e h0 h1)) (fun e h0 h1 => ((fun _ => rfl) _).trans (c29 e h0 h1)) (fun e h0 h1 => ((fun _ => rfl) _).trans (c30 e h0 h1)) A20_34 (by omega) (hB.2.2.1 (by omega) (by omega) (Or.inr (by omega))) (hB.2.2.2 (by omega))⟩⟩
        · refine bg_iconst C d_mo_abort_52 ?_
          refine bg_goto (l := 57) C d_mo_abort_53 (by decide) ?_
          refine bm_puti C cf_mo hI11 19 19 rfl rfl (by decide) rfl rfl rfl (by omega) (by omega) rfl (Or.inr ⟨rfl, by omega⟩) tw_696 d_mo_abort_57 (fun w22 hI22 e22 => ?_)
          have A22_28 : ∀ i, w22 28 i = w0 28 i := fun i => by rw [e22]; exact (bgU_ne i (by decide)).trans (A11_28 i)
          have A22_29 : ∀ i, w22 29 i = w0 29 i := fun i => by rw [e22]; exact (bgU_ne i (by decide)).trans (A11_29 i)
          have A22_30 : ∀ i, w22 30 i = w0 30 i := fun i => by rw [e22]; exact (bgU_ne i (by decide)).trans (A11_30 i)
          have A22_34 : ∀ i, w22 34 i = w0 34 i := fun i => by rw [e22]; exact (bgU_ne i (by decide)).trans (A11_34 i)
          have g22_0 : w22 27 0 = w11 27 0 := by rw [e22]; exact bgU_nei (by decide)
          have g22_1 : w22 27 4 = w11 27 4 := by rw [e22]; exact bgU_nei (by decide)
          have g22_2 : w22 27 5 = w11 27 5 := by rw [e22]; exact bgU_nei (by decide)
          have g22_3 : w22 27 6 = w11 27 6 := by rw [e22]; exact bgU_nei (by decide)
          have g22_4 : w22 27 7 = w11 27 7 := by rw [e22]; exact bgU_nei (by decide)
          have g22_5 : w22 27 17 = w11 27 17 := by rw [e22]; exact bgU_nei (by decide)
          have g22_6 : w22 27 19 = 1 := by rw [e22]; exact bgU_eq
          have g22_7 : w22 27 20 = w11 27 20 := by rw [e22]; exact bgU_nei (by decide)
          refine bg_aload_n C d_mo_abort_60 rfl rfl ?_
          refine bg_sipush C d_mo_abort_61 (by decide +kernel) ?_
          refine bg_iconst C d_mo_abort_64 ?_
          refine bg_cv C (m_mo_copy_vis hG hI22.1) (bg_invV C cf_mo rfl tw_803 ti_mo_copy ts_mo_copy tc_mo_copy tw_42 ⟨by decide, by decide⟩ (nA := 2) (by decide +kernel) rfl d_mo_abort_65 rfl) rfl (by rw [hR]; exact ⟨by decide, by decide⟩) (by rw [hR]; exact ⟨by decide, by decide⟩) (Nat.le_of_ble_eq_true rfl) rfl (fun w23 p23 => ?_)
          obtain ⟨j23, r23_0⟩ := p23
          have hI23 := hI22.trans j23 (by decide)
          have g23_0 : w23 27 0 = w22 27 0 := j23.2 27 0 rfl
          have g23_1 : w23 27 4 = w22 27 4 := j23.2 27 4 rfl
          have g23_2 : w23 27 5 = w22 27 5 := j23.2 27 5 rfl
          have g23_3 : w23 27 6 = w22 27 6 := j23.2 27 6 rfl
          have g23_4 : w23 27 7 = w22 27 7 := j23.2 27 7 rfl
          have g23_5 : w23 27 17 = w22 27 17 := j23.2 27 17 rfl
          have g23_6 : w23 27 19 = w22 27 19 := j23.2 27 19 rfl
          have g23_7 : w23 27 20 = w22 27 20 := j23.2 27 20 rfl
          have A23_34 : ∀ i, w23 34 i = w0 34 i := fun i => (j23.2 34 i rfl).trans (A22_34 i)
          have cE : bmE w23 := bmE_cp (w0 := w22) (to := 200) (fr := 0) (by omega) r23_0 (bmE_of A22_28 A22_30 hB.2.1)
          have cH : bmH w23 := bmH_cp (w0 := w22) (to := 200) (fr := 0) (by omega) r23_0
          have c28 : ∀ e, 0 ≤ e → e < 200 → w23 28 (200 + e) = w0 28 (e) := fun e h0 h1 => ((r23_0 28 e (by simp) h0 h1).1).trans ((A22_28 _).trans (by rw [Int.zero_add]))
          have c29 : ∀ e, 0 ≤ e → e < 200 → w23 29 (200 + e) = w0 29 (e) := fun e h0 h1 => ((r23_0 29 e (by simp) h0 h1).1).trans ((A22_29 _).trans (by rw [Int.zero_add]))
          have c30 : ∀ e, 0 ≤ e → e < 200 → w23 30 (200 + e) = w0 30 (e) := fun e h0 h1 => ((r23_0 30 e (by simp) h0 h1).1).trans ((A22_30 _).trans (by rw [Int.zero_add]))
          refine bg_aload_n C d_mo_abort_68 rfl rfl ?_
          refine bm_geti C cf_mo hI23 7 7 rfl rfl (by decide) rfl rfl tw_684 d_mo_abort_69 (fun v24 e24 a24 b24 => ?_)
          exact bg_iret C d_mo_abort_72 (fun h => by cases h) (Or.inl rfl) (Nat.zero_le _) (Nat.zero_le _) ⟨_, rfl, hI23, ⟨by omega, bmE_of (fun _ => rfl) (fun _ => rfl) cE, fun _ _ _ => bmH_of (fun _ => rfl) (fun _ => rfl) (fun _ => rfl) cH, by first | exact fun h => absurd h (by omega) | exact fun _ => bmTi_vis (fun e h0 h1 => ((fun _ => rfl) _).trans (c28 e h0 h1)) (fun e h0 h1 => ((fun _ => rfl) _).trans (c29 e h0 h1)) (fun e h0 h1 => ((fun _ => rfl) _).trans (c30 e h0 h1)) A23_34 (by omega) (hB.2.2.1 (by omega) (by omega) (Or.inr (by omega))) (hB.2.2.2 (by omega))⟩⟩
    · refine bg_iconst C d_mo_abort_15 ?_
      refine bg_goto (l := 20) C d_mo_abort_16 (by decide) ?_
      refine bm_puti C cf_mo hI 0 0 rfl rfl (by decide) rfl rfl rfl (by omega) (by omega) rfl (Or.inl rfl) tw_677 d_mo_abort_20 (fun w25 hI25 e25 => ?_)
      have A25_28 : ∀ i, w25 28 i = w0 28 i := fun i => by rw [e25]; exact bgU_ne i (by decide)
      have A25_29 : ∀ i, w25 29 i = w0 29 i := fun i => by rw [e25]; exact bgU_ne i (by decide)
      have A25_30 : ∀ i, w25 30 i = w0 30 i := fun i => by rw [e25]; exact bgU_ne i (by decide)
      have A25_34 : ∀ i, w25 34 i = w0 34 i := fun i => by rw [e25]; exact bgU_ne i (by decide)
      have g25_0 : w25 27 0 = 1 := by rw [e25]; exact bgU_eq
      have g25_1 : w25 27 4 = w0 27 4 := by rw [e25]; exact bgU_nei (by decide)
      have g25_2 : w25 27 5 = w0 27 5 := by rw [e25]; exact bgU_nei (by decide)
      have g25_3 : w25 27 6 = w0 27 6 := by rw [e25]; exact bgU_nei (by decide)
      have g25_4 : w25 27 7 = w0 27 7 := by rw [e25]; exact bgU_nei (by decide)
      have g25_5 : w25 27 17 = w0 27 17 := by rw [e25]; exact bgU_nei (by decide)
      have g25_6 : w25 27 19 = w0 27 19 := by rw [e25]; exact bgU_nei (by decide)
      have g25_7 : w25 27 20 = w0 27 20 := by rw [e25]; exact bgU_nei (by decide)
      refine bg_aload_n C d_mo_abort_23 rfl rfl ?_
      refine bm_geti C cf_mo hI25 0 0 rfl rfl (by decide) rfl rfl tw_677 d_mo_abort_24 (fun v26 e26 a26 b26 => ?_)
      refine bg_if_le (tgt := 32) C d_mo_abort_27 (by decide) ⟨by omega, by omega⟩ (fun h27 => by exfalso; omega) (fun h27 => ?_)
      refine bg_iconst C d_mo_abort_30 ?_
      exact bg_iret C d_mo_abort_31 (fun h => by cases h) (Or.inl rfl) (Nat.zero_le _) (Nat.zero_le _) ⟨_, rfl, hI25, bmB_of A25_28 A25_29 A25_30 A25_34 (by omega) (by omega) (by omega) (by omega) (by omega) (by omega) (by omega) hB⟩
def S_mo_arm : List (Nat × Option Int) := [(27, some 0), (27, some 13)]
def rm_mo_arm : Room := { frames := 0, cells := 0, slots := 0, locals := 0 }
set_option maxRecDepth 20000 in
set_option maxHeartbeats 4000000 in
theorem m_mo_arm {G : bgGl} (hG : bgOk G) {w0 : bgW} (hw : moN w0) {x : Int} (z0 : -2147483648 ≤ x) (z1 : x ≤ 2147483647) (z2 : bmB w0) : bgM G false 0 0 y_mo_arm (.code y_mo_arm co_mo_arm 2 none) rm_mo_arm [br 27, bi x] w0 (bgPv (fun w' => moRel S_mo_arm w0 w' ∧ (-1 ≤ x → w' 27 0 = 0) ∧ (x < -1 → w' 27 0 = 1) ∧ bmB w')) := by
  refine bg_met hG (by decide +kernel) (bg_cat rfl) (Nat.le_of_ble_eq_true rfl) ?_
  intro K hK hR hex C
  subst hK
  have hI := moRel.rfl (S := S_mo_arm) hw
  show bgX K true 0 0 _ w0 0 [some (br 27), some (bi x)] []
  have hB := z2
  have hB1 := hB.1
  have hs17 := hw 27 17 0 51 rfl
  have hs7 := hw 27 7 0 20 rfl
  have hs19 := hw 27 19 0 1 rfl
  have hs6 := hw 27 6 0 1 rfl
  have hs5 := hw 27 5 0 1 rfl
  refine bg_aload_n C d_mo_arm_0 rfl rfl ?_
  refine bg_iload_n C d_mo_arm_1 rfl rfl ?_
  refine bg_iconst C d_mo_arm_2 ?_
  refine bg_icmp_ge (tgt := 10) C d_mo_arm_3 (by decide) ⟨by omega, by omega⟩ ⟨by omega, by omega⟩ (fun h1 => ?_) (fun h1 => ?_)
  · refine bg_iconst C d_mo_arm_10 ?_
    refine bm_puti C cf_mo hI 0 0 rfl rfl (by decide) rfl rfl rfl (by omega) (by omega) rfl (Or.inl rfl) tw_677 d_mo_arm_11 (fun w2 hI2 e2 => ?_)
    have A2_28 : ∀ i, w2 28 i = w0 28 i := fun i => by rw [e2]; exact bgU_ne i (by decide)
    have A2_29 : ∀ i, w2 29 i = w0 29 i := fun i => by rw [e2]; exact bgU_ne i (by decide)
    have A2_30 : ∀ i, w2 30 i = w0 30 i := fun i => by rw [e2]; exact bgU_ne i (by decide)
    have A2_34 : ∀ i, w2 34 i = w0 34 i := fun i => by rw [e2]; exact bgU_ne i (by decide)
    have g2_0 : w2 27 0 = 0 := by rw [e2]; exact bgU_eq
    have g2_1 : w2 27 4 = w0 27 4 := by rw [e2]; exact bgU_nei (by decide)
    have g2_2 : w2 27 5 = w0 27 5 := by rw [e2]; exact bgU_nei (by decide)
    have g2_3 : w2 27 6 = w0 27 6 := by rw [e2]; exact bgU_nei (by decide)
    have g2_4 : w2 27 7 = w0 27 7 := by rw [e2]; exact bgU_nei (by decide)
    have g2_5 : w2 27 17 = w0 27 17 := by rw [e2]; exact bgU_nei (by decide)
    have g2_6 : w2 27 19 = w0 27 19 := by rw [e2]; exact bgU_nei (by decide)
    have g2_7 : w2 27 20 = w0 27 20 := by rw [e2]; exact bgU_nei (by decide)
    refine bg_aload_n C d_mo_arm_14 rfl rfl ?_
    refine bg_aload_n C d_mo_arm_15 rfl rfl ?_
    refine bm_geti C cf_mo hI2 0 0 rfl rfl (by decide) rfl rfl tw_677 d_mo_arm_16 (fun v3 e3 a3 b3 => ?_)
    refine bg_if_ne (tgt := 26) C d_mo_arm_19 (by decide) ⟨by omega, by omega⟩ (fun h4 => by exfalso; omega) (fun h4 => ?_)
    refine bg_iload_n C d_mo_arm_22 rfl rfl ?_
    refine bg_goto (l := 30) C d_mo_arm_23 (by decide) ?_
    refine bm_put0 C cf_mo hI2 13 13 rfl rfl (by decide) rfl rfl rfl rfl rfl tw_690 d_mo_arm_30 (fun w5 hI5 e5 => ?_)
    have A5_28 : ∀ i, w5 28 i = w0 28 i := fun i => by rw [e5]; exact (bgU_ne i (by decide)).trans (A2_28 i)
    have A5_29 : ∀ i, w5 29 i = w0 29 i := fun i => by rw [e5]; exact (bgU_ne i (by decide)).trans (A2_29 i)
    have A5_30 : ∀ i, w5 30 i = w0 30 i := fun i => by rw [e5]; exact (bgU_ne i (by decide)).trans (A2_30 i)
    have A5_34 : ∀ i, w5 34 i = w0 34 i := fun i => by rw [e5]; exact (bgU_ne i (by decide)).trans (A2_34 i)
    have g5_0 : w5 27 0 = w2 27 0 := by rw [e5]; exact bgU_nei (by decide)
    have g5_1 : w5 27 4 = w2 27 4 := by rw [e5]; exact bgU_nei (by decide)
    have g5_2 : w5 27 5 = w2 27 5 := by rw [e5]; exact bgU_nei (by decide)
    have g5_3 : w5 27 6 = w2 27 6 := by rw [e5]; exact bgU_nei (by decide)
    have g5_4 : w5 27 7 = w2 27 7 := by rw [e5]; exact bgU_nei (by decide)
    have g5_5 : w5 27 17 = w2 27 17 := by rw [e5]; exact bgU_nei (by decide)
    have g5_6 : w5 27 19 = w2 27 19 := by rw [e5]; exact bgU_nei (by decide)
    have g5_7 : w5 27 20 = w2 27 20 := by rw [e5]; exact bgU_nei (by decide)
    exact bg_ret C d_mo_arm_33 (fun h => by cases h) rfl (Nat.zero_le _) (Nat.zero_le _) ⟨rfl, hI5, by omega, by omega, bmB_of A5_28 A5_29 A5_30 A5_34 (by omega) (by omega) (by omega) (by omega) (by omega) (by omega) (by omega) hB⟩
  · refine bg_iconst C d_mo_arm_6 ?_
    refine bg_goto (l := 11) C d_mo_arm_7 (by decide) ?_
    refine bm_puti C cf_mo hI 0 0 rfl rfl (by decide) rfl rfl rfl (by omega) (by omega) rfl (Or.inl rfl) tw_677 d_mo_arm_11 (fun w6 hI6 e6 => ?_)
    have A6_28 : ∀ i, w6 28 i = w0 28 i := fun i => by rw [e6]; exact bgU_ne i (by decide)
    have A6_29 : ∀ i, w6 29 i = w0 29 i := fun i => by rw [e6]; exact bgU_ne i (by decide)
    have A6_30 : ∀ i, w6 30 i = w0 30 i := fun i => by rw [e6]; exact bgU_ne i (by decide)
    have A6_34 : ∀ i, w6 34 i = w0 34 i := fun i => by rw [e6]; exact bgU_ne i (by decide)
    have g6_0 : w6 27 0 = 1 := by rw [e6]; exact bgU_eq
    have g6_1 : w6 27 4 = w0 27 4 := by rw [e6]; exact bgU_nei (by decide)
    have g6_2 : w6 27 5 = w0 27 5 := by rw [e6]; exact bgU_nei (by decide)
    have g6_3 : w6 27 6 = w0 27 6 := by rw [e6]; exact bgU_nei (by decide)
    have g6_4 : w6 27 7 = w0 27 7 := by rw [e6]; exact bgU_nei (by decide)
    have g6_5 : w6 27 17 = w0 27 17 := by rw [e6]; exact bgU_nei (by decide)
    have g6_6 : w6 27 19 = w0 27 19 := by rw [e6]; exact bgU_nei (by decide)
    have g6_7 : w6 27 20 = w0 27 20 := by rw [e6]; exact bgU_nei (by decide)
    refine bg_aload_n C d_mo_arm_14 rfl rfl ?_
    refine bg_aload_n C d_mo_arm_15 rfl rfl ?_
    refine bm_geti C cf_mo hI6 0 0 rfl rfl (by decide) rfl rfl tw_677 d_mo_arm_16 (fun v7 e7 a7 b7 => ?_)
    refine bg_if_ne (tgt := 26) C d_mo_arm_19 (by decide) ⟨by omega, by omega⟩ (fun h8 => ?_) (fun h8 => by exfalso; omega)
    refine bg_aload_n C d_mo_arm_26 rfl rfl ?_
    refine bq_get0 C cf_mo 13 13 rfl rfl (by decide) rfl tw_690 d_mo_arm_27 (fun v9 e9 => ?_)
    refine bm_put0 C cf_mo hI6 13 13 rfl rfl (by decide) rfl rfl rfl rfl rfl tw_690 d_mo_arm_30 (fun w10 hI10 e10 => ?_)
    have A10_28 : ∀ i, w10 28 i = w0 28 i := fun i => by rw [e10]; exact (bgU_ne i (by decide)).trans (A6_28 i)
    have A10_29 : ∀ i, w10 29 i = w0 29 i := fun i => by rw [e10]; exact (bgU_ne i (by decide)).trans (A6_29 i)
    have A10_30 : ∀ i, w10 30 i = w0 30 i := fun i => by rw [e10]; exact (bgU_ne i (by decide)).trans (A6_30 i)
    have A10_34 : ∀ i, w10 34 i = w0 34 i := fun i => by rw [e10]; exact (bgU_ne i (by decide)).trans (A6_34 i)
    have g10_0 : w10 27 0 = w6 27 0 := by rw [e10]; exact bgU_nei (by decide)
    have g10_1 : w10 27 4 = w6 27 4 := by rw [e10]; exact bgU_nei (by decide)
    have g10_2 : w10 27 5 = w6 27 5 := by rw [e10]; exact bgU_nei (by decide)
    have g10_3 : w10 27 6 = w6 27 6 := by rw [e10]; exact bgU_nei (by decide)
    have g10_4 : w10 27 7 = w6 27 7 := by rw [e10]; exact bgU_nei (by decide)
    have g10_5 : w10 27 17 = w6 27 17 := by rw [e10]; exact bgU_nei (by decide)
    have g10_6 : w10 27 19 = w6 27 19 := by rw [e10]; exact bgU_nei (by decide)
    have g10_7 : w10 27 20 = w6 27 20 := by rw [e10]; exact bgU_nei (by decide)
    exact bg_ret C d_mo_arm_33 (fun h => by cases h) rfl (Nat.zero_le _) (Nat.zero_le _) ⟨rfl, hI10, by omega, by omega, bmB_of A10_28 A10_29 A10_30 A10_34 (by omega) (by omega) (by omega) (by omega) (by omega) (by omega) (by omega) hB⟩
def S_mo_recover : List (Nat × Option Int) := [(27, some 0), (27, some 19), (27, some 11), (27, some 12), (27, some 13), (27, some 5), (27, some 6), (27, some 14), (27, some 17), (27, some 10), (33, none), (28, none), (29, none), (30, none)]
def rm_mo_recover : Room := { frames := 2, cells := 0, slots := 0, locals := 45 }
set_option maxRecDepth 20000 in
set_option maxHeartbeats 4000000 in
theorem m_mo_recover {G : bgGl} (hG : bgOk G) {w0 : bgW} (hw : moN w0) (z0 : bmB w0) : bgM G false 0 0 y_mo_recover (.code y_mo_recover co_mo_recover 1 (some .int)) rm_mo_recover [br 27] w0 (bgPi (fun v w' => moRel S_mo_recover w0 w' ∧ bmB w')) := by
  refine bg_met hG (by decide +kernel) (bg_cat rfl) (Nat.le_of_ble_eq_true rfl) ?_
  intro K hK hR hex C
  subst hK
  have hI := moRel.rfl (S := S_mo_recover) hw
  show bgX K true 0 0 _ w0 0 [some (br 27)] []
  have hB := z0
  have hB1 := hB.1
  have hs17 := hw 27 17 0 51 rfl
  have hs7 := hw 27 7 0 20 rfl
  have hs19 := hw 27 19 0 1 rfl
  have hs6 := hw 27 6 0 1 rfl
  have hs5 := hw 27 5 0 1 rfl
  refine bg_aload_n C d_mo_recover_0 rfl rfl ?_
  refine bg_iconst C d_mo_recover_1 ?_
  refine bm_puti C cf_mo hI 0 0 rfl rfl (by decide) rfl rfl rfl (by omega) (by omega) rfl (Or.inl rfl) tw_677 d_mo_recover_2 (fun w1 hI1 e1 => ?_)
  have A1_28 : ∀ i, w1 28 i = w0 28 i := fun i => by rw [e1]; exact bgU_ne i (by decide)
  have A1_29 : ∀ i, w1 29 i = w0 29 i := fun i => by rw [e1]; exact bgU_ne i (by decide)
  have A1_30 : ∀ i, w1 30 i = w0 30 i := fun i => by rw [e1]; exact bgU_ne i (by decide)
  have A1_34 : ∀ i, w1 34 i = w0 34 i := fun i => by rw [e1]; exact bgU_ne i (by decide)
  have g1_0 : w1 27 0 = 0 := by rw [e1]; exact bgU_eq
  have g1_1 : w1 27 4 = w0 27 4 := by rw [e1]; exact bgU_nei (by decide)
  have g1_2 : w1 27 5 = w0 27 5 := by rw [e1]; exact bgU_nei (by decide)
  have g1_3 : w1 27 6 = w0 27 6 := by rw [e1]; exact bgU_nei (by decide)
  have g1_4 : w1 27 7 = w0 27 7 := by rw [e1]; exact bgU_nei (by decide)
  have g1_5 : w1 27 17 = w0 27 17 := by rw [e1]; exact bgU_nei (by decide)
  have g1_6 : w1 27 19 = w0 27 19 := by rw [e1]; exact bgU_nei (by decide)
  have g1_7 : w1 27 20 = w0 27 20 := by rw [e1]; exact bgU_nei (by decide)
  refine bg_aload_n C d_mo_recover_5 rfl rfl ?_
  refine bg_iconst C d_mo_recover_6 ?_
  refine bm_puti C cf_mo hI1 17 17 rfl rfl (by decide) rfl rfl rfl (by omega) (by omega) rfl (Or.inl rfl) tw_694 d_mo_recover_7 (fun w2 hI2 e2 => ?_)
  have A2_28 : ∀ i, w2 28 i = w0 28 i := fun i => by rw [e2]; exact (bgU_ne i (by decide)).trans (A1_28 i)
  have A2_29 : ∀ i, w2 29 i = w0 29 i := fun i => by rw [e2]; exact (bgU_ne i (by decide)).trans (A1_29 i)
  have A2_30 : ∀ i, w2 30 i = w0 30 i := fun i => by rw [e2]; exact (bgU_ne i (by decide)).trans (A1_30 i)
  have A2_34 : ∀ i, w2 34 i = w0 34 i := fun i => by rw [e2]; exact (bgU_ne i (by decide)).trans (A1_34 i)
  have g2_0 : w2 27 0 = w1 27 0 := by rw [e2]; exact bgU_nei (by decide)
  have g2_1 : w2 27 4 = w1 27 4 := by rw [e2]; exact bgU_nei (by decide)
  have g2_2 : w2 27 5 = w1 27 5 := by rw [e2]; exact bgU_nei (by decide)
  have g2_3 : w2 27 6 = w1 27 6 := by rw [e2]; exact bgU_nei (by decide)
  have g2_4 : w2 27 7 = w1 27 7 := by rw [e2]; exact bgU_nei (by decide)
  have g2_5 : w2 27 17 = 0 := by rw [e2]; exact bgU_eq
  have g2_6 : w2 27 19 = w1 27 19 := by rw [e2]; exact bgU_nei (by decide)
  have g2_7 : w2 27 20 = w1 27 20 := by rw [e2]; exact bgU_nei (by decide)
  refine bg_aload_n C d_mo_recover_10 rfl rfl ?_
  refine bg_iconst C d_mo_recover_11 ?_
  refine bm_puti C cf_mo hI2 6 6 rfl rfl (by decide) rfl rfl rfl (by omega) (by omega) rfl (Or.inr ⟨rfl, by omega⟩) tw_683 d_mo_recover_12 (fun w3 hI3 e3 => ?_)
  have A3_28 : ∀ i, w3 28 i = w0 28 i := fun i => by rw [e3]; exact (bgU_ne i (by decide)).trans (A2_28 i)
  have A3_29 : ∀ i, w3 29 i = w0 29 i := fun i => by rw [e3]; exact (bgU_ne i (by decide)).trans (A2_29 i)
  have A3_30 : ∀ i, w3 30 i = w0 30 i := fun i => by rw [e3]; exact (bgU_ne i (by decide)).trans (A2_30 i)
  have A3_34 : ∀ i, w3 34 i = w0 34 i := fun i => by rw [e3]; exact (bgU_ne i (by decide)).trans (A2_34 i)
  have g3_0 : w3 27 0 = w2 27 0 := by rw [e3]; exact bgU_nei (by decide)
  have g3_1 : w3 27 4 = w2 27 4 := by rw [e3]; exact bgU_nei (by decide)
  have g3_2 : w3 27 5 = w2 27 5 := by rw [e3]; exact bgU_nei (by decide)
  have g3_3 : w3 27 6 = 0 := by rw [e3]; exact bgU_eq
  have g3_4 : w3 27 7 = w2 27 7 := by rw [e3]; exact bgU_nei (by decide)
  have g3_5 : w3 27 17 = w2 27 17 := by rw [e3]; exact bgU_nei (by decide)
  have g3_6 : w3 27 19 = w2 27 19 := by rw [e3]; exact bgU_nei (by decide)
  have g3_7 : w3 27 20 = w2 27 20 := by rw [e3]; exact bgU_nei (by decide)
  refine bg_aload_n C d_mo_recover_15 rfl rfl ?_
  refine bg_iconst C d_mo_recover_16 ?_
  refine bm_puti C cf_mo hI3 19 19 rfl rfl (by decide) rfl rfl rfl (by omega) (by omega) rfl (Or.inr ⟨rfl, by omega⟩) tw_696 d_mo_recover_17 (fun w4 hI4 e4 => ?_)
  have A4_28 : ∀ i, w4 28 i = w0 28 i := fun i => by rw [e4]; exact (bgU_ne i (by decide)).trans (A3_28 i)
  have A4_29 : ∀ i, w4 29 i = w0 29 i := fun i => by rw [e4]; exact (bgU_ne i (by decide)).trans (A3_29 i)
  have A4_30 : ∀ i, w4 30 i = w0 30 i := fun i => by rw [e4]; exact (bgU_ne i (by decide)).trans (A3_30 i)
  have A4_34 : ∀ i, w4 34 i = w0 34 i := fun i => by rw [e4]; exact (bgU_ne i (by decide)).trans (A3_34 i)
  have g4_0 : w4 27 0 = w3 27 0 := by rw [e4]; exact bgU_nei (by decide)
  have g4_1 : w4 27 4 = w3 27 4 := by rw [e4]; exact bgU_nei (by decide)
  have g4_2 : w4 27 5 = w3 27 5 := by rw [e4]; exact bgU_nei (by decide)
  have g4_3 : w4 27 6 = w3 27 6 := by rw [e4]; exact bgU_nei (by decide)
  have g4_4 : w4 27 7 = w3 27 7 := by rw [e4]; exact bgU_nei (by decide)
  have g4_5 : w4 27 17 = w3 27 17 := by rw [e4]; exact bgU_nei (by decide)
  have g4_6 : w4 27 19 = 1 := by rw [e4]; exact bgU_eq
  have g4_7 : w4 27 20 = w3 27 20 := by rw [e4]; exact bgU_nei (by decide)
  refine bg_aload_n C d_mo_recover_20 rfl rfl ?_
  refine bm_geti C cf_mo hI4 4 4 rfl rfl (by decide) rfl rfl tw_681 d_mo_recover_21 (fun v5 e5 a5 b5 => ?_)
  refine bg_if_ne (tgt := 29) C d_mo_recover_24 (by decide) ⟨by omega, by omega⟩ (fun h6 => ?_) (fun h6 => ?_)
  · refine bg_aload_n C d_mo_recover_29 rfl rfl ?_
    refine bg_sipush C d_mo_recover_30 (by decide +kernel) ?_
    refine bg_iconst C d_mo_recover_33 ?_
    refine bg_cv C (m_mo_copy_vis hG hI4.1) (bg_invV C cf_mo rfl tw_803 ti_mo_copy ts_mo_copy tc_mo_copy tw_42 ⟨by decide, by decide⟩ (nA := 2) (by decide +kernel) rfl d_mo_recover_34 rfl) rfl (by rw [hR]; exact ⟨by decide, by decide⟩) (by rw [hR]; exact ⟨by decide, by decide⟩) (Nat.le_of_ble_eq_true rfl) rfl (fun w7 p7 => ?_)
    obtain ⟨j7, r7_0⟩ := p7
    have hI7 := hI4.trans j7 (by decide)
    have g7_0 : w7 27 0 = w4 27 0 := j7.2 27 0 rfl
    have g7_1 : w7 27 4 = w4 27 4 := j7.2 27 4 rfl
    have g7_2 : w7 27 5 = w4 27 5 := j7.2 27 5 rfl
    have g7_3 : w7 27 6 = w4 27 6 := j7.2 27 6 rfl
    have g7_4 : w7 27 7 = w4 27 7 := j7.2 27 7 rfl
    have g7_5 : w7 27 17 = w4 27 17 := j7.2 27 17 rfl
    have g7_6 : w7 27 19 = w4 27 19 := j7.2 27 19 rfl
    have g7_7 : w7 27 20 = w4 27 20 := j7.2 27 20 rfl
    have A7_34 : ∀ i, w7 34 i = w0 34 i := fun i => (j7.2 34 i rfl).trans (A4_34 i)
    have cE : bmE w7 := bmE_cp (w0 := w4) (to := 200) (fr := 0) (by omega) r7_0 (bmE_of A4_28 A4_30 hB.2.1)
    have cH : bmH w7 := bmH_cp (w0 := w4) (to := 200) (fr := 0) (by omega) r7_0
    have c28 : ∀ e, 0 ≤ e → e < 200 → w7 28 (200 + e) = w0 28 (e) := fun e h0 h1 => ((r7_0 28 e (by simp) h0 h1).1).trans ((A4_28 _).trans (by rw [Int.zero_add]))
    have c29 : ∀ e, 0 ≤ e → e < 200 → w7 29 (200 + e) = w0 29 (e) := fun e h0 h1 => ((r7_0 29 e (by simp) h0 h1).1).trans ((A4_29 _).trans (by rw [Int.zero_add]))
    have c30 : ∀ e, 0 ≤ e → e < 200 → w7 30 (200 + e) = w0 30 (e) := fun e h0 h1 => ((r7_0 30 e (by simp) h0 h1).1).trans ((A4_30 _).trans (by rw [Int.zero_add]))
    refine bg_aload_n C d_mo_recover_37 rfl rfl ?_
    refine bg_iconst C d_mo_recover_38 ?_
    refine bm_puti C cf_mo hI7 5 5 rfl rfl (by decide) rfl rfl rfl (by omega) (by omega) rfl (Or.inr ⟨rfl, by omega⟩) tw_682 d_mo_recover_39 (fun w8 hI8 e8 => ?_)
    have A8_28 : ∀ i, w8 28 i = w7 28 i := fun i => by rw [e8]; exact bgU_ne i (by decide)
    have A8_29 : ∀ i, w8 29 i = w7 29 i := fun i => by rw [e8]; exact bgU_ne i (by decide)
    have A8_30 : ∀ i, w8 30 i = w7 30 i := fun i => by rw [e8]; exact bgU_ne i (by decide)
    have A8_34 : ∀ i, w8 34 i = w0 34 i := fun i => by rw [e8]; exact (bgU_ne i (by decide)).trans (A7_34 i)
    have g8_0 : w8 27 0 = w7 27 0 := by rw [e8]; exact bgU_nei (by decide)
    have g8_1 : w8 27 4 = w7 27 4 := by rw [e8]; exact bgU_nei (by decide)
    have g8_2 : w8 27 5 = 0 := by rw [e8]; exact bgU_eq
    have g8_3 : w8 27 6 = w7 27 6 := by rw [e8]; exact bgU_nei (by decide)
    have g8_4 : w8 27 7 = w7 27 7 := by rw [e8]; exact bgU_nei (by decide)
    have g8_5 : w8 27 17 = w7 27 17 := by rw [e8]; exact bgU_nei (by decide)
    have g8_6 : w8 27 19 = w7 27 19 := by rw [e8]; exact bgU_nei (by decide)
    have g8_7 : w8 27 20 = w7 27 20 := by rw [e8]; exact bgU_nei (by decide)
    refine bg_aload_n C d_mo_recover_42 rfl rfl ?_
    refine bm_geti C cf_mo hI8 10 10 rfl rfl (by decide) rfl rfl tw_687 d_mo_recover_43 (fun v9 e9 a9 b9 => ?_)
    refine bg_if_eq (tgt := 58) C d_mo_recover_46 (by decide) ⟨by omega, by omega⟩ (fun h10 => ?_) (fun h10 => ?_)
    · refine bg_aload_n C d_mo_recover_58 rfl rfl ?_
      refine bg_dup C d_mo_recover_59 rfl ?_
      refine bq_get0 C cf_mo 11 11 rfl rfl (by decide) rfl tw_688 d_mo_recover_60 (fun v11 e11 => ?_)
      refine bg_aload_n C d_mo_recover_63 rfl rfl ?_
      refine bq_get0 C cf_mo 12 12 rfl rfl (by decide) rfl tw_689 d_mo_recover_64 (fun v12 e12 => ?_)
      refine bg_iadd C d_mo_recover_67 ?_
      refine bm_put0 C cf_mo hI8 11 11 rfl rfl (by decide) rfl rfl rfl rfl rfl tw_688 d_mo_recover_68 (fun w13 hI13 e13 => ?_)
      have A13_28 : ∀ i, w13 28 i = w7 28 i := fun i => by rw [e13]; exact (bgU_ne i (by decide)).trans (A8_28 i)
      have A13_29 : ∀ i, w13 29 i = w7 29 i := fun i => by rw [e13]; exact (bgU_ne i (by decide)).trans (A8_29 i)
      have A13_30 : ∀ i, w13 30 i = w7 30 i := fun i => by rw [e13]; exact (bgU_ne i (by decide)).trans (A8_30 i)
      have A13_34 : ∀ i, w13 34 i = w0 34 i := fun i => by rw [e13]; exact (bgU_ne i (by decide)).trans (A8_34 i)
      have g13_0 : w13 27 0 = w8 27 0 := by rw [e13]; exact bgU_nei (by decide)
      have g13_1 : w13 27 4 = w8 27 4 := by rw [e13]; exact bgU_nei (by decide)
      have g13_2 : w13 27 5 = w8 27 5 := by rw [e13]; exact bgU_nei (by decide)
      have g13_3 : w13 27 6 = w8 27 6 := by rw [e13]; exact bgU_nei (by decide)
      have g13_4 : w13 27 7 = w8 27 7 := by rw [e13]; exact bgU_nei (by decide)
      have g13_5 : w13 27 17 = w8 27 17 := by rw [e13]; exact bgU_nei (by decide)
      have g13_6 : w13 27 19 = w8 27 19 := by rw [e13]; exact bgU_nei (by decide)
      have g13_7 : w13 27 20 = w8 27 20 := by rw [e13]; exact bgU_nei (by decide)
      refine bg_aload_n C d_mo_recover_71 rfl rfl ?_
      refine bg_iconst C d_mo_recover_72 ?_
      refine bm_put0 C cf_mo hI13 12 12 rfl rfl (by decide) rfl rfl rfl rfl rfl tw_689 d_mo_recover_73 (fun w14 hI14 e14 => ?_)
      have A14_28 : ∀ i, w14 28 i = w7 28 i := fun i => by rw [e14]; exact (bgU_ne i (by decide)).trans (A13_28 i)
      have A14_29 : ∀ i, w14 29 i = w7 29 i := fun i => by rw [e14]; exact (bgU_ne i (by decide)).trans (A13_29 i)
      have A14_30 : ∀ i, w14 30 i = w7 30 i := fun i => by rw [e14]; exact (bgU_ne i (by decide)).trans (A13_30 i)
      have A14_34 : ∀ i, w14 34 i = w0 34 i := fun i => by rw [e14]; exact (bgU_ne i (by decide)).trans (A13_34 i)
      have g14_0 : w14 27 0 = w13 27 0 := by rw [e14]; exact bgU_nei (by decide)
      have g14_1 : w14 27 4 = w13 27 4 := by rw [e14]; exact bgU_nei (by decide)
      have g14_2 : w14 27 5 = w13 27 5 := by rw [e14]; exact bgU_nei (by decide)
      have g14_3 : w14 27 6 = w13 27 6 := by rw [e14]; exact bgU_nei (by decide)
      have g14_4 : w14 27 7 = w13 27 7 := by rw [e14]; exact bgU_nei (by decide)
      have g14_5 : w14 27 17 = w13 27 17 := by rw [e14]; exact bgU_nei (by decide)
      have g14_6 : w14 27 19 = w13 27 19 := by rw [e14]; exact bgU_nei (by decide)
      have g14_7 : w14 27 20 = w13 27 20 := by rw [e14]; exact bgU_nei (by decide)
      refine bg_iconst C d_mo_recover_76 ?_
      exact bg_iret C d_mo_recover_77 (fun h => by cases h) (Or.inl rfl) (Nat.zero_le _) (Nat.zero_le _) ⟨_, rfl, hI14, bmB_5 (bmE_of A14_28 A14_30 cE) (bmH_of A14_28 A14_29 A14_30 cH) (by omega) (by omega)⟩
    · refine bg_aload_n C d_mo_recover_49 rfl rfl ?_
      refine bg_ci C (m_mo_isHome hG hI8.1 (by omega)) (bg_invV C cf_mo rfl tw_807 ti_mo_isHome ts_mo_isHome tc_mo_isHome tw_42 ⟨by decide, by decide⟩ (nA := 0) (by decide +kernel) rfl d_mo_recover_50 rfl) rfl (by rw [hR]; exact ⟨by decide, by decide⟩) (by rw [hR]; exact ⟨by decide, by decide⟩) (Nat.le_of_ble_eq_true rfl) rfl (fun v15 w15 p15 => ?_)
      obtain ⟨j15, r15_0, r15_1, r15_2, r15_3, r15_4, r15_5⟩ := p15
      have hI15 := hI8.trans j15 (by decide)
      have g15_0 : w15 27 0 = w8 27 0 := j15.2 27 0 rfl
      have g15_1 : w15 27 4 = w8 27 4 := j15.2 27 4 rfl
      have g15_4 : w15 27 7 = w8 27 7 := j15.2 27 7 rfl
      have g15_6 : w15 27 19 = w8 27 19 := j15.2 27 19 rfl
      have g15_7 : w15 27 20 = w8 27 20 := j15.2 27 20 rfl
      have A15_28 : ∀ i, w15 28 i = w7 28 i := fun i => (j15.2 28 i rfl).trans (A8_28 i)
      have A15_29 : ∀ i, w15 29 i = w7 29 i := fun i => (j15.2 29 i rfl).trans (A8_29 i)
      have A15_30 : ∀ i, w15 30 i = w7 30 i := fun i => (j15.2 30 i rfl).trans (A8_30 i)
      have A15_34 : ∀ i, w15 34 i = w0 34 i := fun i => (j15.2 34 i rfl).trans (A8_34 i)
      refine bg_if_ne (tgt := 58) C d_mo_recover_53 (by decide) ⟨by omega, by omega⟩ (fun h16 => ?_) (fun h16 => ?_)
      · refine bg_aload_n C d_mo_recover_58 rfl rfl ?_
        refine bg_dup C d_mo_recover_59 rfl ?_
        refine bq_get0 C cf_mo 11 11 rfl rfl (by decide) rfl tw_688 d_mo_recover_60 (fun v17 e17 => ?_)
        refine bg_aload_n C d_mo_recover_63 rfl rfl ?_
        refine bq_get0 C cf_mo 12 12 rfl rfl (by decide) rfl tw_689 d_mo_recover_64 (fun v18 e18 => ?_)
        refine bg_iadd C d_mo_recover_67 ?_
        refine bm_put0 C cf_mo hI15 11 11 rfl rfl (by decide) rfl rfl rfl rfl rfl tw_688 d_mo_recover_68 (fun w19 hI19 e19 => ?_)
        have A19_28 : ∀ i, w19 28 i = w7 28 i := fun i => by rw [e19]; exact (bgU_ne i (by decide)).trans (A15_28 i)
        have A19_29 : ∀ i, w19 29 i = w7 29 i := fun i => by rw [e19]; exact (bgU_ne i (by decide)).trans (A15_29 i)
        have A19_30 : ∀ i, w19 30 i = w7 30 i := fun i => by rw [e19]; exact (bgU_ne i (by decide)).trans (A15_30 i)
        have A19_34 : ∀ i, w19 34 i = w0 34 i := fun i => by rw [e19]; exact (bgU_ne i (by decide)).trans (A15_34 i)
        have g19_0 : w19 27 0 = w15 27 0 := by rw [e19]; exact bgU_nei (by decide)
        have g19_1 : w19 27 4 = w15 27 4 := by rw [e19]; exact bgU_nei (by decide)
        have g19_2 : w19 27 5 = w15 27 5 := by rw [e19]; exact bgU_nei (by decide)
        have g19_3 : w19 27 6 = w15 27 6 := by rw [e19]; exact bgU_nei (by decide)
        have g19_4 : w19 27 7 = w15 27 7 := by rw [e19]; exact bgU_nei (by decide)
        have g19_5 : w19 27 17 = w15 27 17 := by rw [e19]; exact bgU_nei (by decide)
        have g19_6 : w19 27 19 = w15 27 19 := by rw [e19]; exact bgU_nei (by decide)
        have g19_7 : w19 27 20 = w15 27 20 := by rw [e19]; exact bgU_nei (by decide)
        refine bg_aload_n C d_mo_recover_71 rfl rfl ?_
        refine bg_iconst C d_mo_recover_72 ?_
        refine bm_put0 C cf_mo hI19 12 12 rfl rfl (by decide) rfl rfl rfl rfl rfl tw_689 d_mo_recover_73 (fun w20 hI20 e20 => ?_)
        have A20_28 : ∀ i, w20 28 i = w7 28 i := fun i => by rw [e20]; exact (bgU_ne i (by decide)).trans (A19_28 i)
        have A20_29 : ∀ i, w20 29 i = w7 29 i := fun i => by rw [e20]; exact (bgU_ne i (by decide)).trans (A19_29 i)
        have A20_30 : ∀ i, w20 30 i = w7 30 i := fun i => by rw [e20]; exact (bgU_ne i (by decide)).trans (A19_30 i)
        have A20_34 : ∀ i, w20 34 i = w0 34 i := fun i => by rw [e20]; exact (bgU_ne i (by decide)).trans (A19_34 i)
        have g20_0 : w20 27 0 = w19 27 0 := by rw [e20]; exact bgU_nei (by decide)
        have g20_1 : w20 27 4 = w19 27 4 := by rw [e20]; exact bgU_nei (by decide)
        have g20_2 : w20 27 5 = w19 27 5 := by rw [e20]; exact bgU_nei (by decide)
        have g20_3 : w20 27 6 = w19 27 6 := by rw [e20]; exact bgU_nei (by decide)
        have g20_4 : w20 27 7 = w19 27 7 := by rw [e20]; exact bgU_nei (by decide)
        have g20_5 : w20 27 17 = w19 27 17 := by rw [e20]; exact bgU_nei (by decide)
        have g20_6 : w20 27 19 = w19 27 19 := by rw [e20]; exact bgU_nei (by decide)
        have g20_7 : w20 27 20 = w19 27 20 := by rw [e20]; exact bgU_nei (by decide)
        refine bg_iconst C d_mo_recover_76 ?_
        exact bg_iret C d_mo_recover_77 (fun h => by cases h) (Or.inl rfl) (Nat.zero_le _) (Nat.zero_le _) ⟨_, rfl, hI20, bmB_5 (bmE_of A20_28 A20_30 cE) (bmH_of A20_28 A20_29 A20_30 cH) (by omega) (by omega)⟩
      · refine bg_iconst C d_mo_recover_56 ?_
        exact bg_iret C d_mo_recover_57 (fun h => by cases h) (Or.inl rfl) (Nat.zero_le _) (Nat.zero_le _) ⟨_, rfl, hI15, bmB_5 (bmE_of A15_28 A15_30 cE) (bmH_of A15_28 A15_29 A15_30 cH) (by omega) (by omega)⟩
  · refine bg_iconst C d_mo_recover_27 ?_
    exact bg_iret C d_mo_recover_28 (fun h => by cases h) (Or.inl rfl) (Nat.zero_le _) (Nat.zero_le _) ⟨_, rfl, hI4, bmB_4 (bmE_of A4_28 A4_30 hB.2.1) (by omega) (by omega) (by omega)⟩
def S_mo_edge : List (Nat × Option Int) := [(27, some 0), (27, some 17), (27, some 15), (33, none)]
def rm_mo_edge : Room := { frames := 2, cells := 0, slots := 0, locals := 45 }
set_option maxRecDepth 20000 in
set_option maxHeartbeats 4000000 in
theorem m_mo_edge {G : bgGl} (hG : bgOk G) {w0 : bgW} (hw : moN w0) {e x : Int} (z0 : -2147483648 ≤ e) (z1 : e ≤ 2147483647) (z2 : -2147483648 ≤ x) (z3 : x ≤ 2147483647) (z4 : bmB w0) : bgM G false 0 0 y_mo_edge (.code y_mo_edge co_mo_edge 3 (some .int)) rm_mo_edge [br 27, bi e, bi x] w0 (bgPi (fun v w' => moRel S_mo_edge w0 w' ∧ bmB w')) := by
  refine bg_met hG (by decide +kernel) (bg_cat rfl) (Nat.le_of_ble_eq_true rfl) ?_
  intro K hK hR hex C
  subst hK
  have hI := moRel.rfl (S := S_mo_edge) hw
  show bgX K true 0 0 _ w0 0 [some (br 27), some (bi e), some (bi x)] []
  have hB := z4
  have hB1 := hB.1
  have hs17 := hw 27 17 0 51 rfl
  have hs7 := hw 27 7 0 20 rfl
  have hs19 := hw 27 19 0 1 rfl
  have hs6 := hw 27 6 0 1 rfl
  have hs5 := hw 27 5 0 1 rfl
  refine bg_aload_n C d_mo_edge_0 rfl rfl ?_
  refine bg_aload_n C d_mo_edge_1 rfl rfl ?_
  refine bg_ci C (m_mo_isDown hG hI.1) (bg_invV C cf_mo rfl tw_776 ti_mo_isDown ts_mo_isDown tc_mo_isDown tw_42 ⟨by decide, by decide⟩ (nA := 0) (by decide +kernel) rfl d_mo_edge_2 rfl) rfl (by rw [hR]; exact ⟨by decide, by decide⟩) (by rw [hR]; exact ⟨by decide, by decide⟩) (Nat.le_of_ble_eq_true rfl) rfl (fun v1 w1 p1 => ?_)
  obtain ⟨rfl, r1_0, r1_1, r1_2, r1_3⟩ := p1
  refine bg_if_eq (tgt := 12) C d_mo_edge_5 (by decide) ⟨by omega, by omega⟩ (fun h2 => ?_) (fun h2 => ?_)
  · refine bg_aload_n C d_mo_edge_12 rfl rfl ?_
    refine bg_iload_n C d_mo_edge_13 rfl rfl ?_
    refine bg_ci C (m_mo_isVisible hG hI.1 (by omega) (by omega)) (bg_invV C cf_mo rfl tw_795 ti_mo_isVisible ts_mo_isVisible tc_mo_isVisible tw_42 ⟨by decide, by decide⟩ (nA := 1) (by decide +kernel) rfl d_mo_edge_14 rfl) rfl (by rw [hR]; exact ⟨by decide, by decide⟩) (by rw [hR]; exact ⟨by decide, by decide⟩) (Nat.le_of_ble_eq_true rfl) rfl (fun v3 w3 p3 => ?_)
    obtain ⟨rfl, r3_0, r3_1, r3_2⟩ := p3
    refine bg_if_ne (tgt := 24) C d_mo_edge_17 (by decide) ⟨by omega, by omega⟩ (fun h4 => ?_) (fun h4 => ?_)
    · refine bg_iload_n C d_mo_edge_24 rfl rfl ?_
      refine bg_if_lt (tgt := 33) C d_mo_edge_25 (by decide) ⟨by omega, by omega⟩ (fun h5 => ?_) (fun h5 => ?_)
      · refine bg_iconst C d_mo_edge_33 ?_
        refine bg_goto (l := 38) C d_mo_edge_34 (by decide) ?_
        refine bm_puti C cf_mo hI 0 0 rfl rfl (by decide) rfl rfl rfl (by omega) (by omega) rfl (Or.inl rfl) tw_677 d_mo_edge_38 (fun w6 hI6 e6 => ?_)
        have A6_28 : ∀ i, w6 28 i = w0 28 i := fun i => by rw [e6]; exact bgU_ne i (by decide)
        have A6_29 : ∀ i, w6 29 i = w0 29 i := fun i => by rw [e6]; exact bgU_ne i (by decide)
        have A6_30 : ∀ i, w6 30 i = w0 30 i := fun i => by rw [e6]; exact bgU_ne i (by decide)
        have A6_34 : ∀ i, w6 34 i = w0 34 i := fun i => by rw [e6]; exact bgU_ne i (by decide)
        have g6_0 : w6 27 0 = 3 := by rw [e6]; exact bgU_eq
        have g6_1 : w6 27 4 = w0 27 4 := by rw [e6]; exact bgU_nei (by decide)
        have g6_2 : w6 27 5 = w0 27 5 := by rw [e6]; exact bgU_nei (by decide)
        have g6_3 : w6 27 6 = w0 27 6 := by rw [e6]; exact bgU_nei (by decide)
        have g6_4 : w6 27 7 = w0 27 7 := by rw [e6]; exact bgU_nei (by decide)
        have g6_5 : w6 27 17 = w0 27 17 := by rw [e6]; exact bgU_nei (by decide)
        have g6_6 : w6 27 19 = w0 27 19 := by rw [e6]; exact bgU_nei (by decide)
        have g6_7 : w6 27 20 = w0 27 20 := by rw [e6]; exact bgU_nei (by decide)
        refine bg_aload_n C d_mo_edge_41 rfl rfl ?_
        refine bm_geti C cf_mo hI6 0 0 rfl rfl (by decide) rfl rfl tw_677 d_mo_edge_42 (fun v7 e7 a7 b7 => ?_)
        refine bg_if_le (tgt := 50) C d_mo_edge_45 (by decide) ⟨by omega, by omega⟩ (fun h8 => by exfalso; omega) (fun h8 => ?_)
        refine bg_iconst C d_mo_edge_48 ?_
        exact bg_iret C d_mo_edge_49 (fun h => by cases h) (Or.inl rfl) (Nat.zero_le _) (Nat.zero_le _) ⟨_, rfl, hI6, bmB_of A6_28 A6_29 A6_30 A6_34 (by omega) (by omega) (by omega) (by omega) (by omega) (by omega) (by omega) hB⟩
      · refine bg_iload_n C d_mo_edge_28 rfl rfl ?_
        refine bg_iconst C d_mo_edge_29 ?_
        refine bg_icmp_le (tgt := 37) C d_mo_edge_30 (by decide) ⟨by omega, by omega⟩ ⟨by omega, by omega⟩ (fun h9 => ?_) (fun h9 => ?_)
        · refine bg_iconst C d_mo_edge_37 ?_
          refine bm_puti C cf_mo hI 0 0 rfl rfl (by decide) rfl rfl rfl (by omega) (by omega) rfl (Or.inl rfl) tw_677 d_mo_edge_38 (fun w10 hI10 e10 => ?_)
          have A10_28 : ∀ i, w10 28 i = w0 28 i := fun i => by rw [e10]; exact bgU_ne i (by decide)
          have A10_29 : ∀ i, w10 29 i = w0 29 i := fun i => by rw [e10]; exact bgU_ne i (by decide)
          have A10_30 : ∀ i, w10 30 i = w0 30 i := fun i => by rw [e10]; exact bgU_ne i (by decide)
          have A10_34 : ∀ i, w10 34 i = w0 34 i := fun i => by rw [e10]; exact bgU_ne i (by decide)
          have g10_0 : w10 27 0 = 0 := by rw [e10]; exact bgU_eq
          have g10_1 : w10 27 4 = w0 27 4 := by rw [e10]; exact bgU_nei (by decide)
          have g10_2 : w10 27 5 = w0 27 5 := by rw [e10]; exact bgU_nei (by decide)
          have g10_3 : w10 27 6 = w0 27 6 := by rw [e10]; exact bgU_nei (by decide)
          have g10_4 : w10 27 7 = w0 27 7 := by rw [e10]; exact bgU_nei (by decide)
          have g10_5 : w10 27 17 = w0 27 17 := by rw [e10]; exact bgU_nei (by decide)
          have g10_6 : w10 27 19 = w0 27 19 := by rw [e10]; exact bgU_nei (by decide)
          have g10_7 : w10 27 20 = w0 27 20 := by rw [e10]; exact bgU_nei (by decide)
          refine bg_aload_n C d_mo_edge_41 rfl rfl ?_
          refine bm_geti C cf_mo hI10 0 0 rfl rfl (by decide) rfl rfl tw_677 d_mo_edge_42 (fun v11 e11 a11 b11 => ?_)
          refine bg_if_le (tgt := 50) C d_mo_edge_45 (by decide) ⟨by omega, by omega⟩ (fun h12 => ?_) (fun h12 => by exfalso; omega)
          refine bg_aload_n C d_mo_edge_50 rfl rfl ?_
          refine bg_iload_n C d_mo_edge_51 rfl rfl ?_
          refine bg_iconst C d_mo_edge_52 ?_
          refine bg_idiv C d_mo_edge_53 (by omega) (by omega) (by omega) (by omega) ?_
          refine bg_cv C (m_mo_look hG hI10.1 (by omega)) (bg_invV C cf_mo rfl tw_827 ti_mo_look ts_mo_look tc_mo_look tw_42 ⟨by decide, by decide⟩ (nA := 1) (by decide +kernel) rfl d_mo_edge_54 rfl) rfl (by rw [hR]; exact ⟨by decide, by decide⟩) (by rw [hR]; exact ⟨by decide, by decide⟩) (Nat.le_of_ble_eq_true rfl) rfl (fun w13 p13 => ?_)
          obtain ⟨j13, r13_0⟩ := p13
          have hI13 := hI10.trans j13 (by decide)
          have g13_0 : w13 27 0 = w10 27 0 := j13.2 27 0 rfl
          have g13_1 : w13 27 4 = w10 27 4 := j13.2 27 4 rfl
          have g13_2 : w13 27 5 = w10 27 5 := j13.2 27 5 rfl
          have g13_3 : w13 27 6 = w10 27 6 := j13.2 27 6 rfl
          have g13_4 : w13 27 7 = w10 27 7 := j13.2 27 7 rfl
          have g13_6 : w13 27 19 = w10 27 19 := j13.2 27 19 rfl
          have g13_7 : w13 27 20 = w10 27 20 := j13.2 27 20 rfl
          have A13_28 : ∀ i, w13 28 i = w0 28 i := fun i => (j13.2 28 i rfl).trans (A10_28 i)
          have A13_29 : ∀ i, w13 29 i = w0 29 i := fun i => (j13.2 29 i rfl).trans (A10_29 i)
          have A13_30 : ∀ i, w13 30 i = w0 30 i := fun i => (j13.2 30 i rfl).trans (A10_30 i)
          have A13_34 : ∀ i, w13 34 i = w0 34 i := fun i => (j13.2 34 i rfl).trans (A10_34 i)
          refine bg_iload_n C d_mo_edge_57 rfl rfl ?_
          refine bg_if_ne (tgt := 74) C d_mo_edge_58 (by decide) ⟨by omega, by omega⟩ (fun h14 => ?_) (fun h14 => ?_)
          · refine bg_iload_n C d_mo_edge_74 rfl rfl ?_
            refine bg_iconst C d_mo_edge_75 ?_
            refine bg_icmp_ne (tgt := 92) C d_mo_edge_76 (by decide) ⟨by omega, by omega⟩ ⟨by omega, by omega⟩ (fun h15 => ?_) (fun h15 => ?_)
            · refine bg_aload_n C d_mo_edge_92 rfl rfl ?_
              refine bg_getr (i := 3) C cf_mo rfl (by decide) rfl tw_680 d_mo_edge_93 ?_
              refine bg_sipush C d_mo_edge_96 (by decide +kernel) ?_
              refine bg_iload_n C d_mo_edge_99 rfl rfl ?_
              refine bg_iadd C d_mo_edge_100 ?_
              refine bm_iald C hI13 rfl rfl (by omega) (by omega) d_mo_edge_101 (fun v16 e16 a16 b16 => ?_)
              exact bg_iret C d_mo_edge_102 (fun h => by cases h) (Or.inl rfl) (Nat.zero_le _) (Nat.zero_le _) ⟨_, rfl, hI13, bmB_of A13_28 A13_29 A13_30 A13_34 (by omega) (by omega) (by omega) (by omega) (by omega) (by omega) (by omega) hB⟩
            · refine bg_aload_n C d_mo_edge_79 rfl rfl ?_
              refine bg_getr (i := 2) C cf_mo rfl (by decide) rfl tw_679 d_mo_edge_80 ?_
              refine bg_sipush C d_mo_edge_83 (by decide +kernel) ?_
              refine bg_iload_n C d_mo_edge_86 rfl rfl ?_
              refine bg_iadd C d_mo_edge_87 ?_
              refine bm_iald C hI13 rfl rfl (by omega) (by omega) d_mo_edge_88 (fun v17 e17 a17 b17 => ?_)
              refine bg_goto (l := 102) C d_mo_edge_89 (by decide) ?_
              exact bg_iret C d_mo_edge_102 (fun h => by cases h) (Or.inl rfl) (Nat.zero_le _) (Nat.zero_le _) ⟨_, rfl, hI13, bmB_of A13_28 A13_29 A13_30 A13_34 (by omega) (by omega) (by omega) (by omega) (by omega) (by omega) (by omega) hB⟩
          · refine bg_aload_n C d_mo_edge_61 rfl rfl ?_
            refine bg_getr (i := 1) C cf_mo rfl (by decide) rfl tw_678 d_mo_edge_62 ?_
            refine bg_sipush C d_mo_edge_65 (by decide +kernel) ?_
            refine bg_iload_n C d_mo_edge_68 rfl rfl ?_
            refine bg_iadd C d_mo_edge_69 ?_
            refine bm_iald C hI13 rfl rfl (by omega) (by omega) d_mo_edge_70 (fun v18 e18 a18 b18 => ?_)
            refine bg_goto (l := 102) C d_mo_edge_71 (by decide) ?_
            exact bg_iret C d_mo_edge_102 (fun h => by cases h) (Or.inl rfl) (Nat.zero_le _) (Nat.zero_le _) ⟨_, rfl, hI13, bmB_of A13_28 A13_29 A13_30 A13_34 (by omega) (by omega) (by omega) (by omega) (by omega) (by omega) (by omega) hB⟩
        · refine bg_iconst C d_mo_edge_33 ?_
          refine bg_goto (l := 38) C d_mo_edge_34 (by decide) ?_
          refine bm_puti C cf_mo hI 0 0 rfl rfl (by decide) rfl rfl rfl (by omega) (by omega) rfl (Or.inl rfl) tw_677 d_mo_edge_38 (fun w19 hI19 e19 => ?_)
          have A19_28 : ∀ i, w19 28 i = w0 28 i := fun i => by rw [e19]; exact bgU_ne i (by decide)
          have A19_29 : ∀ i, w19 29 i = w0 29 i := fun i => by rw [e19]; exact bgU_ne i (by decide)
          have A19_30 : ∀ i, w19 30 i = w0 30 i := fun i => by rw [e19]; exact bgU_ne i (by decide)
          have A19_34 : ∀ i, w19 34 i = w0 34 i := fun i => by rw [e19]; exact bgU_ne i (by decide)
          have g19_0 : w19 27 0 = 3 := by rw [e19]; exact bgU_eq
          have g19_1 : w19 27 4 = w0 27 4 := by rw [e19]; exact bgU_nei (by decide)
          have g19_2 : w19 27 5 = w0 27 5 := by rw [e19]; exact bgU_nei (by decide)
          have g19_3 : w19 27 6 = w0 27 6 := by rw [e19]; exact bgU_nei (by decide)
          have g19_4 : w19 27 7 = w0 27 7 := by rw [e19]; exact bgU_nei (by decide)
          have g19_5 : w19 27 17 = w0 27 17 := by rw [e19]; exact bgU_nei (by decide)
          have g19_6 : w19 27 19 = w0 27 19 := by rw [e19]; exact bgU_nei (by decide)
          have g19_7 : w19 27 20 = w0 27 20 := by rw [e19]; exact bgU_nei (by decide)
          refine bg_aload_n C d_mo_edge_41 rfl rfl ?_
          refine bm_geti C cf_mo hI19 0 0 rfl rfl (by decide) rfl rfl tw_677 d_mo_edge_42 (fun v20 e20 a20 b20 => ?_)
          refine bg_if_le (tgt := 50) C d_mo_edge_45 (by decide) ⟨by omega, by omega⟩ (fun h21 => by exfalso; omega) (fun h21 => ?_)
          refine bg_iconst C d_mo_edge_48 ?_
          exact bg_iret C d_mo_edge_49 (fun h => by cases h) (Or.inl rfl) (Nat.zero_le _) (Nat.zero_le _) ⟨_, rfl, hI19, bmB_of A19_28 A19_29 A19_30 A19_34 (by omega) (by omega) (by omega) (by omega) (by omega) (by omega) (by omega) hB⟩
    · refine bg_iconst C d_mo_edge_20 ?_
      refine bg_goto (l := 38) C d_mo_edge_21 (by decide) ?_
      refine bm_puti C cf_mo hI 0 0 rfl rfl (by decide) rfl rfl rfl (by omega) (by omega) rfl (Or.inl rfl) tw_677 d_mo_edge_38 (fun w22 hI22 e22 => ?_)
      have A22_28 : ∀ i, w22 28 i = w0 28 i := fun i => by rw [e22]; exact bgU_ne i (by decide)
      have A22_29 : ∀ i, w22 29 i = w0 29 i := fun i => by rw [e22]; exact bgU_ne i (by decide)
      have A22_30 : ∀ i, w22 30 i = w0 30 i := fun i => by rw [e22]; exact bgU_ne i (by decide)
      have A22_34 : ∀ i, w22 34 i = w0 34 i := fun i => by rw [e22]; exact bgU_ne i (by decide)
      have g22_0 : w22 27 0 = 2 := by rw [e22]; exact bgU_eq
      have g22_1 : w22 27 4 = w0 27 4 := by rw [e22]; exact bgU_nei (by decide)
      have g22_2 : w22 27 5 = w0 27 5 := by rw [e22]; exact bgU_nei (by decide)
      have g22_3 : w22 27 6 = w0 27 6 := by rw [e22]; exact bgU_nei (by decide)
      have g22_4 : w22 27 7 = w0 27 7 := by rw [e22]; exact bgU_nei (by decide)
      have g22_5 : w22 27 17 = w0 27 17 := by rw [e22]; exact bgU_nei (by decide)
      have g22_6 : w22 27 19 = w0 27 19 := by rw [e22]; exact bgU_nei (by decide)
      have g22_7 : w22 27 20 = w0 27 20 := by rw [e22]; exact bgU_nei (by decide)
      refine bg_aload_n C d_mo_edge_41 rfl rfl ?_
      refine bm_geti C cf_mo hI22 0 0 rfl rfl (by decide) rfl rfl tw_677 d_mo_edge_42 (fun v23 e23 a23 b23 => ?_)
      refine bg_if_le (tgt := 50) C d_mo_edge_45 (by decide) ⟨by omega, by omega⟩ (fun h24 => by exfalso; omega) (fun h24 => ?_)
      refine bg_iconst C d_mo_edge_48 ?_
      exact bg_iret C d_mo_edge_49 (fun h => by cases h) (Or.inl rfl) (Nat.zero_le _) (Nat.zero_le _) ⟨_, rfl, hI22, bmB_of A22_28 A22_29 A22_30 A22_34 (by omega) (by omega) (by omega) (by omega) (by omega) (by omega) (by omega) hB⟩
  · refine bg_iconst C d_mo_edge_8 ?_
    refine bg_goto (l := 38) C d_mo_edge_9 (by decide) ?_
    refine bm_puti C cf_mo hI 0 0 rfl rfl (by decide) rfl rfl rfl (by omega) (by omega) rfl (Or.inl rfl) tw_677 d_mo_edge_38 (fun w25 hI25 e25 => ?_)
    have A25_28 : ∀ i, w25 28 i = w0 28 i := fun i => by rw [e25]; exact bgU_ne i (by decide)
    have A25_29 : ∀ i, w25 29 i = w0 29 i := fun i => by rw [e25]; exact bgU_ne i (by decide)
    have A25_30 : ∀ i, w25 30 i = w0 30 i := fun i => by rw [e25]; exact bgU_ne i (by decide)
    have A25_34 : ∀ i, w25 34 i = w0 34 i := fun i => by rw [e25]; exact bgU_ne i (by decide)
    have g25_0 : w25 27 0 = 1 := by rw [e25]; exact bgU_eq
    have g25_1 : w25 27 4 = w0 27 4 := by rw [e25]; exact bgU_nei (by decide)
    have g25_2 : w25 27 5 = w0 27 5 := by rw [e25]; exact bgU_nei (by decide)
    have g25_3 : w25 27 6 = w0 27 6 := by rw [e25]; exact bgU_nei (by decide)
    have g25_4 : w25 27 7 = w0 27 7 := by rw [e25]; exact bgU_nei (by decide)
    have g25_5 : w25 27 17 = w0 27 17 := by rw [e25]; exact bgU_nei (by decide)
    have g25_6 : w25 27 19 = w0 27 19 := by rw [e25]; exact bgU_nei (by decide)
    have g25_7 : w25 27 20 = w0 27 20 := by rw [e25]; exact bgU_nei (by decide)
    refine bg_aload_n C d_mo_edge_41 rfl rfl ?_
    refine bm_geti C cf_mo hI25 0 0 rfl rfl (by decide) rfl rfl tw_677 d_mo_edge_42 (fun v26 e26 a26 b26 => ?_)
    refine bg_if_le (tgt := 50) C d_mo_edge_45 (by decide) ⟨by omega, by omega⟩ (fun h27 => by exfalso; omega) (fun h27 => ?_)
    refine bg_iconst C d_mo_edge_48 ?_
    exact bg_iret C d_mo_edge_49 (fun h => by cases h) (Or.inl rfl) (Nat.zero_le _) (Nat.zero_le _) ⟨_, rfl, hI25, bmB_of A25_28 A25_29 A25_30 A25_34 (by omega) (by omega) (by omega) (by omega) (by omega) (by omega) (by omega) hB⟩
def S_mo_room : List (Nat × Option Int) := [(27, some 0), (27, some 17), (27, some 18)]
def rm_mo_room : Room := { frames := 0, cells := 0, slots := 0, locals := 0 }
set_option maxRecDepth 20000 in
set_option maxHeartbeats 4000000 in
theorem m_mo_room {G : bgGl} (hG : bgOk G) {w0 : bgW} (hw : moN w0) {x : Int} (z0 : -2147483648 ≤ x) (z1 : x ≤ 2147483647) (z2 : bmB w0) : bgM G false 0 0 y_mo_room (.code y_mo_room co_mo_room 2 none) rm_mo_room [br 27, bi x] w0 (bgPv (fun w' => moRel S_mo_room w0 w' ∧ (1 ≤ x → x ≤ 50 → w' 27 0 = 0) ∧ ((x < 1 ∨ 50 < x) → w' 27 0 = 1) ∧ bmB w')) := by
  refine bg_met hG (by decide +kernel) (bg_cat rfl) (Nat.le_of_ble_eq_true rfl) ?_
  intro K hK hR hex C
  subst hK
  have hI := moRel.rfl (S := S_mo_room) hw
  show bgX K true 0 0 _ w0 0 [some (br 27), some (bi x)] []
  have hB := z2
  have hB1 := hB.1
  have hs17 := hw 27 17 0 51 rfl
  have hs7 := hw 27 7 0 20 rfl
  have hs19 := hw 27 19 0 1 rfl
  have hs6 := hw 27 6 0 1 rfl
  have hs5 := hw 27 5 0 1 rfl
  refine bg_aload_n C d_mo_room_0 rfl rfl ?_
  refine bg_iload_n C d_mo_room_1 rfl rfl ?_
  refine bg_iconst C d_mo_room_2 ?_
  refine bg_icmp_lt (tgt := 12) C d_mo_room_3 (by decide) ⟨by omega, by omega⟩ ⟨by omega, by omega⟩ (fun h1 => ?_) (fun h1 => ?_)
  · refine bg_iconst C d_mo_room_12 ?_
    refine bg_goto (l := 17) C d_mo_room_13 (by decide) ?_
    refine bm_puti C cf_mo hI 0 0 rfl rfl (by decide) rfl rfl rfl (by omega) (by omega) rfl (Or.inl rfl) tw_677 d_mo_room_17 (fun w2 hI2 e2 => ?_)
    have A2_28 : ∀ i, w2 28 i = w0 28 i := fun i => by rw [e2]; exact bgU_ne i (by decide)
    have A2_29 : ∀ i, w2 29 i = w0 29 i := fun i => by rw [e2]; exact bgU_ne i (by decide)
    have A2_30 : ∀ i, w2 30 i = w0 30 i := fun i => by rw [e2]; exact bgU_ne i (by decide)
    have A2_34 : ∀ i, w2 34 i = w0 34 i := fun i => by rw [e2]; exact bgU_ne i (by decide)
    have g2_0 : w2 27 0 = 1 := by rw [e2]; exact bgU_eq
    have g2_1 : w2 27 4 = w0 27 4 := by rw [e2]; exact bgU_nei (by decide)
    have g2_2 : w2 27 5 = w0 27 5 := by rw [e2]; exact bgU_nei (by decide)
    have g2_3 : w2 27 6 = w0 27 6 := by rw [e2]; exact bgU_nei (by decide)
    have g2_4 : w2 27 7 = w0 27 7 := by rw [e2]; exact bgU_nei (by decide)
    have g2_5 : w2 27 17 = w0 27 17 := by rw [e2]; exact bgU_nei (by decide)
    have g2_6 : w2 27 19 = w0 27 19 := by rw [e2]; exact bgU_nei (by decide)
    have g2_7 : w2 27 20 = w0 27 20 := by rw [e2]; exact bgU_nei (by decide)
    refine bg_aload_n C d_mo_room_20 rfl rfl ?_
    refine bm_geti C cf_mo hI2 0 0 rfl rfl (by decide) rfl rfl tw_677 d_mo_room_21 (fun v3 e3 a3 b3 => ?_)
    refine bg_if_ne (tgt := 58) C d_mo_room_24 (by decide) ⟨by omega, by omega⟩ (fun h4 => ?_) (fun h4 => by exfalso; omega)
    exact bg_ret C d_mo_room_58 (fun h => by cases h) rfl (Nat.zero_le _) (Nat.zero_le _) ⟨rfl, hI2, by omega, by omega, bmB_of A2_28 A2_29 A2_30 A2_34 (by omega) (by omega) (by omega) (by omega) (by omega) (by omega) (by omega) hB⟩
  · refine bg_iload_n C d_mo_room_6 rfl rfl ?_
    refine bg_bipush C d_mo_room_7 (by decide +kernel) ?_
    refine bg_icmp_le (tgt := 16) C d_mo_room_9 (by decide) ⟨by omega, by omega⟩ ⟨by omega, by omega⟩ (fun h5 => ?_) (fun h5 => ?_)
    · refine bg_iconst C d_mo_room_16 ?_
      refine bm_puti C cf_mo hI 0 0 rfl rfl (by decide) rfl rfl rfl (by omega) (by omega) rfl (Or.inl rfl) tw_677 d_mo_room_17 (fun w6 hI6 e6 => ?_)
      have A6_28 : ∀ i, w6 28 i = w0 28 i := fun i => by rw [e6]; exact bgU_ne i (by decide)
      have A6_29 : ∀ i, w6 29 i = w0 29 i := fun i => by rw [e6]; exact bgU_ne i (by decide)
      have A6_30 : ∀ i, w6 30 i = w0 30 i := fun i => by rw [e6]; exact bgU_ne i (by decide)
      have A6_34 : ∀ i, w6 34 i = w0 34 i := fun i => by rw [e6]; exact bgU_ne i (by decide)
      have g6_0 : w6 27 0 = 0 := by rw [e6]; exact bgU_eq
      have g6_1 : w6 27 4 = w0 27 4 := by rw [e6]; exact bgU_nei (by decide)
      have g6_2 : w6 27 5 = w0 27 5 := by rw [e6]; exact bgU_nei (by decide)
      have g6_3 : w6 27 6 = w0 27 6 := by rw [e6]; exact bgU_nei (by decide)
      have g6_4 : w6 27 7 = w0 27 7 := by rw [e6]; exact bgU_nei (by decide)
      have g6_5 : w6 27 17 = w0 27 17 := by rw [e6]; exact bgU_nei (by decide)
      have g6_6 : w6 27 19 = w0 27 19 := by rw [e6]; exact bgU_nei (by decide)
      have g6_7 : w6 27 20 = w0 27 20 := by rw [e6]; exact bgU_nei (by decide)
      refine bg_aload_n C d_mo_room_20 rfl rfl ?_
      refine bm_geti C cf_mo hI6 0 0 rfl rfl (by decide) rfl rfl tw_677 d_mo_room_21 (fun v7 e7 a7 b7 => ?_)
      refine bg_if_ne (tgt := 58) C d_mo_room_24 (by decide) ⟨by omega, by omega⟩ (fun h8 => by exfalso; omega) (fun h8 => ?_)
      refine bg_aload_n C d_mo_room_27 rfl rfl ?_
      refine bg_iload_n C d_mo_room_28 rfl rfl ?_
      refine bm_puti C cf_mo hI6 18 18 rfl rfl (by decide) rfl rfl rfl (by omega) (by omega) rfl (Or.inl rfl) tw_695 d_mo_room_29 (fun w9 hI9 e9 => ?_)
      have A9_28 : ∀ i, w9 28 i = w0 28 i := fun i => by rw [e9]; exact (bgU_ne i (by decide)).trans (A6_28 i)
      have A9_29 : ∀ i, w9 29 i = w0 29 i := fun i => by rw [e9]; exact (bgU_ne i (by decide)).trans (A6_29 i)
      have A9_30 : ∀ i, w9 30 i = w0 30 i := fun i => by rw [e9]; exact (bgU_ne i (by decide)).trans (A6_30 i)
      have A9_34 : ∀ i, w9 34 i = w0 34 i := fun i => by rw [e9]; exact (bgU_ne i (by decide)).trans (A6_34 i)
      have g9_0 : w9 27 0 = w6 27 0 := by rw [e9]; exact bgU_nei (by decide)
      have g9_1 : w9 27 4 = w6 27 4 := by rw [e9]; exact bgU_nei (by decide)
      have g9_2 : w9 27 5 = w6 27 5 := by rw [e9]; exact bgU_nei (by decide)
      have g9_3 : w9 27 6 = w6 27 6 := by rw [e9]; exact bgU_nei (by decide)
      have g9_4 : w9 27 7 = w6 27 7 := by rw [e9]; exact bgU_nei (by decide)
      have g9_5 : w9 27 17 = w6 27 17 := by rw [e9]; exact bgU_nei (by decide)
      have g9_6 : w9 27 19 = w6 27 19 := by rw [e9]; exact bgU_nei (by decide)
      have g9_7 : w9 27 20 = w6 27 20 := by rw [e9]; exact bgU_nei (by decide)
      refine bg_aload_n C d_mo_room_32 rfl rfl ?_
      refine bg_aload_n C d_mo_room_33 rfl rfl ?_
      refine bm_geti C cf_mo hI9 17 17 rfl rfl (by decide) rfl rfl tw_694 d_mo_room_34 (fun v10 e10 a10 b10 => ?_)
      refine bg_aload_n C d_mo_room_37 rfl rfl ?_
      refine bm_geti C cf_mo hI9 18 18 rfl rfl (by decide) rfl rfl tw_695 d_mo_room_38 (fun v11 e11 a11 b11 => ?_)
      refine bg_icmp_le (tgt := 51) C d_mo_room_41 (by decide) ⟨by omega, by omega⟩ ⟨by omega, by omega⟩ (fun h12 => ?_) (fun h12 => ?_)
      · refine bg_aload_n C d_mo_room_51 rfl rfl ?_
        refine bm_geti C cf_mo hI9 17 17 rfl rfl (by decide) rfl rfl tw_694 d_mo_room_52 (fun v13 e13 a13 b13 => ?_)
        refine bm_puti C cf_mo hI9 17 17 rfl rfl (by decide) rfl rfl rfl (by omega) (by omega) rfl (Or.inl rfl) tw_694 d_mo_room_55 (fun w14 hI14 e14 => ?_)
        have A14_28 : ∀ i, w14 28 i = w0 28 i := fun i => by rw [e14]; exact (bgU_ne i (by decide)).trans (A9_28 i)
        have A14_29 : ∀ i, w14 29 i = w0 29 i := fun i => by rw [e14]; exact (bgU_ne i (by decide)).trans (A9_29 i)
        have A14_30 : ∀ i, w14 30 i = w0 30 i := fun i => by rw [e14]; exact (bgU_ne i (by decide)).trans (A9_30 i)
        have A14_34 : ∀ i, w14 34 i = w0 34 i := fun i => by rw [e14]; exact (bgU_ne i (by decide)).trans (A9_34 i)
        have g14_0 : w14 27 0 = w9 27 0 := by rw [e14]; exact bgU_nei (by decide)
        have g14_1 : w14 27 4 = w9 27 4 := by rw [e14]; exact bgU_nei (by decide)
        have g14_2 : w14 27 5 = w9 27 5 := by rw [e14]; exact bgU_nei (by decide)
        have g14_3 : w14 27 6 = w9 27 6 := by rw [e14]; exact bgU_nei (by decide)
        have g14_4 : w14 27 7 = w9 27 7 := by rw [e14]; exact bgU_nei (by decide)
        have g14_5 : w14 27 17 = v13 := by rw [e14]; exact bgU_eq
        have g14_6 : w14 27 19 = w9 27 19 := by rw [e14]; exact bgU_nei (by decide)
        have g14_7 : w14 27 20 = w9 27 20 := by rw [e14]; exact bgU_nei (by decide)
        exact bg_ret C d_mo_room_58 (fun h => by cases h) rfl (Nat.zero_le _) (Nat.zero_le _) ⟨rfl, hI14, by omega, by omega, bmB_of A14_28 A14_29 A14_30 A14_34 (by omega) (by omega) (by omega) (by omega) (by omega) (by omega) (by omega) hB⟩
      · refine bg_aload_n C d_mo_room_44 rfl rfl ?_
        refine bm_geti C cf_mo hI9 18 18 rfl rfl (by decide) rfl rfl tw_695 d_mo_room_45 (fun v15 e15 a15 b15 => ?_)
        refine bg_goto (l := 55) C d_mo_room_48 (by decide) ?_
        refine bm_puti C cf_mo hI9 17 17 rfl rfl (by decide) rfl rfl rfl (by omega) (by omega) rfl (Or.inl rfl) tw_694 d_mo_room_55 (fun w16 hI16 e16 => ?_)
        have A16_28 : ∀ i, w16 28 i = w0 28 i := fun i => by rw [e16]; exact (bgU_ne i (by decide)).trans (A9_28 i)
        have A16_29 : ∀ i, w16 29 i = w0 29 i := fun i => by rw [e16]; exact (bgU_ne i (by decide)).trans (A9_29 i)
        have A16_30 : ∀ i, w16 30 i = w0 30 i := fun i => by rw [e16]; exact (bgU_ne i (by decide)).trans (A9_30 i)
        have A16_34 : ∀ i, w16 34 i = w0 34 i := fun i => by rw [e16]; exact (bgU_ne i (by decide)).trans (A9_34 i)
        have g16_0 : w16 27 0 = w9 27 0 := by rw [e16]; exact bgU_nei (by decide)
        have g16_1 : w16 27 4 = w9 27 4 := by rw [e16]; exact bgU_nei (by decide)
        have g16_2 : w16 27 5 = w9 27 5 := by rw [e16]; exact bgU_nei (by decide)
        have g16_3 : w16 27 6 = w9 27 6 := by rw [e16]; exact bgU_nei (by decide)
        have g16_4 : w16 27 7 = w9 27 7 := by rw [e16]; exact bgU_nei (by decide)
        have g16_5 : w16 27 17 = v15 := by rw [e16]; exact bgU_eq
        have g16_6 : w16 27 19 = w9 27 19 := by rw [e16]; exact bgU_nei (by decide)
        have g16_7 : w16 27 20 = w9 27 20 := by rw [e16]; exact bgU_nei (by decide)
        exact bg_ret C d_mo_room_58 (fun h => by cases h) rfl (Nat.zero_le _) (Nat.zero_le _) ⟨rfl, hI16, by omega, by omega, bmB_of A16_28 A16_29 A16_30 A16_34 (by omega) (by omega) (by omega) (by omega) (by omega) (by omega) (by omega) hB⟩
    · refine bg_iconst C d_mo_room_12 ?_
      refine bg_goto (l := 17) C d_mo_room_13 (by decide) ?_
      refine bm_puti C cf_mo hI 0 0 rfl rfl (by decide) rfl rfl rfl (by omega) (by omega) rfl (Or.inl rfl) tw_677 d_mo_room_17 (fun w17 hI17 e17 => ?_)
      have A17_28 : ∀ i, w17 28 i = w0 28 i := fun i => by rw [e17]; exact bgU_ne i (by decide)
      have A17_29 : ∀ i, w17 29 i = w0 29 i := fun i => by rw [e17]; exact bgU_ne i (by decide)
      have A17_30 : ∀ i, w17 30 i = w0 30 i := fun i => by rw [e17]; exact bgU_ne i (by decide)
      have A17_34 : ∀ i, w17 34 i = w0 34 i := fun i => by rw [e17]; exact bgU_ne i (by decide)
      have g17_0 : w17 27 0 = 1 := by rw [e17]; exact bgU_eq
      have g17_1 : w17 27 4 = w0 27 4 := by rw [e17]; exact bgU_nei (by decide)
      have g17_2 : w17 27 5 = w0 27 5 := by rw [e17]; exact bgU_nei (by decide)
      have g17_3 : w17 27 6 = w0 27 6 := by rw [e17]; exact bgU_nei (by decide)
      have g17_4 : w17 27 7 = w0 27 7 := by rw [e17]; exact bgU_nei (by decide)
      have g17_5 : w17 27 17 = w0 27 17 := by rw [e17]; exact bgU_nei (by decide)
      have g17_6 : w17 27 19 = w0 27 19 := by rw [e17]; exact bgU_nei (by decide)
      have g17_7 : w17 27 20 = w0 27 20 := by rw [e17]; exact bgU_nei (by decide)
      refine bg_aload_n C d_mo_room_20 rfl rfl ?_
      refine bm_geti C cf_mo hI17 0 0 rfl rfl (by decide) rfl rfl tw_677 d_mo_room_21 (fun v18 e18 a18 b18 => ?_)
      refine bg_if_ne (tgt := 58) C d_mo_room_24 (by decide) ⟨by omega, by omega⟩ (fun h19 => ?_) (fun h19 => by exfalso; omega)
      exact bg_ret C d_mo_room_58 (fun h => by cases h) rfl (Nat.zero_le _) (Nat.zero_le _) ⟨rfl, hI17, by omega, by omega, bmB_of A17_28 A17_29 A17_30 A17_34 (by omega) (by omega) (by omega) (by omega) (by omega) (by omega) (by omega) hB⟩
def S_mo_distance : List (Nat × Option Int) := [(27, some 0)]
def rm_mo_distance : Room := { frames := 2, cells := 0, slots := 0, locals := 41 }
set_option maxRecDepth 20000 in
set_option maxHeartbeats 4000000 in
theorem m_mo_distance {G : bgGl} (hG : bgOk G) {w0 : bgW} (hw : moN w0) {x : Int} (z0 : -2147483648 ≤ x) (z1 : x ≤ 2147483647) (z2 : bmB w0) : bgM G false 0 0 y_mo_distance (.code y_mo_distance co_mo_distance 2 (some .int)) rm_mo_distance [br 27, bi x] w0 (bgPi (fun v w' => moRel S_mo_distance w0 w' ∧ bmB w')) := by
  refine bg_met hG (by decide +kernel) (bg_cat rfl) (Nat.le_of_ble_eq_true rfl) ?_
  intro K hK hR hex C
  subst hK
  have hI := moRel.rfl (S := S_mo_distance) hw
  show bgX K true 0 0 _ w0 0 [some (br 27), some (bi x)] []
  have hB := z2
  have hB1 := hB.1
  have hs17 := hw 27 17 0 51 rfl
  have hs7 := hw 27 7 0 20 rfl
  have hs19 := hw 27 19 0 1 rfl
  have hs6 := hw 27 6 0 1 rfl
  have hs5 := hw 27 5 0 1 rfl
  refine bg_aload_n C d_mo_distance_0 rfl rfl ?_
  refine bg_aload_n C d_mo_distance_1 rfl rfl ?_
  refine bg_iload_n C d_mo_distance_2 rfl rfl ?_
  refine bg_ci C (m_mo_faultOf hG hI.1 (by omega) (by omega)) (bg_invV C cf_mo rfl tw_843 ti_mo_faultOf ts_mo_faultOf tc_mo_faultOf tw_42 ⟨by decide, by decide⟩ (nA := 1) (by decide +kernel) rfl d_mo_distance_3 rfl) rfl (by rw [hR]; exact ⟨by decide, by decide⟩) (by rw [hR]; exact ⟨by decide, by decide⟩) (Nat.le_of_ble_eq_true rfl) rfl (fun v1 w1 p1 => ?_)
  obtain ⟨rfl, r1_0, r1_1, r1_2, r1_3, r1_4⟩ := p1
  refine bm_puti C cf_mo hI 0 0 rfl rfl (by decide) rfl rfl rfl (by omega) (by omega) rfl (Or.inl rfl) tw_677 d_mo_distance_6 (fun w2 hI2 e2 => ?_)
  have A2_28 : ∀ i, w2 28 i = w0 28 i := fun i => by rw [e2]; exact bgU_ne i (by decide)
  have A2_29 : ∀ i, w2 29 i = w0 29 i := fun i => by rw [e2]; exact bgU_ne i (by decide)
  have A2_30 : ∀ i, w2 30 i = w0 30 i := fun i => by rw [e2]; exact bgU_ne i (by decide)
  have A2_34 : ∀ i, w2 34 i = w0 34 i := fun i => by rw [e2]; exact bgU_ne i (by decide)
  have g2_0 : w2 27 0 = v1 := by rw [e2]; exact bgU_eq
  have g2_1 : w2 27 4 = w0 27 4 := by rw [e2]; exact bgU_nei (by decide)
  have g2_2 : w2 27 5 = w0 27 5 := by rw [e2]; exact bgU_nei (by decide)
  have g2_3 : w2 27 6 = w0 27 6 := by rw [e2]; exact bgU_nei (by decide)
  have g2_4 : w2 27 7 = w0 27 7 := by rw [e2]; exact bgU_nei (by decide)
  have g2_5 : w2 27 17 = w0 27 17 := by rw [e2]; exact bgU_nei (by decide)
  have g2_6 : w2 27 19 = w0 27 19 := by rw [e2]; exact bgU_nei (by decide)
  have g2_7 : w2 27 20 = w0 27 20 := by rw [e2]; exact bgU_nei (by decide)
  refine bg_aload_n C d_mo_distance_9 rfl rfl ?_
  refine bm_geti C cf_mo hI2 0 0 rfl rfl (by decide) rfl rfl tw_677 d_mo_distance_10 (fun v3 e3 a3 b3 => ?_)
  refine bg_if_le (tgt := 20) C d_mo_distance_13 (by decide) ⟨by omega, by omega⟩ (fun h4 => ?_) (fun h4 => ?_)
  · refine bg_aload_n C d_mo_distance_20 rfl rfl ?_
    refine bg_getr (i := 21) C cf_mo rfl (by decide) rfl tw_698 d_mo_distance_21 ?_
    refine bg_iload_n C d_mo_distance_24 rfl rfl ?_
    refine bm_iald C hI2 rfl rfl (by omega) (by omega) d_mo_distance_25 (fun v5 e5 a5 b5 => ?_)
    exact bg_iret C d_mo_distance_26 (fun h => by cases h) (Or.inl rfl) (Nat.zero_le _) (Nat.zero_le _) ⟨_, rfl, hI2, bmB_of A2_28 A2_29 A2_30 A2_34 (by omega) (by omega) (by omega) (by omega) (by omega) (by omega) (by omega) hB⟩
  · refine bg_iconst C d_mo_distance_16 ?_
    refine bg_goto (l := 26) C d_mo_distance_17 (by decide) ?_
    exact bg_iret C d_mo_distance_26 (fun h => by cases h) (Or.inl rfl) (Nat.zero_le _) (Nat.zero_le _) ⟨_, rfl, hI2, bmB_of A2_28 A2_29 A2_30 A2_34 (by omega) (by omega) (by omega) (by omega) (by omega) (by omega) (by omega) hB⟩
def S_mo_atHand : List (Nat × Option Int) := [(27, some 0)]
def rm_mo_atHand : Room := { frames := 0, cells := 0, slots := 0, locals := 0 }
set_option maxRecDepth 20000 in
set_option maxHeartbeats 4000000 in
theorem m_mo_atHand {G : bgGl} (hG : bgOk G) {w0 : bgW} (hw : moN w0) {x : Int} (z0 : -2147483648 ≤ x) (z1 : x ≤ 2147483647) (z2 : bmB w0) : bgM G false 0 0 y_mo_atHand (.code y_mo_atHand co_mo_atHand 2 (some .int)) rm_mo_atHand [br 27, bi x] w0 (bgPi (fun v w' => moRel S_mo_atHand w0 w' ∧ bmB w')) := by
  refine bg_met hG (by decide +kernel) (bg_cat rfl) (Nat.le_of_ble_eq_true rfl) ?_
  intro K hK hR hex C
  subst hK
  have hI := moRel.rfl (S := S_mo_atHand) hw
  show bgX K true 0 0 _ w0 0 [some (br 27), some (bi x)] []
  have hB := z2
  have hB1 := hB.1
  have hs17 := hw 27 17 0 51 rfl
  have hs7 := hw 27 7 0 20 rfl
  have hs19 := hw 27 19 0 1 rfl
  have hs6 := hw 27 6 0 1 rfl
  have hs5 := hw 27 5 0 1 rfl
  refine bg_aload_n C d_mo_atHand_0 rfl rfl ?_
  refine bg_iload_n C d_mo_atHand_1 rfl rfl ?_
  refine bg_if_lt (tgt := 13) C d_mo_atHand_2 (by decide) ⟨by omega, by omega⟩ (fun h1 => ?_) (fun h1 => ?_)
  · refine bg_iconst C d_mo_atHand_13 ?_
    refine bg_goto (l := 18) C d_mo_atHand_14 (by decide) ?_
    refine bm_puti C cf_mo hI 0 0 rfl rfl (by decide) rfl rfl rfl (by omega) (by omega) rfl (Or.inl rfl) tw_677 d_mo_atHand_18 (fun w2 hI2 e2 => ?_)
    have A2_28 : ∀ i, w2 28 i = w0 28 i := fun i => by rw [e2]; exact bgU_ne i (by decide)
    have A2_29 : ∀ i, w2 29 i = w0 29 i := fun i => by rw [e2]; exact bgU_ne i (by decide)
    have A2_30 : ∀ i, w2 30 i = w0 30 i := fun i => by rw [e2]; exact bgU_ne i (by decide)
    have A2_34 : ∀ i, w2 34 i = w0 34 i := fun i => by rw [e2]; exact bgU_ne i (by decide)
    have g2_0 : w2 27 0 = 1 := by rw [e2]; exact bgU_eq
    have g2_1 : w2 27 4 = w0 27 4 := by rw [e2]; exact bgU_nei (by decide)
    have g2_2 : w2 27 5 = w0 27 5 := by rw [e2]; exact bgU_nei (by decide)
    have g2_3 : w2 27 6 = w0 27 6 := by rw [e2]; exact bgU_nei (by decide)
    have g2_4 : w2 27 7 = w0 27 7 := by rw [e2]; exact bgU_nei (by decide)
    have g2_5 : w2 27 17 = w0 27 17 := by rw [e2]; exact bgU_nei (by decide)
    have g2_6 : w2 27 19 = w0 27 19 := by rw [e2]; exact bgU_nei (by decide)
    have g2_7 : w2 27 20 = w0 27 20 := by rw [e2]; exact bgU_nei (by decide)
    refine bg_aload_n C d_mo_atHand_21 rfl rfl ?_
    refine bm_geti C cf_mo hI2 0 0 rfl rfl (by decide) rfl rfl tw_677 d_mo_atHand_22 (fun v3 e3 a3 b3 => ?_)
    refine bg_if_le (tgt := 32) C d_mo_atHand_25 (by decide) ⟨by omega, by omega⟩ (fun h4 => by exfalso; omega) (fun h4 => ?_)
    refine bg_iconst C d_mo_atHand_28 ?_
    refine bg_goto (l := 38) C d_mo_atHand_29 (by decide) ?_
    exact bg_iret C d_mo_atHand_38 (fun h => by cases h) (Or.inl rfl) (Nat.zero_le _) (Nat.zero_le _) ⟨_, rfl, hI2, bmB_of A2_28 A2_29 A2_30 A2_34 (by omega) (by omega) (by omega) (by omega) (by omega) (by omega) (by omega) hB⟩
  · refine bg_iload_n C d_mo_atHand_5 rfl rfl ?_
    refine bg_aload_n C d_mo_atHand_6 rfl rfl ?_
    refine bm_geti C cf_mo hI 17 17 rfl rfl (by decide) rfl rfl tw_694 d_mo_atHand_7 (fun v5 e5 a5 b5 => ?_)
    refine bg_icmp_lt (tgt := 17) C d_mo_atHand_10 (by decide) ⟨by omega, by omega⟩ ⟨by omega, by omega⟩ (fun h6 => ?_) (fun h6 => ?_)
    · refine bg_iconst C d_mo_atHand_17 ?_
      refine bm_puti C cf_mo hI 0 0 rfl rfl (by decide) rfl rfl rfl (by omega) (by omega) rfl (Or.inl rfl) tw_677 d_mo_atHand_18 (fun w7 hI7 e7 => ?_)
      have A7_28 : ∀ i, w7 28 i = w0 28 i := fun i => by rw [e7]; exact bgU_ne i (by decide)
      have A7_29 : ∀ i, w7 29 i = w0 29 i := fun i => by rw [e7]; exact bgU_ne i (by decide)
      have A7_30 : ∀ i, w7 30 i = w0 30 i := fun i => by rw [e7]; exact bgU_ne i (by decide)
      have A7_34 : ∀ i, w7 34 i = w0 34 i := fun i => by rw [e7]; exact bgU_ne i (by decide)
      have g7_0 : w7 27 0 = 0 := by rw [e7]; exact bgU_eq
      have g7_1 : w7 27 4 = w0 27 4 := by rw [e7]; exact bgU_nei (by decide)
      have g7_2 : w7 27 5 = w0 27 5 := by rw [e7]; exact bgU_nei (by decide)
      have g7_3 : w7 27 6 = w0 27 6 := by rw [e7]; exact bgU_nei (by decide)
      have g7_4 : w7 27 7 = w0 27 7 := by rw [e7]; exact bgU_nei (by decide)
      have g7_5 : w7 27 17 = w0 27 17 := by rw [e7]; exact bgU_nei (by decide)
      have g7_6 : w7 27 19 = w0 27 19 := by rw [e7]; exact bgU_nei (by decide)
      have g7_7 : w7 27 20 = w0 27 20 := by rw [e7]; exact bgU_nei (by decide)
      refine bg_aload_n C d_mo_atHand_21 rfl rfl ?_
      refine bm_geti C cf_mo hI7 0 0 rfl rfl (by decide) rfl rfl tw_677 d_mo_atHand_22 (fun v8 e8 a8 b8 => ?_)
      refine bg_if_le (tgt := 32) C d_mo_atHand_25 (by decide) ⟨by omega, by omega⟩ (fun h9 => ?_) (fun h9 => by exfalso; omega)
      refine bg_aload_n C d_mo_atHand_32 rfl rfl ?_
      refine bg_getr (i := 16) C cf_mo rfl (by decide) rfl tw_693 d_mo_atHand_33 ?_
      refine bg_iload_n C d_mo_atHand_36 rfl rfl ?_
      refine bq_iald0 C rfl (by omega) (by omega) d_mo_atHand_37 (fun v10 e10 => ?_)
      exact bg_iret C d_mo_atHand_38 (fun h => by cases h) (Or.inl rfl) (Nat.zero_le _) (Nat.zero_le _) ⟨_, rfl, hI7, bmB_of A7_28 A7_29 A7_30 A7_34 (by omega) (by omega) (by omega) (by omega) (by omega) (by omega) (by omega) hB⟩
    · refine bg_iconst C d_mo_atHand_13 ?_
      refine bg_goto (l := 18) C d_mo_atHand_14 (by decide) ?_
      refine bm_puti C cf_mo hI 0 0 rfl rfl (by decide) rfl rfl rfl (by omega) (by omega) rfl (Or.inl rfl) tw_677 d_mo_atHand_18 (fun w11 hI11 e11 => ?_)
      have A11_28 : ∀ i, w11 28 i = w0 28 i := fun i => by rw [e11]; exact bgU_ne i (by decide)
      have A11_29 : ∀ i, w11 29 i = w0 29 i := fun i => by rw [e11]; exact bgU_ne i (by decide)
      have A11_30 : ∀ i, w11 30 i = w0 30 i := fun i => by rw [e11]; exact bgU_ne i (by decide)
      have A11_34 : ∀ i, w11 34 i = w0 34 i := fun i => by rw [e11]; exact bgU_ne i (by decide)
      have g11_0 : w11 27 0 = 1 := by rw [e11]; exact bgU_eq
      have g11_1 : w11 27 4 = w0 27 4 := by rw [e11]; exact bgU_nei (by decide)
      have g11_2 : w11 27 5 = w0 27 5 := by rw [e11]; exact bgU_nei (by decide)
      have g11_3 : w11 27 6 = w0 27 6 := by rw [e11]; exact bgU_nei (by decide)
      have g11_4 : w11 27 7 = w0 27 7 := by rw [e11]; exact bgU_nei (by decide)
      have g11_5 : w11 27 17 = w0 27 17 := by rw [e11]; exact bgU_nei (by decide)
      have g11_6 : w11 27 19 = w0 27 19 := by rw [e11]; exact bgU_nei (by decide)
      have g11_7 : w11 27 20 = w0 27 20 := by rw [e11]; exact bgU_nei (by decide)
      refine bg_aload_n C d_mo_atHand_21 rfl rfl ?_
      refine bm_geti C cf_mo hI11 0 0 rfl rfl (by decide) rfl rfl tw_677 d_mo_atHand_22 (fun v12 e12 a12 b12 => ?_)
      refine bg_if_le (tgt := 32) C d_mo_atHand_25 (by decide) ⟨by omega, by omega⟩ (fun h13 => by exfalso; omega) (fun h13 => ?_)
      refine bg_iconst C d_mo_atHand_28 ?_
      refine bg_goto (l := 38) C d_mo_atHand_29 (by decide) ?_
      exact bg_iret C d_mo_atHand_38 (fun h => by cases h) (Or.inl rfl) (Nat.zero_le _) (Nat.zero_le _) ⟨_, rfl, hI11, bmB_of A11_28 A11_29 A11_30 A11_34 (by omega) (by omega) (by omega) (by omega) (by omega) (by omega) (by omega) hB⟩
def S_mo_count : List (Nat × Option Int) := [(27, some 0)]
def rm_mo_count : Room := { frames := 1, cells := 0, slots := 0, locals := 22 }
set_option maxRecDepth 20000 in
set_option maxHeartbeats 4000000 in
theorem m_mo_count {G : bgGl} (hG : bgOk G) {w0 : bgW} (hw : moN w0) {x : Int} (z0 : -2147483648 ≤ x) (z1 : x ≤ 2147483647) (z2 : bmB w0) : bgM G false 0 0 y_mo_count (.code y_mo_count co_mo_count 2 (some .int)) rm_mo_count [br 27, bi x] w0 (bgPi (fun v w' => moRel S_mo_count w0 w' ∧ bmB w')) := by
  refine bg_met hG (by decide +kernel) (bg_cat rfl) (Nat.le_of_ble_eq_true rfl) ?_
  intro K hK hR hex C
  subst hK
  have hI := moRel.rfl (S := S_mo_count) hw
  show bgX K true 0 0 _ w0 0 [some (br 27), some (bi x)] []
  have hB := z2
  have hB1 := hB.1
  have hs17 := hw 27 17 0 51 rfl
  have hs7 := hw 27 7 0 20 rfl
  have hs19 := hw 27 19 0 1 rfl
  have hs6 := hw 27 6 0 1 rfl
  have hs5 := hw 27 5 0 1 rfl
  refine bg_aload_n C d_mo_count_0 rfl rfl ?_
  refine bg_iload_n C d_mo_count_1 rfl rfl ?_
  refine bg_if_lt (tgt := 11) C d_mo_count_2 (by decide) ⟨by omega, by omega⟩ (fun h1 => ?_) (fun h1 => ?_)
  · refine bg_iconst C d_mo_count_11 ?_
    refine bg_goto (l := 16) C d_mo_count_12 (by decide) ?_
    refine bm_puti C cf_mo hI 0 0 rfl rfl (by decide) rfl rfl rfl (by omega) (by omega) rfl (Or.inl rfl) tw_677 d_mo_count_16 (fun w2 hI2 e2 => ?_)
    have A2_28 : ∀ i, w2 28 i = w0 28 i := fun i => by rw [e2]; exact bgU_ne i (by decide)
    have A2_29 : ∀ i, w2 29 i = w0 29 i := fun i => by rw [e2]; exact bgU_ne i (by decide)
    have A2_30 : ∀ i, w2 30 i = w0 30 i := fun i => by rw [e2]; exact bgU_ne i (by decide)
    have A2_34 : ∀ i, w2 34 i = w0 34 i := fun i => by rw [e2]; exact bgU_ne i (by decide)
    have g2_0 : w2 27 0 = 1 := by rw [e2]; exact bgU_eq
    have g2_1 : w2 27 4 = w0 27 4 := by rw [e2]; exact bgU_nei (by decide)
    have g2_2 : w2 27 5 = w0 27 5 := by rw [e2]; exact bgU_nei (by decide)
    have g2_3 : w2 27 6 = w0 27 6 := by rw [e2]; exact bgU_nei (by decide)
    have g2_4 : w2 27 7 = w0 27 7 := by rw [e2]; exact bgU_nei (by decide)
    have g2_5 : w2 27 17 = w0 27 17 := by rw [e2]; exact bgU_nei (by decide)
    have g2_6 : w2 27 19 = w0 27 19 := by rw [e2]; exact bgU_nei (by decide)
    have g2_7 : w2 27 20 = w0 27 20 := by rw [e2]; exact bgU_nei (by decide)
    refine bg_aload_n C d_mo_count_19 rfl rfl ?_
    refine bm_geti C cf_mo hI2 0 0 rfl rfl (by decide) rfl rfl tw_677 d_mo_count_20 (fun v3 e3 a3 b3 => ?_)
    refine bg_if_le (tgt := 28) C d_mo_count_23 (by decide) ⟨by omega, by omega⟩ (fun h4 => by exfalso; omega) (fun h4 => ?_)
    refine bg_iconst C d_mo_count_26 ?_
    exact bg_iret C d_mo_count_27 (fun h => by cases h) (Or.inl rfl) (Nat.zero_le _) (Nat.zero_le _) ⟨_, rfl, hI2, bmB_of A2_28 A2_29 A2_30 A2_34 (by omega) (by omega) (by omega) (by omega) (by omega) (by omega) (by omega) hB⟩
  · refine bg_iload_n C d_mo_count_5 rfl rfl ?_
    refine bg_bipush C d_mo_count_6 (by decide +kernel) ?_
    refine bg_icmp_le (tgt := 15) C d_mo_count_8 (by decide) ⟨by omega, by omega⟩ ⟨by omega, by omega⟩ (fun h5 => ?_) (fun h5 => ?_)
    · refine bg_iconst C d_mo_count_15 ?_
      refine bm_puti C cf_mo hI 0 0 rfl rfl (by decide) rfl rfl rfl (by omega) (by omega) rfl (Or.inl rfl) tw_677 d_mo_count_16 (fun w6 hI6 e6 => ?_)
      have A6_28 : ∀ i, w6 28 i = w0 28 i := fun i => by rw [e6]; exact bgU_ne i (by decide)
      have A6_29 : ∀ i, w6 29 i = w0 29 i := fun i => by rw [e6]; exact bgU_ne i (by decide)
      have A6_30 : ∀ i, w6 30 i = w0 30 i := fun i => by rw [e6]; exact bgU_ne i (by decide)
      have A6_34 : ∀ i, w6 34 i = w0 34 i := fun i => by rw [e6]; exact bgU_ne i (by decide)
      have g6_0 : w6 27 0 = 0 := by rw [e6]; exact bgU_eq
      have g6_1 : w6 27 4 = w0 27 4 := by rw [e6]; exact bgU_nei (by decide)
      have g6_2 : w6 27 5 = w0 27 5 := by rw [e6]; exact bgU_nei (by decide)
      have g6_3 : w6 27 6 = w0 27 6 := by rw [e6]; exact bgU_nei (by decide)
      have g6_4 : w6 27 7 = w0 27 7 := by rw [e6]; exact bgU_nei (by decide)
      have g6_5 : w6 27 17 = w0 27 17 := by rw [e6]; exact bgU_nei (by decide)
      have g6_6 : w6 27 19 = w0 27 19 := by rw [e6]; exact bgU_nei (by decide)
      have g6_7 : w6 27 20 = w0 27 20 := by rw [e6]; exact bgU_nei (by decide)
      refine bg_aload_n C d_mo_count_19 rfl rfl ?_
      refine bm_geti C cf_mo hI6 0 0 rfl rfl (by decide) rfl rfl tw_677 d_mo_count_20 (fun v7 e7 a7 b7 => ?_)
      refine bg_if_le (tgt := 28) C d_mo_count_23 (by decide) ⟨by omega, by omega⟩ (fun h8 => ?_) (fun h8 => by exfalso; omega)
      refine bg_iload_n C d_mo_count_28 rfl rfl ?_
      refine bg_if_ne (tgt := 50) C d_mo_count_29 (by decide) ⟨by omega, by omega⟩ (fun h9 => ?_) (fun h9 => ?_)
      · refine bg_iload_n C d_mo_count_50 rfl rfl ?_
        refine bg_iconst C d_mo_count_51 ?_
        refine bg_icmp_ne (tgt := 62) C d_mo_count_52 (by decide) ⟨by omega, by omega⟩ ⟨by omega, by omega⟩ (fun h10 => ?_) (fun h10 => ?_)
        · refine bg_iload_n C d_mo_count_62 rfl rfl ?_
          refine bg_iconst C d_mo_count_63 ?_
          refine bg_icmp_ne (tgt := 74) C d_mo_count_64 (by decide) ⟨by omega, by omega⟩ ⟨by omega, by omega⟩ (fun h11 => ?_) (fun h11 => ?_)
          · refine bg_iload_n C d_mo_count_74 rfl rfl ?_
            refine bg_iconst C d_mo_count_75 ?_
            refine bg_icmp_ne (tgt := 97) C d_mo_count_76 (by decide) ⟨by omega, by omega⟩ ⟨by omega, by omega⟩ (fun h12 => ?_) (fun h12 => ?_)
            · refine bg_iload_n C d_mo_count_97 rfl rfl ?_
              refine bg_iconst C d_mo_count_98 ?_
              refine bg_icmp_ne (tgt := 109) C d_mo_count_99 (by decide) ⟨by omega, by omega⟩ ⟨by omega, by omega⟩ (fun h13 => ?_) (fun h13 => ?_)
              · refine bg_iload_n C d_mo_count_109 rfl rfl ?_
                refine bg_iconst C d_mo_count_110 ?_
                refine bg_icmp_ne (tgt := 121) C d_mo_count_111 (by decide) ⟨by omega, by omega⟩ ⟨by omega, by omega⟩ (fun h14 => ?_) (fun h14 => ?_)
                · refine bg_iload_n C d_mo_count_121 rfl rfl ?_
                  refine bg_bipush C d_mo_count_122 (by decide +kernel) ?_
                  refine bg_icmp_ne (tgt := 134) C d_mo_count_124 (by decide) ⟨by omega, by omega⟩ ⟨by omega, by omega⟩ (fun h15 => ?_) (fun h15 => ?_)
                  · refine bg_aload_n C d_mo_count_134 rfl rfl ?_
                    refine bg_ci C (m_mo_isDown hG hI6.1) (bg_invV C cf_mo rfl tw_776 ti_mo_isDown ts_mo_isDown tc_mo_isDown tw_42 ⟨by decide, by decide⟩ (nA := 0) (by decide +kernel) rfl d_mo_count_135 rfl) rfl (by rw [hR]; exact ⟨by decide, by decide⟩) (by rw [hR]; exact ⟨by decide, by decide⟩) (Nat.le_of_ble_eq_true rfl) rfl (fun v16 w16 p16 => ?_)
                    obtain ⟨rfl, r16_0, r16_1, r16_2, r16_3⟩ := p16
                    refine bg_if_eq (tgt := 145) C d_mo_count_138 (by decide) ⟨by omega, by omega⟩ (fun h17 => ?_) (fun h17 => ?_)
                    · refine bg_iconst C d_mo_count_145 ?_
                      exact bg_iret C d_mo_count_146 (fun h => by cases h) (Or.inl rfl) (Nat.zero_le _) (Nat.zero_le _) ⟨_, rfl, hI6, bmB_of A6_28 A6_29 A6_30 A6_34 (by omega) (by omega) (by omega) (by omega) (by omega) (by omega) (by omega) hB⟩
                    · refine bg_iconst C d_mo_count_141 ?_
                      refine bg_goto (l := 146) C d_mo_count_142 (by decide) ?_
                      exact bg_iret C d_mo_count_146 (fun h => by cases h) (Or.inl rfl) (Nat.zero_le _) (Nat.zero_le _) ⟨_, rfl, hI6, bmB_of A6_28 A6_29 A6_30 A6_34 (by omega) (by omega) (by omega) (by omega) (by omega) (by omega) (by omega) hB⟩
                  · refine bg_aload_n C d_mo_count_127 rfl rfl ?_
                    refine bq_get0 C cf_mo 11 11 rfl rfl (by decide) rfl tw_688 d_mo_count_128 (fun v18 e18 => ?_)
                    refine bg_goto (l := 146) C d_mo_count_131 (by decide) ?_
                    exact bg_iret C d_mo_count_146 (fun h => by cases h) (Or.inl rfl) (Nat.zero_le _) (Nat.zero_le _) ⟨_, rfl, hI6, bmB_of A6_28 A6_29 A6_30 A6_34 (by omega) (by omega) (by omega) (by omega) (by omega) (by omega) (by omega) hB⟩
                · refine bg_aload_n C d_mo_count_114 rfl rfl ?_
                  refine bq_get0 C cf_mo 13 13 rfl rfl (by decide) rfl tw_690 d_mo_count_115 (fun v19 e19 => ?_)
                  refine bg_goto (l := 146) C d_mo_count_118 (by decide) ?_
                  exact bg_iret C d_mo_count_146 (fun h => by cases h) (Or.inl rfl) (Nat.zero_le _) (Nat.zero_le _) ⟨_, rfl, hI6, bmB_of A6_28 A6_29 A6_30 A6_34 (by omega) (by omega) (by omega) (by omega) (by omega) (by omega) (by omega) hB⟩
              · refine bg_aload_n C d_mo_count_102 rfl rfl ?_
                refine bm_geti C cf_mo hI6 17 17 rfl rfl (by decide) rfl rfl tw_694 d_mo_count_103 (fun v20 e20 a20 b20 => ?_)
                refine bg_goto (l := 146) C d_mo_count_106 (by decide) ?_
                exact bg_iret C d_mo_count_146 (fun h => by cases h) (Or.inl rfl) (Nat.zero_le _) (Nat.zero_le _) ⟨_, rfl, hI6, bmB_of A6_28 A6_29 A6_30 A6_34 (by omega) (by omega) (by omega) (by omega) (by omega) (by omega) (by omega) hB⟩
            · refine bg_aload_n C d_mo_count_79 rfl rfl ?_
              refine bm_geti C cf_mo hI6 6 6 rfl rfl (by decide) rfl rfl tw_683 d_mo_count_80 (fun v21 e21 a21 b21 => ?_)
              refine bg_if_eq (tgt := 93) C d_mo_count_83 (by decide) ⟨by omega, by omega⟩ (fun h22 => ?_) (fun h22 => ?_)
              · refine bg_iconst C d_mo_count_93 ?_
                refine bg_goto (l := 146) C d_mo_count_94 (by decide) ?_
                exact bg_iret C d_mo_count_146 (fun h => by cases h) (Or.inl rfl) (Nat.zero_le _) (Nat.zero_le _) ⟨_, rfl, hI6, bmB_of A6_28 A6_29 A6_30 A6_34 (by omega) (by omega) (by omega) (by omega) (by omega) (by omega) (by omega) hB⟩
              · refine bg_aload_n C d_mo_count_86 rfl rfl ?_
                refine bm_geti C cf_mo hI6 7 7 rfl rfl (by decide) rfl rfl tw_684 d_mo_count_87 (fun v23 e23 a23 b23 => ?_)
                refine bg_goto (l := 146) C d_mo_count_90 (by decide) ?_
                exact bg_iret C d_mo_count_146 (fun h => by cases h) (Or.inl rfl) (Nat.zero_le _) (Nat.zero_le _) ⟨_, rfl, hI6, bmB_of A6_28 A6_29 A6_30 A6_34 (by omega) (by omega) (by omega) (by omega) (by omega) (by omega) (by omega) hB⟩
          · refine bg_aload_n C d_mo_count_67 rfl rfl ?_
            refine bq_get0 C cf_mo 15 15 rfl rfl (by decide) rfl tw_692 d_mo_count_68 (fun v24 e24 => ?_)
            refine bg_goto (l := 146) C d_mo_count_71 (by decide) ?_
            exact bg_iret C d_mo_count_146 (fun h => by cases h) (Or.inl rfl) (Nat.zero_le _) (Nat.zero_le _) ⟨_, rfl, hI6, bmB_of A6_28 A6_29 A6_30 A6_34 (by omega) (by omega) (by omega) (by omega) (by omega) (by omega) (by omega) hB⟩
        · refine bg_aload_n C d_mo_count_55 rfl rfl ?_
          refine bq_get0 C cf_mo 14 14 rfl rfl (by decide) rfl tw_691 d_mo_count_56 (fun v25 e25 => ?_)
          refine bg_goto (l := 146) C d_mo_count_59 (by decide) ?_
          exact bg_iret C d_mo_count_146 (fun h => by cases h) (Or.inl rfl) (Nat.zero_le _) (Nat.zero_le _) ⟨_, rfl, hI6, bmB_of A6_28 A6_29 A6_30 A6_34 (by omega) (by omega) (by omega) (by omega) (by omega) (by omega) (by omega) hB⟩
      · refine bg_aload_n C d_mo_count_32 rfl rfl ?_
        refine bg_ci C (m_mo_isDown hG hI6.1) (bg_invV C cf_mo rfl tw_776 ti_mo_isDown ts_mo_isDown tc_mo_isDown tw_42 ⟨by decide, by decide⟩ (nA := 0) (by decide +kernel) rfl d_mo_count_33 rfl) rfl (by rw [hR]; exact ⟨by decide, by decide⟩) (by rw [hR]; exact ⟨by decide, by decide⟩) (Nat.le_of_ble_eq_true rfl) rfl (fun v26 w26 p26 => ?_)
        obtain ⟨rfl, r26_0, r26_1, r26_2, r26_3⟩ := p26
        refine bg_if_eq (tgt := 43) C d_mo_count_36 (by decide) ⟨by omega, by omega⟩ (fun h27 => ?_) (fun h27 => ?_)
        · refine bg_aload_n C d_mo_count_43 rfl rfl ?_
          refine bg_ci C (m_mo_visible hG hI6.1) (bg_invV C cf_mo rfl tw_787 ti_mo_visible ts_mo_visible tc_mo_visible tw_42 ⟨by decide, by decide⟩ (nA := 0) (by decide +kernel) rfl d_mo_count_44 rfl) rfl (by rw [hR]; exact ⟨by decide, by decide⟩) (by rw [hR]; exact ⟨by decide, by decide⟩) (Nat.le_of_ble_eq_true rfl) rfl (fun v28 w28 p28 => ?_)
          obtain ⟨rfl, r28_0, r28_1, r28_2⟩ := p28
          refine bg_goto (l := 146) C d_mo_count_47 (by decide) ?_
          exact bg_iret C d_mo_count_146 (fun h => by cases h) (Or.inl rfl) (Nat.zero_le _) (Nat.zero_le _) ⟨_, rfl, hI6, bmB_of A6_28 A6_29 A6_30 A6_34 (by omega) (by omega) (by omega) (by omega) (by omega) (by omega) (by omega) hB⟩
        · refine bg_iconst C d_mo_count_39 ?_
          refine bg_goto (l := 146) C d_mo_count_40 (by decide) ?_
          exact bg_iret C d_mo_count_146 (fun h => by cases h) (Or.inl rfl) (Nat.zero_le _) (Nat.zero_le _) ⟨_, rfl, hI6, bmB_of A6_28 A6_29 A6_30 A6_34 (by omega) (by omega) (by omega) (by omega) (by omega) (by omega) (by omega) hB⟩
    · refine bg_iconst C d_mo_count_11 ?_
      refine bg_goto (l := 16) C d_mo_count_12 (by decide) ?_
      refine bm_puti C cf_mo hI 0 0 rfl rfl (by decide) rfl rfl rfl (by omega) (by omega) rfl (Or.inl rfl) tw_677 d_mo_count_16 (fun w29 hI29 e29 => ?_)
      have A29_28 : ∀ i, w29 28 i = w0 28 i := fun i => by rw [e29]; exact bgU_ne i (by decide)
      have A29_29 : ∀ i, w29 29 i = w0 29 i := fun i => by rw [e29]; exact bgU_ne i (by decide)
      have A29_30 : ∀ i, w29 30 i = w0 30 i := fun i => by rw [e29]; exact bgU_ne i (by decide)
      have A29_34 : ∀ i, w29 34 i = w0 34 i := fun i => by rw [e29]; exact bgU_ne i (by decide)
      have g29_0 : w29 27 0 = 1 := by rw [e29]; exact bgU_eq
      have g29_1 : w29 27 4 = w0 27 4 := by rw [e29]; exact bgU_nei (by decide)
      have g29_2 : w29 27 5 = w0 27 5 := by rw [e29]; exact bgU_nei (by decide)
      have g29_3 : w29 27 6 = w0 27 6 := by rw [e29]; exact bgU_nei (by decide)
      have g29_4 : w29 27 7 = w0 27 7 := by rw [e29]; exact bgU_nei (by decide)
      have g29_5 : w29 27 17 = w0 27 17 := by rw [e29]; exact bgU_nei (by decide)
      have g29_6 : w29 27 19 = w0 27 19 := by rw [e29]; exact bgU_nei (by decide)
      have g29_7 : w29 27 20 = w0 27 20 := by rw [e29]; exact bgU_nei (by decide)
      refine bg_aload_n C d_mo_count_19 rfl rfl ?_
      refine bm_geti C cf_mo hI29 0 0 rfl rfl (by decide) rfl rfl tw_677 d_mo_count_20 (fun v30 e30 a30 b30 => ?_)
      refine bg_if_le (tgt := 28) C d_mo_count_23 (by decide) ⟨by omega, by omega⟩ (fun h31 => by exfalso; omega) (fun h31 => ?_)
      refine bg_iconst C d_mo_count_26 ?_
      exact bg_iret C d_mo_count_27 (fun h => by cases h) (Or.inl rfl) (Nat.zero_le _) (Nat.zero_le _) ⟨_, rfl, hI29, bmB_of A29_28 A29_29 A29_30 A29_34 (by omega) (by omega) (by omega) (by omega) (by omega) (by omega) (by omega) hB⟩
