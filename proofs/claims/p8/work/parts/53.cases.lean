section LWC
variable {K : bgK} {b N : Nat} {ss : Nat → Int32} {Q : State → Prop} {n z : Nat} {w : bgW} {i : Int}
set_option maxRecDepth 20000 in
set_option maxHeartbeats 4000000 in
theorem lc_0 (C : bgCx K "BlockGraphLaw" code 7 ret) (hR : kR K = room_1) (hX : va_X b N ss (kS K) (kS K).heap) (hb : b < (kS K).heap.size) (hA : ¬ bgA K.1 b) (he : kAd K 99 = b) (hN : N ≤ 2048) (h0 : 0 ≤ i) (h1 : i + 3 < (N : Int)) (hn : n ≤ 1000) (hz : z ≤ 11000) (hw : lwOk w) (kk : ∀ n' z' w' o5 o6, n' ≤ n + 1 → z' ≤ z + 6 → lwOk w' → bgX K false n' z' Q w' 545 [some (br 99), some (br 0), some (br 27), some (br 36), some (bi i), o5, o6] []) : bgX K false n z Q w 116 [some (br 99), some (br 0), some (br 27), some (br 36), some (bi i), none, none] [] := by
  refine bg_aload_n C d_lw_law_116 rfl rfl ?_
  refine bg_ci C (m_bg_format C.ok hw.1) (bg_invV C cf_bg rfl tw_232 ti_bg_format ts_bg_format tc_bg_format tw_35 ⟨by decide, by decide⟩ (nA := 0) (by decide +kernel) rfl d_lw_law_117 rfl) rfl (by rw [hR]; exact ⟨by decide, by decide⟩) (by rw [hR]; exact ⟨by show n + 0 ≤ 1076; omega, by show z + 0 ≤ 11430; omega⟩) (Nat.le_of_ble_eq_true rfl) rfl (fun v1 w1 p1 => ?_)
  obtain ⟨j1, r1_0, r1_1⟩ := p1
  have hw1 := hw.cls j1
  refine bg_pop C d_lw_law_120 rfl ?_
  refine bg_aload_n C d_lw_law_121 rfl rfl ?_
  refine bg_ci C (m_mo_format C.ok hw1.2.1 hw1.2.2) (bg_invV C cf_mo rfl tw_752 ti_mo_format ts_mo_format tc_mo_format tw_42 ⟨by decide, by decide⟩ (nA := 0) (by decide +kernel) rfl d_lw_law_122 rfl) rfl (by rw [hR]; exact ⟨by decide, by decide⟩) (by rw [hR]; exact ⟨by show n + 0 ≤ 1076; omega, by show z + 0 ≤ 11430; omega⟩) (Nat.le_of_ble_eq_true rfl) rfl (fun v2 w2 p2 => ?_)
  obtain ⟨j2, b2⟩ := p2
  have hw2 := hw1.mod j2 b2 (by decide)
  refine bg_pop C d_lw_law_125 rfl ?_
  refine bg_goto (l := 545) C d_lw_law_126 (by decide) ?_
  exact kk n z w2 (none) (none) (by omega) (by omega) hw2
set_option maxRecDepth 20000 in
set_option maxHeartbeats 4000000 in
theorem lc_1 (C : bgCx K "BlockGraphLaw" code 7 ret) (hR : kR K = room_1) (hX : va_X b N ss (kS K) (kS K).heap) (hb : b < (kS K).heap.size) (hA : ¬ bgA K.1 b) (he : kAd K 99 = b) (hN : N ≤ 2048) (h0 : 0 ≤ i) (h1 : i + 3 < (N : Int)) (hn : n ≤ 1000) (hz : z ≤ 11000) (hw : lwOk w) (kk : ∀ n' z' w' o5 o6, n' ≤ n + 1 → z' ≤ z + 6 → lwOk w' → bgX K false n' z' Q w' 545 [some (br 99), some (br 0), some (br 27), some (br 36), some (bi i), o5, o6] []) : bgX K false n z Q w 129 [some (br 99), some (br 0), some (br 27), some (br 36), some (bi i), none, none] [] := by
  refine bg_aload_n C d_lw_law_129 rfl rfl ?_
  refine bg_cic C (m_lw_begin C.ok hw.1) (bg_invSW C tw_327 tt_lw_begin tc_lw_begin tw_34 ⟨by decide, by decide⟩ (nA := 1) (by decide +kernel) rfl d_lw_law_130 rfl) rfl (by rw [hR]; exact ⟨by decide, by decide⟩) (by rw [hR]; exact ⟨by show n + 1 ≤ 1076; omega, by show z + 6 ≤ 11430; omega⟩) (Nat.le_of_ble_eq_true rfl) rfl (fun v1 w1 p1 => ?_)
  have j1 := p1
  have hw1 := hw.rel j1
  refine bg_istore C d_lw_law_133 (Nat.le_of_ble_eq_true rfl) ?_
  refine bg_aload_n C d_lw_law_135 rfl rfl ?_
  refine bg_cv C (m_mo_begin C.ok hw1.2.1 hw1.2.2) (bg_invV C cf_mo rfl tw_772 ti_mo_begin ts_mo_begin tc_mo_begin tw_42 ⟨by decide, by decide⟩ (nA := 0) (by decide +kernel) rfl d_lw_law_136 rfl) rfl (by rw [hR]; exact ⟨by decide, by decide⟩) (by rw [hR]; exact ⟨by show (n + 1) + 0 ≤ 1076; omega, by show (z + 6) + 0 ≤ 11430; omega⟩) (Nat.le_of_ble_eq_true rfl) rfl (fun w2 p2 => ?_)
  obtain ⟨j2, b2⟩ := p2
  have hw2 := hw1.mod j2 b2 (by decide)
  refine bg_goto (l := 545) C d_lw_law_139 (by decide) ?_
  exact kk (n + 1) (z + 6) w2 (some (bi v1)) (none) (by omega) (by omega) hw2
set_option maxRecDepth 20000 in
set_option maxHeartbeats 4000000 in
theorem lc_2 (C : bgCx K "BlockGraphLaw" code 7 ret) (hR : kR K = room_1) (hX : va_X b N ss (kS K) (kS K).heap) (hb : b < (kS K).heap.size) (hA : ¬ bgA K.1 b) (he : kAd K 99 = b) (hN : N ≤ 2048) (h0 : 0 ≤ i) (h1 : i + 3 < (N : Int)) (hn : n ≤ 1000) (hz : z ≤ 11000) (hw : lwOk w) (kk : ∀ n' z' w' o5 o6, n' ≤ n + 1 → z' ≤ z + 6 → lwOk w' → bgX K false n' z' Q w' 545 [some (br 99), some (br 0), some (br 27), some (br 36), some (bi i), o5, o6] []) : bgX K false n z Q w 142 [some (br 99), some (br 0), some (br 27), some (br 36), some (bi i), none, none] [] := by
  refine bg_aload_n C d_lw_law_142 rfl rfl ?_
  refine bg_aload_n C d_lw_law_143 rfl rfl ?_
  refine bg_iload C d_lw_law_144 rfl ?_
  refine bg_iconst C d_lw_law_146 ?_
  refine bg_iadd C d_lw_law_147 ?_
  refine bg_sld C hX hb hA he (by omega) (by omega) hN d_lw_law_148 ?_
  refine bg_aload_n C d_lw_law_149 rfl rfl ?_
  refine bg_iload C d_lw_law_150 rfl ?_
  refine bg_iconst C d_lw_law_152 ?_
  refine bg_iadd C d_lw_law_153 ?_
  refine bg_sld C hX hb hA he (by omega) (by omega) hN d_lw_law_154 ?_
  refine bg_aload_n C d_lw_law_155 rfl rfl ?_
  refine bg_iload C d_lw_law_156 rfl ?_
  refine bg_iconst C d_lw_law_158 ?_
  refine bg_iadd C d_lw_law_159 ?_
  refine bg_sld C hX hb hA he (by omega) (by omega) hN d_lw_law_160 ?_
  refine bg_aload_n C d_lw_law_161 rfl rfl ?_
  refine bg_cic C (m_lw_add C.ok hw.1 lwSv_r.1 lwSv_r.2 lwSv_r.1 lwSv_r.2 lwSv_r.1 lwSv_r.2) (bg_invSW C tw_410 tt_lw_add tc_lw_add tw_34 ⟨by decide, by decide⟩ (nA := 5) (by decide +kernel) rfl d_lw_law_162 rfl) rfl (by rw [hR]; exact ⟨by decide, by decide⟩) (by rw [hR]; exact ⟨by show n + 1 ≤ 1076; omega, by show z + 6 ≤ 11430; omega⟩) (Nat.le_of_ble_eq_true rfl) rfl (fun v1 w1 p1 => ?_)
  have j1 := p1
  have hw1 := hw.rel j1
  refine bg_istore C d_lw_law_165 (Nat.le_of_ble_eq_true rfl) ?_
  refine bg_aload_n C d_lw_law_167 rfl rfl ?_
  refine bg_aload_n C d_lw_law_168 rfl rfl ?_
  refine bg_iload C d_lw_law_169 rfl ?_
  refine bg_iconst C d_lw_law_171 ?_
  refine bg_iadd C d_lw_law_172 ?_
  refine bg_sld C hX hb hA he (by omega) (by omega) hN d_lw_law_173 ?_
  refine bg_aload_n C d_lw_law_174 rfl rfl ?_
  refine bg_iload C d_lw_law_175 rfl ?_
  refine bg_iconst C d_lw_law_177 ?_
  refine bg_iadd C d_lw_law_178 ?_
  refine bg_sld C hX hb hA he (by omega) (by omega) hN d_lw_law_179 ?_
  refine bg_aload_n C d_lw_law_180 rfl rfl ?_
  refine bg_iload C d_lw_law_181 rfl ?_
  refine bg_iconst C d_lw_law_183 ?_
  refine bg_iadd C d_lw_law_184 ?_
  refine bg_sld C hX hb hA he (by omega) (by omega) hN d_lw_law_185 ?_
  refine bg_ci C (m_mo_add C.ok hw1.2.1 lwSv_r.1 lwSv_r.2 lwSv_r.1 lwSv_r.2 lwSv_r.1 lwSv_r.2 hw1.2.2) (bg_invV C cf_mo rfl tw_780 ti_mo_add ts_mo_add tc_mo_add tw_42 ⟨by decide, by decide⟩ (nA := 3) (by decide +kernel) rfl d_lw_law_186 rfl) rfl (by rw [hR]; exact ⟨by decide, by decide⟩) (by rw [hR]; exact ⟨by show (n + 1) + 0 ≤ 1076; omega, by show (z + 6) + 0 ≤ 11430; omega⟩) (Nat.le_of_ble_eq_true rfl) rfl (fun v2 w2 p2 => ?_)
  obtain ⟨j2, b2⟩ := p2
  have hw2 := hw1.mod j2 b2 (by decide)
  refine bg_istore C d_lw_law_189 (Nat.le_of_ble_eq_true rfl) ?_
  refine bg_goto (l := 545) C d_lw_law_191 (by decide) ?_
  exact kk (n + 1) (z + 6) w2 (some (bi v1)) (some (bi v2)) (by omega) (by omega) hw2
set_option maxRecDepth 20000 in
set_option maxHeartbeats 4000000 in
theorem lc_3 (C : bgCx K "BlockGraphLaw" code 7 ret) (hR : kR K = room_1) (hX : va_X b N ss (kS K) (kS K).heap) (hb : b < (kS K).heap.size) (hA : ¬ bgA K.1 b) (he : kAd K 99 = b) (hN : N ≤ 2048) (h0 : 0 ≤ i) (h1 : i + 3 < (N : Int)) (hn : n ≤ 1000) (hz : z ≤ 11000) (hw : lwOk w) (kk : ∀ n' z' w' o5 o6, n' ≤ n + 1 → z' ≤ z + 6 → lwOk w' → bgX K false n' z' Q w' 545 [some (br 99), some (br 0), some (br 27), some (br 36), some (bi i), o5, o6] []) : bgX K false n z Q w 194 [some (br 99), some (br 0), some (br 27), some (br 36), some (bi i), none, none] [] := by
  refine bg_aload_n C d_lw_law_194 rfl rfl ?_
  refine bg_aload_n C d_lw_law_195 rfl rfl ?_
  refine bg_iload C d_lw_law_196 rfl ?_
  refine bg_iconst C d_lw_law_198 ?_
  refine bg_iadd C d_lw_law_199 ?_
  refine bg_sld C hX hb hA he (by omega) (by omega) hN d_lw_law_200 ?_
  refine bg_cic C (m_lw_remove C.ok hw.1 lwSv_r.1 lwSv_r.2) (bg_invSW C tw_479 tt_lw_remove tc_lw_remove tw_34 ⟨by decide, by decide⟩ (nA := 2) (by decide +kernel) rfl d_lw_law_201 rfl) rfl (by rw [hR]; exact ⟨by decide, by decide⟩) (by rw [hR]; exact ⟨by show n + 1 ≤ 1076; omega, by show z + 6 ≤ 11430; omega⟩) (Nat.le_of_ble_eq_true rfl) rfl (fun v1 w1 p1 => ?_)
  have j1 := p1
  have hw1 := hw.rel j1
  refine bg_istore C d_lw_law_204 (Nat.le_of_ble_eq_true rfl) ?_
  refine bg_aload_n C d_lw_law_206 rfl rfl ?_
  refine bg_aload_n C d_lw_law_207 rfl rfl ?_
  refine bg_iload C d_lw_law_208 rfl ?_
  refine bg_iconst C d_lw_law_210 ?_
  refine bg_iadd C d_lw_law_211 ?_
  refine bg_sld C hX hb hA he (by omega) (by omega) hN d_lw_law_212 ?_
  refine bg_cv C (m_mo_remove C.ok hw1.2.1 lwSv_r.1 lwSv_r.2 hw1.2.2) (bg_invV C cf_mo rfl tw_791 ti_mo_remove ts_mo_remove tc_mo_remove tw_42 ⟨by decide, by decide⟩ (nA := 1) (by decide +kernel) rfl d_lw_law_213 rfl) rfl (by rw [hR]; exact ⟨by decide, by decide⟩) (by rw [hR]; exact ⟨by show (n + 1) + 0 ≤ 1076; omega, by show (z + 6) + 0 ≤ 11430; omega⟩) (Nat.le_of_ble_eq_true rfl) rfl (fun w2 p2 => ?_)
  obtain ⟨j2, b2⟩ := p2
  have hw2 := hw1.mod j2 b2 (by decide)
  refine bg_goto (l := 545) C d_lw_law_216 (by decide) ?_
  exact kk (n + 1) (z + 6) w2 (some (bi v1)) (none) (by omega) (by omega) hw2
set_option maxRecDepth 20000 in
set_option maxHeartbeats 4000000 in
theorem lc_4 (C : bgCx K "BlockGraphLaw" code 7 ret) (hR : kR K = room_1) (hX : va_X b N ss (kS K) (kS K).heap) (hb : b < (kS K).heap.size) (hA : ¬ bgA K.1 b) (he : kAd K 99 = b) (hN : N ≤ 2048) (h0 : 0 ≤ i) (h1 : i + 3 < (N : Int)) (hn : n ≤ 1000) (hz : z ≤ 11000) (hw : lwOk w) (kk : ∀ n' z' w' o5 o6, n' ≤ n + 1 → z' ≤ z + 6 → lwOk w' → bgX K false n' z' Q w' 545 [some (br 99), some (br 0), some (br 27), some (br 36), some (bi i), o5, o6] []) : bgX K false n z Q w 219 [some (br 99), some (br 0), some (br 27), some (br 36), some (bi i), none, none] [] := by
  refine bg_aload_n C d_lw_law_219 rfl rfl ?_
  refine bg_aload_n C d_lw_law_220 rfl rfl ?_
  refine bg_cic C (m_lw_commit C.ok hw.1) (bg_invSW C tw_511 tt_lw_commit tc_lw_commit tw_34 ⟨by decide, by decide⟩ (nA := 2) (by decide +kernel) rfl d_lw_law_221 rfl) rfl (by rw [hR]; exact ⟨by decide, by decide⟩) (by rw [hR]; exact ⟨by show n + 1 ≤ 1076; omega, by show z + 6 ≤ 11430; omega⟩) (Nat.le_of_ble_eq_true rfl) rfl (fun v1 w1 p1 => ?_)
  have j1 := p1
  have hw1 := hw.rel j1
  refine bg_istore C d_lw_law_224 (Nat.le_of_ble_eq_true rfl) ?_
  refine bg_aload_n C d_lw_law_226 rfl rfl ?_
  refine bg_ci C (m_mo_commit C.ok hw1.2.1 hw1.2.2) (bg_invV C cf_mo rfl tw_799 ti_mo_commit ts_mo_commit tc_mo_commit tw_42 ⟨by decide, by decide⟩ (nA := 0) (by decide +kernel) rfl d_lw_law_227 rfl) rfl (by rw [hR]; exact ⟨by decide, by decide⟩) (by rw [hR]; exact ⟨by show (n + 1) + 0 ≤ 1076; omega, by show (z + 6) + 0 ≤ 11430; omega⟩) (Nat.le_of_ble_eq_true rfl) rfl (fun v2 w2 p2 => ?_)
  obtain ⟨j2, b2⟩ := p2
  have hw2 := hw1.mod j2 b2 (by decide)
  refine bg_istore C d_lw_law_230 (Nat.le_of_ble_eq_true rfl) ?_
  refine bg_goto (l := 545) C d_lw_law_232 (by decide) ?_
  exact kk (n + 1) (z + 6) w2 (some (bi v1)) (some (bi v2)) (by omega) (by omega) hw2
set_option maxRecDepth 20000 in
set_option maxHeartbeats 4000000 in
theorem lc_5 (C : bgCx K "BlockGraphLaw" code 7 ret) (hR : kR K = room_1) (hX : va_X b N ss (kS K) (kS K).heap) (hb : b < (kS K).heap.size) (hA : ¬ bgA K.1 b) (he : kAd K 99 = b) (hN : N ≤ 2048) (h0 : 0 ≤ i) (h1 : i + 3 < (N : Int)) (hn : n ≤ 1000) (hz : z ≤ 11000) (hw : lwOk w) (kk : ∀ n' z' w' o5 o6, n' ≤ n + 1 → z' ≤ z + 6 → lwOk w' → bgX K false n' z' Q w' 545 [some (br 99), some (br 0), some (br 27), some (br 36), some (bi i), o5, o6] []) : bgX K false n z Q w 235 [some (br 99), some (br 0), some (br 27), some (br 36), some (bi i), none, none] [] := by
  refine bg_aload_n C d_lw_law_235 rfl rfl ?_
  refine bg_aload_n C d_lw_law_236 rfl rfl ?_
  refine bg_cic C (m_lw_abort C.ok hw.1) (bg_invSW C tw_530 tt_lw_abort tc_lw_abort tw_34 ⟨by decide, by decide⟩ (nA := 2) (by decide +kernel) rfl d_lw_law_237 rfl) rfl (by rw [hR]; exact ⟨by decide, by decide⟩) (by rw [hR]; exact ⟨by show n + 1 ≤ 1076; omega, by show z + 6 ≤ 11430; omega⟩) (Nat.le_of_ble_eq_true rfl) rfl (fun v1 w1 p1 => ?_)
  have j1 := p1
  have hw1 := hw.rel j1
  refine bg_istore C d_lw_law_240 (Nat.le_of_ble_eq_true rfl) ?_
  refine bg_aload_n C d_lw_law_242 rfl rfl ?_
  refine bg_ci C (m_mo_abort C.ok hw1.2.1 hw1.2.2) (bg_invV C cf_mo rfl tw_811 ti_mo_abort ts_mo_abort tc_mo_abort tw_42 ⟨by decide, by decide⟩ (nA := 0) (by decide +kernel) rfl d_lw_law_243 rfl) rfl (by rw [hR]; exact ⟨by decide, by decide⟩) (by rw [hR]; exact ⟨by show (n + 1) + 0 ≤ 1076; omega, by show (z + 6) + 0 ≤ 11430; omega⟩) (Nat.le_of_ble_eq_true rfl) rfl (fun v2 w2 p2 => ?_)
  obtain ⟨j2, b2⟩ := p2
  have hw2 := hw1.mod j2 b2 (by decide)
  refine bg_istore C d_lw_law_246 (Nat.le_of_ble_eq_true rfl) ?_
  refine bg_goto (l := 545) C d_lw_law_248 (by decide) ?_
  exact kk (n + 1) (z + 6) w2 (some (bi v1)) (some (bi v2)) (by omega) (by omega) hw2
set_option maxRecDepth 20000 in
set_option maxHeartbeats 4000000 in
theorem lc_6 (C : bgCx K "BlockGraphLaw" code 7 ret) (hR : kR K = room_1) (hX : va_X b N ss (kS K) (kS K).heap) (hb : b < (kS K).heap.size) (hA : ¬ bgA K.1 b) (he : kAd K 99 = b) (hN : N ≤ 2048) (h0 : 0 ≤ i) (h1 : i + 3 < (N : Int)) (hn : n ≤ 1000) (hz : z ≤ 11000) (hw : lwOk w) (kk : ∀ n' z' w' o5 o6, n' ≤ n + 1 → z' ≤ z + 6 → lwOk w' → bgX K false n' z' Q w' 545 [some (br 99), some (br 0), some (br 27), some (br 36), some (bi i), o5, o6] []) : bgX K false n z Q w 251 [some (br 99), some (br 0), some (br 27), some (br 36), some (bi i), none, none] [] := by
  refine bg_aload_n C d_lw_law_251 rfl rfl ?_
  refine bg_aload_n C d_lw_law_252 rfl rfl ?_
  refine bg_iload C d_lw_law_253 rfl ?_
  refine bg_iconst C d_lw_law_255 ?_
  refine bg_iadd C d_lw_law_256 ?_
  refine bg_sld C hX hb hA he (by omega) (by omega) hN d_lw_law_257 ?_
  refine bg_cic C (m_lw_arm C.ok hw.1 lwSv_r.1 lwSv_r.2) (bg_invSW C tw_538 tt_lw_arm tc_lw_arm tw_34 ⟨by decide, by decide⟩ (nA := 2) (by decide +kernel) rfl d_lw_law_258 rfl) rfl (by rw [hR]; exact ⟨by decide, by decide⟩) (by rw [hR]; exact ⟨by show n + 1 ≤ 1076; omega, by show z + 6 ≤ 11430; omega⟩) (Nat.le_of_ble_eq_true rfl) rfl (fun v1 w1 p1 => ?_)
  obtain ⟨j1, f1a, f1b, f1c, f1d⟩ := p1
  have hw1 := hw.rel j1
  refine bg_istore C d_lw_law_261 (Nat.le_of_ble_eq_true rfl) ?_
  refine bg_aload_n C d_lw_law_263 rfl rfl ?_
  refine bg_aload_n C d_lw_law_264 rfl rfl ?_
  refine bg_iload C d_lw_law_265 rfl ?_
  refine bg_iconst C d_lw_law_267 ?_
  refine bg_iadd C d_lw_law_268 ?_
  refine bg_sld C hX hb hA he (by omega) (by omega) hN d_lw_law_269 ?_
  refine bg_cv C (m_mo_arm C.ok hw1.2.1 lwSv_r.1 lwSv_r.2 hw1.2.2) (bg_invV C cf_mo rfl tw_815 ti_mo_arm ts_mo_arm tc_mo_arm tw_42 ⟨by decide, by decide⟩ (nA := 1) (by decide +kernel) rfl d_lw_law_270 rfl) rfl (by rw [hR]; exact ⟨by decide, by decide⟩) (by rw [hR]; exact ⟨by show (n + 1) + 0 ≤ 1076; omega, by show (z + 6) + 0 ≤ 11430; omega⟩) (Nat.le_of_ble_eq_true rfl) rfl (fun w2 p2 => ?_)
  obtain ⟨j2, r2_0, r2_1, b2⟩ := p2
  have hw2 := hw1.mod j2 b2 (by decide)
  refine bg_aload_n C d_lw_law_273 rfl rfl ?_
  refine bg_ci C (m_mo_thrown C.ok hw2.2.1) (bg_invV C cf_mo rfl tw_748 ti_mo_thrown ts_mo_thrown tc_mo_thrown tw_42 ⟨by decide, by decide⟩ (nA := 0) (by decide +kernel) rfl d_lw_law_274 rfl) rfl (by rw [hR]; exact ⟨by decide, by decide⟩) (by rw [hR]; exact ⟨by show (n + 1) + 0 ≤ 1076; omega, by show (z + 6) + 0 ≤ 11430; omega⟩) (Nat.le_of_ble_eq_true rfl) rfl (fun v3 w3 p3 => ?_)
  obtain ⟨rfl, t3⟩ := p3
  refine bg_iload C d_lw_law_277 rfl ?_
  have key : v3 = v1 := by
    rcases (show v1 = 0 ∨ v1 = 1 by omega) with e | e
    · have := r2_0 (f1c e)
      omega
    · have := r2_1 (f1d e)
      omega
  refine bg_icmp_eq (tgt := 284) C d_lw_law_279 (by decide) ⟨by omega, by omega⟩ ⟨by omega, by omega⟩ (fun _ => ?_) (fun q => absurd key q)
  refine bg_goto (l := 545) C d_lw_law_284 (by decide) ?_
  exact kk (n + 1) (z + 6) w2 (some (bi v1)) (none) (by omega) (by omega) hw2
set_option maxRecDepth 20000 in
set_option maxHeartbeats 4000000 in
theorem lc_7 (C : bgCx K "BlockGraphLaw" code 7 ret) (hR : kR K = room_1) (hX : va_X b N ss (kS K) (kS K).heap) (hb : b < (kS K).heap.size) (hA : ¬ bgA K.1 b) (he : kAd K 99 = b) (hN : N ≤ 2048) (h0 : 0 ≤ i) (h1 : i + 3 < (N : Int)) (hn : n ≤ 1000) (hz : z ≤ 11000) (hw : lwOk w) (kk : ∀ n' z' w' o5 o6, n' ≤ n + 1 → z' ≤ z + 6 → lwOk w' → bgX K false n' z' Q w' 545 [some (br 99), some (br 0), some (br 27), some (br 36), some (bi i), o5, o6] []) : bgX K false n z Q w 287 [some (br 99), some (br 0), some (br 27), some (br 36), some (bi i), none, none] [] := by
  refine bg_aload_n C d_lw_law_287 rfl rfl ?_
  refine bg_ci C (m_bg_recover C.ok hw.1) (bg_invV C cf_bg rfl tw_301 ti_bg_recover ts_bg_recover tc_bg_recover tw_35 ⟨by decide, by decide⟩ (nA := 0) (by decide +kernel) rfl d_lw_law_288 rfl) rfl (by rw [hR]; exact ⟨by decide, by decide⟩) (by rw [hR]; exact ⟨by show n + 0 ≤ 1076; omega, by show z + 0 ≤ 11430; omega⟩) (Nat.le_of_ble_eq_true rfl) rfl (fun v1 w1 p1 => ?_)
  have j1 := p1
  have hw1 := hw.cls j1
  refine bg_pop C d_lw_law_291 rfl ?_
  refine bg_aload_n C d_lw_law_292 rfl rfl ?_
  refine bg_ci C (m_mo_recover C.ok hw1.2.1 hw1.2.2) (bg_invV C cf_mo rfl tw_819 ti_mo_recover ts_mo_recover tc_mo_recover tw_42 ⟨by decide, by decide⟩ (nA := 0) (by decide +kernel) rfl d_lw_law_293 rfl) rfl (by rw [hR]; exact ⟨by decide, by decide⟩) (by rw [hR]; exact ⟨by show n + 0 ≤ 1076; omega, by show z + 0 ≤ 11430; omega⟩) (Nat.le_of_ble_eq_true rfl) rfl (fun v2 w2 p2 => ?_)
  obtain ⟨j2, b2⟩ := p2
  have hw2 := hw1.mod j2 b2 (by decide)
  refine bg_pop C d_lw_law_296 rfl ?_
  refine bg_goto (l := 545) C d_lw_law_297 (by decide) ?_
  exact kk n z w2 (none) (none) (by omega) (by omega) hw2
set_option maxRecDepth 20000 in
set_option maxHeartbeats 4000000 in
theorem lc_8 (C : bgCx K "BlockGraphLaw" code 7 ret) (hR : kR K = room_1) (hX : va_X b N ss (kS K) (kS K).heap) (hb : b < (kS K).heap.size) (hA : ¬ bgA K.1 b) (he : kAd K 99 = b) (hN : N ≤ 2048) (h0 : 0 ≤ i) (h1 : i + 3 < (N : Int)) (hn : n ≤ 1000) (hz : z ≤ 11000) (hw : lwOk w) (kk : ∀ n' z' w' o5 o6, n' ≤ n + 1 → z' ≤ z + 6 → lwOk w' → bgX K false n' z' Q w' 545 [some (br 99), some (br 0), some (br 27), some (br 36), some (bi i), o5, o6] []) : bgX K false n z Q w 300 [some (br 99), some (br 0), some (br 27), some (br 36), some (bi i), none, none] [] := by
  refine bg_aload_n C d_lw_law_300 rfl rfl ?_
  refine bg_aload_n C d_lw_law_301 rfl rfl ?_
  refine bg_iload C d_lw_law_302 rfl ?_
  refine bg_iconst C d_lw_law_304 ?_
  refine bg_iadd C d_lw_law_305 ?_
  refine bg_sld C hX hb hA he (by omega) (by omega) hN d_lw_law_306 ?_
  refine bg_aload_n C d_lw_law_307 rfl rfl ?_
  refine bg_iload C d_lw_law_308 rfl ?_
  refine bg_iconst C d_lw_law_310 ?_
  refine bg_iadd C d_lw_law_311 ?_
  refine bg_sld C hX hb hA he (by omega) (by omega) hN d_lw_law_312 ?_
  refine bg_aload_n C d_lw_law_313 rfl rfl ?_
  refine bg_cic C (m_lw_edge C.ok hw.1 lwSv_r.1 lwSv_r.2 lwSv_r.1 lwSv_r.2) (bg_invSW C tw_546 tt_lw_edge tc_lw_edge tw_34 ⟨by decide, by decide⟩ (nA := 4) (by decide +kernel) rfl d_lw_law_314 rfl) rfl (by rw [hR]; exact ⟨by decide, by decide⟩) (by rw [hR]; exact ⟨by show n + 1 ≤ 1076; omega, by show z + 6 ≤ 11430; omega⟩) (Nat.le_of_ble_eq_true rfl) rfl (fun v1 w1 p1 => ?_)
  have j1 := p1
  have hw1 := hw.rel j1
  refine bg_istore C d_lw_law_317 (Nat.le_of_ble_eq_true rfl) ?_
  refine bg_aload_n C d_lw_law_319 rfl rfl ?_
  refine bg_aload_n C d_lw_law_320 rfl rfl ?_
  refine bg_iload C d_lw_law_321 rfl ?_
  refine bg_iconst C d_lw_law_323 ?_
  refine bg_iadd C d_lw_law_324 ?_
  refine bg_sld C hX hb hA he (by omega) (by omega) hN d_lw_law_325 ?_
  refine bg_aload_n C d_lw_law_326 rfl rfl ?_
  refine bg_iload C d_lw_law_327 rfl ?_
  refine bg_iconst C d_lw_law_329 ?_
  refine bg_iadd C d_lw_law_330 ?_
  refine bg_sld C hX hb hA he (by omega) (by omega) hN d_lw_law_331 ?_
  refine bg_ci C (m_mo_edge C.ok hw1.2.1 lwSv_r.1 lwSv_r.2 lwSv_r.1 lwSv_r.2 hw1.2.2) (bg_invV C cf_mo rfl tw_823 ti_mo_edge ts_mo_edge tc_mo_edge tw_42 ⟨by decide, by decide⟩ (nA := 2) (by decide +kernel) rfl d_lw_law_332 rfl) rfl (by rw [hR]; exact ⟨by decide, by decide⟩) (by rw [hR]; exact ⟨by show (n + 1) + 0 ≤ 1076; omega, by show (z + 6) + 0 ≤ 11430; omega⟩) (Nat.le_of_ble_eq_true rfl) rfl (fun v2 w2 p2 => ?_)
  obtain ⟨j2, b2⟩ := p2
  have hw2 := hw1.mod j2 b2 (by decide)
  refine bg_istore C d_lw_law_335 (Nat.le_of_ble_eq_true rfl) ?_
  refine bg_goto (l := 545) C d_lw_law_337 (by decide) ?_
  exact kk (n + 1) (z + 6) w2 (some (bi v1)) (some (bi v2)) (by omega) (by omega) hw2
set_option maxRecDepth 20000 in
set_option maxHeartbeats 4000000 in
theorem lc_9 (C : bgCx K "BlockGraphLaw" code 7 ret) (hR : kR K = room_1) (hX : va_X b N ss (kS K) (kS K).heap) (hb : b < (kS K).heap.size) (hA : ¬ bgA K.1 b) (he : kAd K 99 = b) (hN : N ≤ 2048) (h0 : 0 ≤ i) (h1 : i + 3 < (N : Int)) (hn : n ≤ 1000) (hz : z ≤ 11000) (hw : lwOk w) (kk : ∀ n' z' w' o5 o6, n' ≤ n + 1 → z' ≤ z + 6 → lwOk w' → bgX K false n' z' Q w' 545 [some (br 99), some (br 0), some (br 27), some (br 36), some (bi i), o5, o6] []) : bgX K false n z Q w 340 [some (br 99), some (br 0), some (br 27), some (br 36), some (bi i), none, none] [] := by
  refine bg_aload_n C d_lw_law_340 rfl rfl ?_
  refine bg_aload_n C d_lw_law_341 rfl rfl ?_
  refine bg_iload C d_lw_law_342 rfl ?_
  refine bg_iconst C d_lw_law_344 ?_
  refine bg_iadd C d_lw_law_345 ?_
  refine bg_sld C hX hb hA he (by omega) (by omega) hN d_lw_law_346 ?_
  refine bg_cic C (m_lw_room C.ok hw.1 lwSv_r.1 lwSv_r.2) (bg_invSW C tw_559 tt_lw_room tc_lw_room tw_34 ⟨by decide, by decide⟩ (nA := 2) (by decide +kernel) rfl d_lw_law_347 rfl) rfl (by rw [hR]; exact ⟨by decide, by decide⟩) (by rw [hR]; exact ⟨by show n + 1 ≤ 1076; omega, by show z + 6 ≤ 11430; omega⟩) (Nat.le_of_ble_eq_true rfl) rfl (fun v1 w1 p1 => ?_)
  obtain ⟨j1, f1a, f1b, f1c, f1d⟩ := p1
  have hw1 := hw.rel j1
  refine bg_istore C d_lw_law_350 (Nat.le_of_ble_eq_true rfl) ?_
  refine bg_aload_n C d_lw_law_352 rfl rfl ?_
  refine bg_aload_n C d_lw_law_353 rfl rfl ?_
  refine bg_iload C d_lw_law_354 rfl ?_
  refine bg_iconst C d_lw_law_356 ?_
  refine bg_iadd C d_lw_law_357 ?_
  refine bg_sld C hX hb hA he (by omega) (by omega) hN d_lw_law_358 ?_
  refine bg_cv C (m_mo_room C.ok hw1.2.1 lwSv_r.1 lwSv_r.2 hw1.2.2) (bg_invV C cf_mo rfl tw_831 ti_mo_room ts_mo_room tc_mo_room tw_42 ⟨by decide, by decide⟩ (nA := 1) (by decide +kernel) rfl d_lw_law_359 rfl) rfl (by rw [hR]; exact ⟨by decide, by decide⟩) (by rw [hR]; exact ⟨by show (n + 1) + 0 ≤ 1076; omega, by show (z + 6) + 0 ≤ 11430; omega⟩) (Nat.le_of_ble_eq_true rfl) rfl (fun w2 p2 => ?_)
  obtain ⟨j2, r2_0, r2_1, b2⟩ := p2
  have hw2 := hw1.mod j2 b2 (by decide)
  refine bg_goto (l := 545) C d_lw_law_362 (by decide) ?_
  exact kk (n + 1) (z + 6) w2 (some (bi v1)) (none) (by omega) (by omega) hw2
set_option maxRecDepth 20000 in
set_option maxHeartbeats 4000000 in
theorem lc_10 (C : bgCx K "BlockGraphLaw" code 7 ret) (hR : kR K = room_1) (hX : va_X b N ss (kS K) (kS K).heap) (hb : b < (kS K).heap.size) (hA : ¬ bgA K.1 b) (he : kAd K 99 = b) (hN : N ≤ 2048) (h0 : 0 ≤ i) (h1 : i + 3 < (N : Int)) (hn : n ≤ 1000) (hz : z ≤ 11000) (hw : lwOk w) (kk : ∀ n' z' w' o5 o6, n' ≤ n + 1 → z' ≤ z + 6 → lwOk w' → bgX K false n' z' Q w' 545 [some (br 99), some (br 0), some (br 27), some (br 36), some (bi i), o5, o6] []) : bgX K false n z Q w 365 [some (br 99), some (br 0), some (br 27), some (br 36), some (bi i), none, none] [] := by
  refine bg_aload_n C d_lw_law_365 rfl rfl ?_
  refine bg_aload_n C d_lw_law_366 rfl rfl ?_
  refine bg_iload C d_lw_law_367 rfl ?_
  refine bg_iconst C d_lw_law_369 ?_
  refine bg_iadd C d_lw_law_370 ?_
  refine bg_sld C hX hb hA he (by omega) (by omega) hN d_lw_law_371 ?_
  refine bg_aload_n C d_lw_law_372 rfl rfl ?_
  refine bg_cic C (m_lw_run C.ok hw.1 lwSv_r.1 lwSv_r.2) (bg_invSW C tw_571 tt_lw_run tc_lw_run tw_34 ⟨by decide, by decide⟩ (nA := 3) (by decide +kernel) rfl d_lw_law_373 rfl) rfl (by rw [hR]; exact ⟨by decide, by decide⟩) (by rw [hR]; exact ⟨by show n + 1 ≤ 1076; omega, by show z + 6 ≤ 11430; omega⟩) (Nat.le_of_ble_eq_true rfl) rfl (fun v1 w1 p1 => ?_)
  have j1 := p1
  have hw1 := hw.rel j1
  refine bg_istore C d_lw_law_376 (Nat.le_of_ble_eq_true rfl) ?_
  refine bg_aload_n C d_lw_law_378 rfl rfl ?_
  refine bg_aload_n C d_lw_law_379 rfl rfl ?_
  refine bg_iload C d_lw_law_380 rfl ?_
  refine bg_iconst C d_lw_law_382 ?_
  refine bg_iadd C d_lw_law_383 ?_
  refine bg_sld C hX hb hA he (by omega) (by omega) hN d_lw_law_384 ?_
  refine bg_ci C (m_mo_run C.ok hw1.2.1 lwSv_r.1 lwSv_r.2 hw1.2.2) (bg_invV C cf_mo rfl tw_835 ti_mo_run ts_mo_run tc_mo_run tw_42 ⟨by decide, by decide⟩ (nA := 1) (by decide +kernel) rfl d_lw_law_385 rfl) rfl (by rw [hR]; exact ⟨by decide, by decide⟩) (by rw [hR]; exact ⟨by show (n + 1) + 0 ≤ 1076; omega, by show (z + 6) + 0 ≤ 11430; omega⟩) (Nat.le_of_ble_eq_true rfl) rfl (fun v2 w2 p2 => ?_)
  obtain ⟨j2, b2⟩ := p2
  have hw2 := hw1.mod j2 b2 (by decide)
  refine bg_istore C d_lw_law_388 (Nat.le_of_ble_eq_true rfl) ?_
  refine bg_goto (l := 545) C d_lw_law_390 (by decide) ?_
  exact kk (n + 1) (z + 6) w2 (some (bi v1)) (some (bi v2)) (by omega) (by omega) hw2
set_option maxRecDepth 20000 in
set_option maxHeartbeats 4000000 in
theorem lc_11 (C : bgCx K "BlockGraphLaw" code 7 ret) (hR : kR K = room_1) (hX : va_X b N ss (kS K) (kS K).heap) (hb : b < (kS K).heap.size) (hA : ¬ bgA K.1 b) (he : kAd K 99 = b) (hN : N ≤ 2048) (h0 : 0 ≤ i) (h1 : i + 3 < (N : Int)) (hn : n ≤ 1000) (hz : z ≤ 11000) (hw : lwOk w) (kk : ∀ n' z' w' o5 o6, n' ≤ n + 1 → z' ≤ z + 6 → lwOk w' → bgX K false n' z' Q w' 545 [some (br 99), some (br 0), some (br 27), some (br 36), some (bi i), o5, o6] []) : bgX K false n z Q w 393 [some (br 99), some (br 0), some (br 27), some (br 36), some (bi i), none, none] [] := by
  refine bg_aload_n C d_lw_law_393 rfl rfl ?_
  refine bg_aload_n C d_lw_law_394 rfl rfl ?_
  refine bg_iload C d_lw_law_395 rfl ?_
  refine bg_iconst C d_lw_law_397 ?_
  refine bg_iadd C d_lw_law_398 ?_
  refine bg_sld C hX hb hA he (by omega) (by omega) hN d_lw_law_399 ?_
  refine bg_aload_n C d_lw_law_400 rfl rfl ?_
  refine bg_cic C (m_lw_distance C.ok hw.1 lwSv_r.1 lwSv_r.2) (bg_invSW C tw_600 tt_lw_distance tc_lw_distance tw_34 ⟨by decide, by decide⟩ (nA := 3) (by decide +kernel) rfl d_lw_law_401 rfl) rfl (by rw [hR]; exact ⟨by decide, by decide⟩) (by rw [hR]; exact ⟨by show n + 1 ≤ 1076; omega, by show z + 6 ≤ 11430; omega⟩) (Nat.le_of_ble_eq_true rfl) rfl (fun v1 w1 p1 => ?_)
  have j1 := p1
  have hw1 := hw.rel j1
  refine bg_istore C d_lw_law_404 (Nat.le_of_ble_eq_true rfl) ?_
  refine bg_aload_n C d_lw_law_406 rfl rfl ?_
  refine bg_aload_n C d_lw_law_407 rfl rfl ?_
  refine bg_iload C d_lw_law_408 rfl ?_
  refine bg_iconst C d_lw_law_410 ?_
  refine bg_iadd C d_lw_law_411 ?_
  refine bg_sld C hX hb hA he (by omega) (by omega) hN d_lw_law_412 ?_
  refine bg_ci C (m_mo_distance C.ok hw1.2.1 lwSv_r.1 lwSv_r.2 hw1.2.2) (bg_invV C cf_mo rfl tw_839 ti_mo_distance ts_mo_distance tc_mo_distance tw_42 ⟨by decide, by decide⟩ (nA := 1) (by decide +kernel) rfl d_lw_law_413 rfl) rfl (by rw [hR]; exact ⟨by decide, by decide⟩) (by rw [hR]; exact ⟨by show (n + 1) + 0 ≤ 1076; omega, by show (z + 6) + 0 ≤ 11430; omega⟩) (Nat.le_of_ble_eq_true rfl) rfl (fun v2 w2 p2 => ?_)
  obtain ⟨j2, b2⟩ := p2
  have hw2 := hw1.mod j2 b2 (by decide)
  refine bg_istore C d_lw_law_416 (Nat.le_of_ble_eq_true rfl) ?_
  refine bg_goto (l := 545) C d_lw_law_418 (by decide) ?_
  exact kk (n + 1) (z + 6) w2 (some (bi v1)) (some (bi v2)) (by omega) (by omega) hw2
set_option maxRecDepth 20000 in
set_option maxHeartbeats 4000000 in
theorem lc_12 (C : bgCx K "BlockGraphLaw" code 7 ret) (hR : kR K = room_1) (hX : va_X b N ss (kS K) (kS K).heap) (hb : b < (kS K).heap.size) (hA : ¬ bgA K.1 b) (he : kAd K 99 = b) (hN : N ≤ 2048) (h0 : 0 ≤ i) (h1 : i + 3 < (N : Int)) (hn : n ≤ 1000) (hz : z ≤ 11000) (hw : lwOk w) (kk : ∀ n' z' w' o5 o6, n' ≤ n + 1 → z' ≤ z + 6 → lwOk w' → bgX K false n' z' Q w' 545 [some (br 99), some (br 0), some (br 27), some (br 36), some (bi i), o5, o6] []) : bgX K false n z Q w 421 [some (br 99), some (br 0), some (br 27), some (br 36), some (bi i), none, none] [] := by
  refine bg_aload_n C d_lw_law_421 rfl rfl ?_
  refine bg_aload_n C d_lw_law_422 rfl rfl ?_
  refine bg_iload C d_lw_law_423 rfl ?_
  refine bg_iconst C d_lw_law_425 ?_
  refine bg_iadd C d_lw_law_426 ?_
  refine bg_sld C hX hb hA he (by omega) (by omega) hN d_lw_law_427 ?_
  refine bg_aload_n C d_lw_law_428 rfl rfl ?_
  refine bg_cic C (m_lw_parent C.ok hw.1 lwSv_r.1 lwSv_r.2) (bg_invSW C tw_612 tt_lw_parent tc_lw_parent tw_34 ⟨by decide, by decide⟩ (nA := 3) (by decide +kernel) rfl d_lw_law_429 rfl) rfl (by rw [hR]; exact ⟨by decide, by decide⟩) (by rw [hR]; exact ⟨by show n + 1 ≤ 1076; omega, by show z + 6 ≤ 11430; omega⟩) (Nat.le_of_ble_eq_true rfl) rfl (fun v1 w1 p1 => ?_)
  have j1 := p1
  have hw1 := hw.rel j1
  refine bg_istore C d_lw_law_432 (Nat.le_of_ble_eq_true rfl) ?_
  refine bg_aload_n C d_lw_law_434 rfl rfl ?_
  refine bg_aload_n C d_lw_law_435 rfl rfl ?_
  refine bg_iload C d_lw_law_436 rfl ?_
  refine bg_iconst C d_lw_law_438 ?_
  refine bg_iadd C d_lw_law_439 ?_
  refine bg_sld C hX hb hA he (by omega) (by omega) hN d_lw_law_440 ?_
  refine bg_ci C (m_mo_parent C.ok hw1.2.1 lwSv_r.1 lwSv_r.2 hw1.2.2) (bg_invV C cf_mo rfl tw_847 ti_mo_parent ts_mo_parent tc_mo_parent tw_42 ⟨by decide, by decide⟩ (nA := 1) (by decide +kernel) rfl d_lw_law_441 rfl) rfl (by rw [hR]; exact ⟨by decide, by decide⟩) (by rw [hR]; exact ⟨by show (n + 1) + 0 ≤ 1076; omega, by show (z + 6) + 0 ≤ 11430; omega⟩) (Nat.le_of_ble_eq_true rfl) rfl (fun v2 w2 p2 => ?_)
  obtain ⟨j2, b2⟩ := p2
  have hw2 := hw1.mod j2 b2 (by decide)
  refine bg_istore C d_lw_law_444 (Nat.le_of_ble_eq_true rfl) ?_
  refine bg_goto (l := 545) C d_lw_law_446 (by decide) ?_
  exact kk (n + 1) (z + 6) w2 (some (bi v1)) (some (bi v2)) (by omega) (by omega) hw2
set_option maxRecDepth 20000 in
set_option maxHeartbeats 4000000 in
theorem lc_13 (C : bgCx K "BlockGraphLaw" code 7 ret) (hR : kR K = room_1) (hX : va_X b N ss (kS K) (kS K).heap) (hb : b < (kS K).heap.size) (hA : ¬ bgA K.1 b) (he : kAd K 99 = b) (hN : N ≤ 2048) (h0 : 0 ≤ i) (h1 : i + 3 < (N : Int)) (hn : n ≤ 1000) (hz : z ≤ 11000) (hw : lwOk w) (kk : ∀ n' z' w' o5 o6, n' ≤ n + 1 → z' ≤ z + 6 → lwOk w' → bgX K false n' z' Q w' 545 [some (br 99), some (br 0), some (br 27), some (br 36), some (bi i), o5, o6] []) : bgX K false n z Q w 449 [some (br 99), some (br 0), some (br 27), some (br 36), some (bi i), none, none] [] := by
  refine bg_aload_n C d_lw_law_449 rfl rfl ?_
  refine bg_aload_n C d_lw_law_450 rfl rfl ?_
  refine bg_iload C d_lw_law_451 rfl ?_
  refine bg_iconst C d_lw_law_453 ?_
  refine bg_iadd C d_lw_law_454 ?_
  refine bg_sld C hX hb hA he (by omega) (by omega) hN d_lw_law_455 ?_
  refine bg_aload_n C d_lw_law_456 rfl rfl ?_
  refine bg_iload C d_lw_law_457 rfl ?_
  refine bg_iconst C d_lw_law_459 ?_
  refine bg_iadd C d_lw_law_460 ?_
  refine bg_sld C hX hb hA he (by omega) (by omega) hN d_lw_law_461 ?_
  refine bg_aload_n C d_lw_law_462 rfl rfl ?_
  refine bg_cic C (m_lw_way C.ok hw.1 lwSv_r.1 lwSv_r.2 lwSv_r.1 lwSv_r.2) (bg_invSW C tw_619 tt_lw_way tc_lw_way tw_34 ⟨by decide, by decide⟩ (nA := 4) (by decide +kernel) rfl d_lw_law_463 rfl) rfl (by rw [hR]; exact ⟨by decide, by decide⟩) (by rw [hR]; exact ⟨by show n + 1 ≤ 1076; omega, by show z + 6 ≤ 11430; omega⟩) (Nat.le_of_ble_eq_true rfl) rfl (fun v1 w1 p1 => ?_)
  have j1 := p1
  have hw1 := hw.rel j1
  refine bg_istore C d_lw_law_466 (Nat.le_of_ble_eq_true rfl) ?_
  refine bg_aload_n C d_lw_law_468 rfl rfl ?_
  refine bg_aload_n C d_lw_law_469 rfl rfl ?_
  refine bg_iload C d_lw_law_470 rfl ?_
  refine bg_iconst C d_lw_law_472 ?_
  refine bg_iadd C d_lw_law_473 ?_
  refine bg_sld C hX hb hA he (by omega) (by omega) hN d_lw_law_474 ?_
  refine bg_aload_n C d_lw_law_475 rfl rfl ?_
  refine bg_iload C d_lw_law_476 rfl ?_
  refine bg_iconst C d_lw_law_478 ?_
  refine bg_iadd C d_lw_law_479 ?_
  refine bg_sld C hX hb hA he (by omega) (by omega) hN d_lw_law_480 ?_
  refine bg_ci C (m_mo_way C.ok hw1.2.1 lwSv_r.1 lwSv_r.2 lwSv_r.1 lwSv_r.2 hw1.2.2) (bg_invV C cf_mo rfl tw_855 ti_mo_way ts_mo_way tc_mo_way tw_42 ⟨by decide, by decide⟩ (nA := 2) (by decide +kernel) rfl d_lw_law_481 rfl) rfl (by rw [hR]; exact ⟨by decide, by decide⟩) (by rw [hR]; exact ⟨by show (n + 1) + 0 ≤ 1076; omega, by show (z + 6) + 0 ≤ 11430; omega⟩) (Nat.le_of_ble_eq_true rfl) rfl (fun v2 w2 p2 => ?_)
  obtain ⟨j2, b2⟩ := p2
  have hw2 := hw1.mod j2 b2 (by decide)
  refine bg_istore C d_lw_law_484 (Nat.le_of_ble_eq_true rfl) ?_
  refine bg_goto (l := 545) C d_lw_law_486 (by decide) ?_
  exact kk (n + 1) (z + 6) w2 (some (bi v1)) (some (bi v2)) (by omega) (by omega) hw2
set_option maxRecDepth 20000 in
set_option maxHeartbeats 4000000 in
theorem lc_14 (C : bgCx K "BlockGraphLaw" code 7 ret) (hR : kR K = room_1) (hX : va_X b N ss (kS K) (kS K).heap) (hb : b < (kS K).heap.size) (hA : ¬ bgA K.1 b) (he : kAd K 99 = b) (hN : N ≤ 2048) (h0 : 0 ≤ i) (h1 : i + 3 < (N : Int)) (hn : n ≤ 1000) (hz : z ≤ 11000) (hw : lwOk w) (kk : ∀ n' z' w' o5 o6, n' ≤ n + 1 → z' ≤ z + 6 → lwOk w' → bgX K false n' z' Q w' 545 [some (br 99), some (br 0), some (br 27), some (br 36), some (bi i), o5, o6] []) : bgX K false n z Q w 489 [some (br 99), some (br 0), some (br 27), some (br 36), some (bi i), none, none] [] := by
  refine bg_aload_n C d_lw_law_489 rfl rfl ?_
  refine bg_aload_n C d_lw_law_490 rfl rfl ?_
  refine bg_iload C d_lw_law_491 rfl ?_
  refine bg_iconst C d_lw_law_493 ?_
  refine bg_iadd C d_lw_law_494 ?_
  refine bg_sld C hX hb hA he (by omega) (by omega) hN d_lw_law_495 ?_
  refine bg_aload_n C d_lw_law_496 rfl rfl ?_
  refine bg_cic C (m_lw_atHand C.ok hw.1 lwSv_r.1 lwSv_r.2) (bg_invSW C tw_651 tt_lw_atHand tc_lw_atHand tw_34 ⟨by decide, by decide⟩ (nA := 3) (by decide +kernel) rfl d_lw_law_497 rfl) rfl (by rw [hR]; exact ⟨by decide, by decide⟩) (by rw [hR]; exact ⟨by show n + 1 ≤ 1076; omega, by show z + 6 ≤ 11430; omega⟩) (Nat.le_of_ble_eq_true rfl) rfl (fun v1 w1 p1 => ?_)
  have j1 := p1
  have hw1 := hw.rel j1
  refine bg_istore C d_lw_law_500 (Nat.le_of_ble_eq_true rfl) ?_
  refine bg_aload_n C d_lw_law_502 rfl rfl ?_
  refine bg_aload_n C d_lw_law_503 rfl rfl ?_
  refine bg_iload C d_lw_law_504 rfl ?_
  refine bg_iconst C d_lw_law_506 ?_
  refine bg_iadd C d_lw_law_507 ?_
  refine bg_sld C hX hb hA he (by omega) (by omega) hN d_lw_law_508 ?_
  refine bg_ci C (m_mo_atHand C.ok hw1.2.1 lwSv_r.1 lwSv_r.2 hw1.2.2) (bg_invV C cf_mo rfl tw_859 ti_mo_atHand ts_mo_atHand tc_mo_atHand tw_42 ⟨by decide, by decide⟩ (nA := 1) (by decide +kernel) rfl d_lw_law_509 rfl) rfl (by rw [hR]; exact ⟨by decide, by decide⟩) (by rw [hR]; exact ⟨by show (n + 1) + 0 ≤ 1076; omega, by show (z + 6) + 0 ≤ 11430; omega⟩) (Nat.le_of_ble_eq_true rfl) rfl (fun v2 w2 p2 => ?_)
  obtain ⟨j2, b2⟩ := p2
  have hw2 := hw1.mod j2 b2 (by decide)
  refine bg_istore C d_lw_law_512 (Nat.le_of_ble_eq_true rfl) ?_
  refine bg_goto (l := 545) C d_lw_law_514 (by decide) ?_
  exact kk (n + 1) (z + 6) w2 (some (bi v1)) (some (bi v2)) (by omega) (by omega) hw2
set_option maxRecDepth 20000 in
set_option maxHeartbeats 4000000 in
theorem lc_15 (C : bgCx K "BlockGraphLaw" code 7 ret) (hR : kR K = room_1) (hX : va_X b N ss (kS K) (kS K).heap) (hb : b < (kS K).heap.size) (hA : ¬ bgA K.1 b) (he : kAd K 99 = b) (hN : N ≤ 2048) (h0 : 0 ≤ i) (h1 : i + 3 < (N : Int)) (hn : n ≤ 1000) (hz : z ≤ 11000) (hw : lwOk w) (kk : ∀ n' z' w' o5 o6, n' ≤ n + 1 → z' ≤ z + 6 → lwOk w' → bgX K false n' z' Q w' 545 [some (br 99), some (br 0), some (br 27), some (br 36), some (bi i), o5, o6] []) : bgX K false n z Q w 517 [some (br 99), some (br 0), some (br 27), some (br 36), some (bi i), none, none] [] := by
  refine bg_aload_n C d_lw_law_517 rfl rfl ?_
  refine bg_aload_n C d_lw_law_518 rfl rfl ?_
  refine bg_iload C d_lw_law_519 rfl ?_
  refine bg_iconst C d_lw_law_521 ?_
  refine bg_iadd C d_lw_law_522 ?_
  refine bg_sld C hX hb hA he (by omega) (by omega) hN d_lw_law_523 ?_
  refine bg_aload_n C d_lw_law_524 rfl rfl ?_
  refine bg_cic C (m_lw_count C.ok hw.1 lwSv_r.1 lwSv_r.2) (bg_invSW C tw_659 tt_lw_count tc_lw_count tw_34 ⟨by decide, by decide⟩ (nA := 3) (by decide +kernel) rfl d_lw_law_525 rfl) rfl (by rw [hR]; exact ⟨by decide, by decide⟩) (by rw [hR]; exact ⟨by show n + 1 ≤ 1076; omega, by show z + 6 ≤ 11430; omega⟩) (Nat.le_of_ble_eq_true rfl) rfl (fun v1 w1 p1 => ?_)
  have j1 := p1
  have hw1 := hw.rel j1
  refine bg_istore C d_lw_law_528 (Nat.le_of_ble_eq_true rfl) ?_
  refine bg_aload_n C d_lw_law_530 rfl rfl ?_
  refine bg_aload_n C d_lw_law_531 rfl rfl ?_
  refine bg_iload C d_lw_law_532 rfl ?_
  refine bg_iconst C d_lw_law_534 ?_
  refine bg_iadd C d_lw_law_535 ?_
  refine bg_sld C hX hb hA he (by omega) (by omega) hN d_lw_law_536 ?_
  refine bg_ci C (m_mo_count C.ok hw1.2.1 lwSv_r.1 lwSv_r.2 hw1.2.2) (bg_invV C cf_mo rfl tw_863 ti_mo_count ts_mo_count tc_mo_count tw_42 ⟨by decide, by decide⟩ (nA := 1) (by decide +kernel) rfl d_lw_law_537 rfl) rfl (by rw [hR]; exact ⟨by decide, by decide⟩) (by rw [hR]; exact ⟨by show (n + 1) + 0 ≤ 1076; omega, by show (z + 6) + 0 ≤ 11430; omega⟩) (Nat.le_of_ble_eq_true rfl) rfl (fun v2 w2 p2 => ?_)
  obtain ⟨j2, b2⟩ := p2
  have hw2 := hw1.mod j2 b2 (by decide)
  refine bg_istore C d_lw_law_540 (Nat.le_of_ble_eq_true rfl) ?_
  refine bg_goto (l := 545) C d_lw_law_542 (by decide) ?_
  exact kk (n + 1) (z + 6) w2 (some (bi v1)) (some (bi v2)) (by omega) (by omega) hw2
end LWC
set_option maxRecDepth 20000 in
set_option maxHeartbeats 4000000 in
theorem lw_loop {K : bgK} {b N : Nat} {ss : Nat → Int32} {Q : State → Prop} (C : bgCx K "BlockGraphLaw" code 7 ret) (hR : kR K = room_1) (hX : va_X b N ss (kS K) (kS K).heap) (hb : b < (kS K).heap.size) (hA : ¬ bgA K.1 b) (he : kAd K 99 = b) (hN : N ≤ 2048)
    (kend : ∀ n z w i, n ≤ 1076 → z ≤ 11430 → bgX K false n z Q w 551 [some (br 99), some (br 0), some (br 27), some (br 36), some (bi i), none, none] []) :
    ∀ (m j n z : Nat) (w : bgW), j + m = 512 → n ≤ 37 + j → z ≤ 3148 + 6 * j → lwOk w → bgX K false n z Q w 23 [some (br 99), some (br 0), some (br 27), some (br 36), some (bi ((4 * j : Nat) : Int)), none, none] [] := by
  intro m
  induction m with
  | zero =>
    intro j n z w hj hn hz hw
    refine bg_iload C d_lw_law_23 rfl ?_
    refine bg_aload_n C d_lw_law_25 rfl rfl ?_
    refine bg_slen C hX hb hA he d_lw_law_26 ?_
    refine bg_iconst C d_lw_law_27 ?_
    refine bg_isub C d_lw_law_28 ?_
    refine bg_icmp_gt (tgt := 551) C d_lw_law_29 (by decide) ⟨by omega, by omega⟩ ⟨by omega, by omega⟩ (fun h => kend _ _ _ _ (by omega) (by omega)) (fun h => by exfalso; omega)
  | succ m ih =>
    intro j n z w hj hn hz hw
    refine bg_iload C d_lw_law_23 rfl ?_
    refine bg_aload_n C d_lw_law_25 rfl rfl ?_
    refine bg_slen C hX hb hA he d_lw_law_26 ?_
    refine bg_iconst C d_lw_law_27 ?_
    refine bg_isub C d_lw_law_28 ?_
    refine bg_icmp_gt (tgt := 551) C d_lw_law_29 (by decide) ⟨by omega, by omega⟩ ⟨by omega, by omega⟩ (fun h => kend _ _ _ _ (by omega) (by omega)) (fun h => ?_)
    refine bg_aload_n C d_lw_law_32 rfl rfl ?_
    refine bg_iload C d_lw_law_33 rfl ?_
    refine bg_sld C hX hb hA he (by omega) (by omega) hN d_lw_law_35 ?_
    refine bg_bipush C d_lw_law_36 (by decide +kernel) ?_
    refine bg_iand15 C d_lw_law_38 (fun v v0 v1 => ?_)
    have kk : ∀ n' z' w' o5 o6, n' ≤ n + 1 → z' ≤ z + 6 → lwOk w' → bgX K false n' z' Q w' 545 [some (br 99), some (br 0), some (br 27), some (br 36), some (bi ((4 * j : Nat) : Int)), o5, o6] [] := by
      intro n' z' w' o5 o6 hn' hz' hw'
      refine bg_iinc C d_lw_law_545 rfl ?_
      refine bg_goto (l := 23) C d_lw_law_548 (by decide) ?_
      refine bg_wl [true, true, true, true, true, false, false] rfl ?_
      have k9 := ih (j + 1) n' z' w' (by omega) (by omega) (by omega) hw'
      rw [show ((4 * (j + 1) : Nat) : Int) = ((4 * j : Nat) : Int) + 4 by omega] at k9
      exact k9
    rcases (show v = 0 ∨ v = 1 ∨ v = 2 ∨ v = 3 ∨ v = 4 ∨ v = 5 ∨ v = 6 ∨ v = 7 ∨ v = 8 ∨ v = 9 ∨ v = 10 ∨ v = 11 ∨ v = 12 ∨ v = 13 ∨ v = 14 ∨ v = 15 by omega) with e | e | e | e | e | e | e | e | e | e | e | e | e | e | e | e
    · exact bg_tabIn (k := 0) (tgt := 116) C d_lw_law_39 e ⟨by omega, by omega⟩ (by decide) (by decide) rfl (by decide) (lc_0 C hR hX hb hA he hN (by omega) (by omega) (by omega) (by omega) hw kk)
    · exact bg_tabIn (k := 1) (tgt := 129) C d_lw_law_39 e ⟨by omega, by omega⟩ (by decide) (by decide) rfl (by decide) (lc_1 C hR hX hb hA he hN (by omega) (by omega) (by omega) (by omega) hw kk)
    · exact bg_tabIn (k := 2) (tgt := 142) C d_lw_law_39 e ⟨by omega, by omega⟩ (by decide) (by decide) rfl (by decide) (lc_2 C hR hX hb hA he hN (by omega) (by omega) (by omega) (by omega) hw kk)
    · exact bg_tabIn (k := 3) (tgt := 194) C d_lw_law_39 e ⟨by omega, by omega⟩ (by decide) (by decide) rfl (by decide) (lc_3 C hR hX hb hA he hN (by omega) (by omega) (by omega) (by omega) hw kk)
    · exact bg_tabIn (k := 4) (tgt := 219) C d_lw_law_39 e ⟨by omega, by omega⟩ (by decide) (by decide) rfl (by decide) (lc_4 C hR hX hb hA he hN (by omega) (by omega) (by omega) (by omega) hw kk)
    · exact bg_tabIn (k := 5) (tgt := 235) C d_lw_law_39 e ⟨by omega, by omega⟩ (by decide) (by decide) rfl (by decide) (lc_5 C hR hX hb hA he hN (by omega) (by omega) (by omega) (by omega) hw kk)
    · exact bg_tabIn (k := 6) (tgt := 251) C d_lw_law_39 e ⟨by omega, by omega⟩ (by decide) (by decide) rfl (by decide) (lc_6 C hR hX hb hA he hN (by omega) (by omega) (by omega) (by omega) hw kk)
    · exact bg_tabIn (k := 7) (tgt := 287) C d_lw_law_39 e ⟨by omega, by omega⟩ (by decide) (by decide) rfl (by decide) (lc_7 C hR hX hb hA he hN (by omega) (by omega) (by omega) (by omega) hw kk)
    · exact bg_tabIn (k := 8) (tgt := 300) C d_lw_law_39 e ⟨by omega, by omega⟩ (by decide) (by decide) rfl (by decide) (lc_8 C hR hX hb hA he hN (by omega) (by omega) (by omega) (by omega) hw kk)
    · exact bg_tabIn (k := 9) (tgt := 340) C d_lw_law_39 e ⟨by omega, by omega⟩ (by decide) (by decide) rfl (by decide) (lc_9 C hR hX hb hA he hN (by omega) (by omega) (by omega) (by omega) hw kk)
    · exact bg_tabIn (k := 10) (tgt := 365) C d_lw_law_39 e ⟨by omega, by omega⟩ (by decide) (by decide) rfl (by decide) (lc_10 C hR hX hb hA he hN (by omega) (by omega) (by omega) (by omega) hw kk)
    · exact bg_tabIn (k := 11) (tgt := 393) C d_lw_law_39 e ⟨by omega, by omega⟩ (by decide) (by decide) rfl (by decide) (lc_11 C hR hX hb hA he hN (by omega) (by omega) (by omega) (by omega) hw kk)
    · exact bg_tabIn (k := 12) (tgt := 421) C d_lw_law_39 e ⟨by omega, by omega⟩ (by decide) (by decide) rfl (by decide) (lc_12 C hR hX hb hA he hN (by omega) (by omega) (by omega) (by omega) hw kk)
    · exact bg_tabIn (k := 13) (tgt := 449) C d_lw_law_39 e ⟨by omega, by omega⟩ (by decide) (by decide) rfl (by decide) (lc_13 C hR hX hb hA he hN (by omega) (by omega) (by omega) (by omega) hw kk)
    · exact bg_tabIn (k := 14) (tgt := 489) C d_lw_law_39 e ⟨by omega, by omega⟩ (by decide) (by decide) rfl (by decide) (lc_14 C hR hX hb hA he hN (by omega) (by omega) (by omega) (by omega) hw kk)
    · exact bg_tabIn (k := 15) (tgt := 517) C d_lw_law_39 e ⟨by omega, by omega⟩ (by decide) (by decide) rfl (by decide) (lc_15 C hR hX hb hA he hN (by omega) (by omega) (by omega) (by omega) hw kk)
