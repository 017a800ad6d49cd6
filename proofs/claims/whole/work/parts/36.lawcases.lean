set_option maxRecDepth 100000 in
set_option maxHeartbeats 4000000 in
theorem law_carrier {X : aw_X} {l : Launch} {G : aw_G} (C : aw_ok X code 4 "WipePapersLaw") (I : aw_in X l G room_1) {b L : Nat} {xs : Nat → Int32} (hX : aw_scr X b L xs) (hL : L ≤ 3072) {a : Nat} (ha : a + 6 ≤ L) {S : SysS} {ad : aw_Ad} {ce : aw_He} (hC : LayC S ad ce) (hR : LayR S ad ce) (hI : Inv S)
    (hK : ∀ (S' : SysS) (ad' : aw_Ad) (ce' : aw_He), LayC S' ad' ce' → LayR S' ad' ce' → Inv S' → AW X 4 (22 + a + 6) (3068 + 46 * a + 276) ad' ce' 993 [(3, .int (nI a)), (2, .ref (ad' (3, 0, 0))), (1, .ref (ad' (0, 0, 0))), (0, .ref b)] []) : AW X 4 (22 + a) (3068 + 46 * a) ad ce 136 [(3, .int (nI a)), (2, .ref (ad (3, 0, 0))), (1, .ref (ad (0, 0, 0))), (0, .ref b)] [] := by
  obtain ⟨fsC, hoC⟩ := hC.ob
  obtain ⟨fsR, hoR⟩ := hR.ob
  refine aw_aload_n C d_L_law_136 rfl (j := 2) rfl ?_
  refine aw_aload_n C d_L_law_137 rfl (j := 3) rfl ?_
  refine aw_iload_n C d_L_law_138 rfl (j := 0) rfl ?_
  refine aw_iconst C (v := 1) d_L_law_139 (by decide) ?_
  refine aw_iadd C d_L_law_140 ?_
  refine aw_topi (v' := nI (a + 1)) (nI_add a 1) ?_
  refine aw_sld C hX (j := (a + 1)) (rfl) (by omega) (by omega) d_L_law_141 ?_
  refine aw_aload_n C d_L_law_142 rfl (j := 3) rfl ?_
  refine aw_iload_n C d_L_law_143 rfl (j := 0) rfl ?_
  refine aw_iconst C (v := 2) d_L_law_144 (by decide) ?_
  refine aw_iadd C d_L_law_145 ?_
  refine aw_topi (v' := nI (a + 2)) (nI_add a 2) ?_
  refine aw_sld C hX (j := (a + 2)) (rfl) (by omega) (by omega) d_L_law_146 ?_
  refine aw_i2l C d_L_law_147 ?_
  refine aw_bipush C (v := 32) d_L_law_148 (by decide) ?_
  refine aw_lshl C d_L_law_150 ?_
  refine aw_aload_n C d_L_law_151 rfl (j := 3) rfl ?_
  refine aw_iload_n C d_L_law_152 rfl (j := 0) rfl ?_
  refine aw_iconst C (v := 3) d_L_law_153 (by decide) ?_
  refine aw_iadd C d_L_law_154 ?_
  refine aw_topi (v' := nI (a + 3)) (nI_add a 3) ?_
  refine aw_sld C hX (j := (a + 3)) (rfl) (by omega) (by omega) d_L_law_155 ?_
  refine aw_i2l C d_L_law_156 ?_
  refine aw_ldc2 C tw_501 d_L_law_157 ?_
  refine aw_land C d_L_law_160 ?_
  refine aw_lor C d_L_law_161 ?_
  refine aw_topl (v' := lgo (xs (a + 2)) (xs (a + 3))) (rfl) ?_
  refine aw_aload_n C d_L_law_162 rfl (j := 3) rfl ?_
  refine aw_iload_n C d_L_law_163 rfl (j := 0) rfl ?_
  refine aw_iconst C (v := 4) d_L_law_164 (by decide) ?_
  refine aw_iadd C d_L_law_165 ?_
  refine aw_topi (v' := nI (a + 4)) (nI_add a 4) ?_
  refine aw_sld C hX (j := (a + 4)) (rfl) (by omega) (by omega) d_L_law_166 ?_
  refine aw_callV C I (k := (0, 0, 0)) (as := [.int (xs (a + 1)), .long (lgo (xs (a + 2)) (xs (a + 3))), .int (xs (a + 4))]) (rest := []) (C_carrier l G ad ce S hC (xs (a + 1)) (lgo (xs (a + 2)) (xs (a + 3))) (xs (a + 4))) g_L_15 hoC rfl rfl ⟨by decide, by decide⟩ ⟨Nat.le_trans (m := 600000) (by omega) (Nat.le_refl _), Nat.le_trans (m := 7302250) (by omega) (Nat.le_refl _)⟩ rfl (Nat.le_of_ble_eq_true rfl) d_L_law_167 ?_
  rintro _ ad9 ce9 ⟨rfl, hf9, ha9, hC9⟩
  have hb9 : ad9 (3, 0, 0) = ad (3, 0, 0) := (hf9 _ rfl).1
  rw [← ha9, ← hb9]
  have hR9 := hR.tr hf9
  obtain ⟨fsR, hoR⟩ := hR9.ob
  show AW X 4 (22 + a + 6) (3068 + 46 * a + 274) ad9 ce9 170 [(3, .int (nI a)), (2, .ref (ad9 (3, 0, 0))), (1, .ref (ad9 (0, 0, 0))), (0, .ref b)] [.int ((f_carrier S (xs (a + 1)) (lgo (xs (a + 2)) (xs (a + 3))) (xs (a + 4))).1)]
  refine aw_aload_n C d_L_law_170 rfl (j := 1) rfl ?_
  refine aw_aload_n C d_L_law_171 rfl (j := 3) rfl ?_
  refine aw_iload_n C d_L_law_172 rfl (j := 0) rfl ?_
  refine aw_iconst C (v := 1) d_L_law_173 (by decide) ?_
  refine aw_iadd C d_L_law_174 ?_
  refine aw_topi (v' := nI (a + 1)) (nI_add a 1) ?_
  refine aw_sld C hX (j := (a + 1)) (rfl) (by omega) (by omega) d_L_law_175 ?_
  refine aw_aload_n C d_L_law_176 rfl (j := 3) rfl ?_
  refine aw_iload_n C d_L_law_177 rfl (j := 0) rfl ?_
  refine aw_iconst C (v := 2) d_L_law_178 (by decide) ?_
  refine aw_iadd C d_L_law_179 ?_
  refine aw_topi (v' := nI (a + 2)) (nI_add a 2) ?_
  refine aw_sld C hX (j := (a + 2)) (rfl) (by omega) (by omega) d_L_law_180 ?_
  refine aw_i2l C d_L_law_181 ?_
  refine aw_bipush C (v := 32) d_L_law_182 (by decide) ?_
  refine aw_lshl C d_L_law_184 ?_
  refine aw_aload_n C d_L_law_185 rfl (j := 3) rfl ?_
  refine aw_iload_n C d_L_law_186 rfl (j := 0) rfl ?_
  refine aw_iconst C (v := 3) d_L_law_187 (by decide) ?_
  refine aw_iadd C d_L_law_188 ?_
  refine aw_topi (v' := nI (a + 3)) (nI_add a 3) ?_
  refine aw_sld C hX (j := (a + 3)) (rfl) (by omega) (by omega) d_L_law_189 ?_
  refine aw_i2l C d_L_law_190 ?_
  refine aw_ldc2 C tw_501 d_L_law_191 ?_
  refine aw_land C d_L_law_194 ?_
  refine aw_lor C d_L_law_195 ?_
  refine aw_topl (v' := lgo (xs (a + 2)) (xs (a + 3))) (rfl) ?_
  refine aw_aload_n C d_L_law_196 rfl (j := 3) rfl ?_
  refine aw_iload_n C d_L_law_197 rfl (j := 0) rfl ?_
  refine aw_iconst C (v := 4) d_L_law_198 (by decide) ?_
  refine aw_iadd C d_L_law_199 ?_
  refine aw_topi (v' := nI (a + 4)) (nI_add a 4) ?_
  refine aw_sld C hX (j := (a + 4)) (rfl) (by omega) (by omega) d_L_law_200 ?_
  refine aw_callV C I (k := (3, 0, 0)) (as := [.int (xs (a + 1)), .long (lgo (xs (a + 2)) (xs (a + 3))), .int (xs (a + 4))]) (rest := [.int ((f_carrier S (xs (a + 1)) (lgo (xs (a + 2)) (xs (a + 3))) (xs (a + 4))).1)]) (R_carrier l G ad9 ce9 S hR9 (xs (a + 1)) (lgo (xs (a + 2)) (xs (a + 3))) (xs (a + 4))) g_L_19 hoR rfl rfl ⟨by decide, by decide⟩ ⟨Nat.le_trans (m := 600000) (by omega) (Nat.le_refl _), Nat.le_trans (m := 7302250) (by omega) (Nat.le_refl _)⟩ rfl (Nat.le_of_ble_eq_true rfl) d_L_law_201 ?_
  rintro _ _ ce8 ⟨rfl, rfl, hf8, hR8⟩
  show AW X 4 (22 + a + 6) (3068 + 46 * a + 274) ad9 ce8 204 [(3, .int (nI a)), (2, .ref (ad9 (3, 0, 0))), (1, .ref (ad9 (0, 0, 0))), (0, .ref b)] [.int ((f_carrier S (xs (a + 1)) (lgo (xs (a + 2)) (xs (a + 3))) (xs (a + 4))).1), .int ((f_carrier S (xs (a + 1)) (lgo (xs (a + 2)) (xs (a + 3))) (xs (a + 4))).1)]
  refine aw_icmp_eq C (tgt := 993) d_L_law_204 (by decide) (fun h204 => ?_) (fun h204 => absurd (rfl) h204)
  refine aw_widen (k := 22 + a + 6) (n := 3068 + 46 * a + 276) (by omega) (by omega) ?_
  exact hK _ ad9 ce8 (hC9.tr hf8) hR8 (hI.carrier (xs (a + 1)) (lgo (xs (a + 2)) (xs (a + 3))) (xs (a + 4)))
set_option maxRecDepth 100000 in
set_option maxHeartbeats 4000000 in
theorem law_state {X : aw_X} {l : Launch} {G : aw_G} (C : aw_ok X code 4 "WipePapersLaw") (I : aw_in X l G room_1) {b L : Nat} {xs : Nat → Int32} (hX : aw_scr X b L xs) (hL : L ≤ 3072) {a : Nat} (ha : a + 6 ≤ L) {S : SysS} {ad : aw_Ad} {ce : aw_He} (hC : LayC S ad ce) (hR : LayR S ad ce) (hI : Inv S)
    (hK : ∀ (S' : SysS) (ad' : aw_Ad) (ce' : aw_He), LayC S' ad' ce' → LayR S' ad' ce' → Inv S' → AW X 4 (22 + a + 6) (3068 + 46 * a + 276) ad' ce' 993 [(3, .int (nI a)), (2, .ref (ad' (3, 0, 0))), (1, .ref (ad' (0, 0, 0))), (0, .ref b)] []) : AW X 4 (22 + a) (3068 + 46 * a) ad ce 209 [(3, .int (nI a)), (2, .ref (ad (3, 0, 0))), (1, .ref (ad (0, 0, 0))), (0, .ref b)] [] := by
  obtain ⟨fsC, hoC⟩ := hC.ob
  obtain ⟨fsR, hoR⟩ := hR.ob
  refine aw_aload_n C d_L_law_209 rfl (j := 2) rfl ?_
  refine aw_aload_n C d_L_law_210 rfl (j := 3) rfl ?_
  refine aw_iload_n C d_L_law_211 rfl (j := 0) rfl ?_
  refine aw_iconst C (v := 1) d_L_law_212 (by decide) ?_
  refine aw_iadd C d_L_law_213 ?_
  refine aw_topi (v' := nI (a + 1)) (nI_add a 1) ?_
  refine aw_sld C hX (j := (a + 1)) (rfl) (by omega) (by omega) d_L_law_214 ?_
  refine aw_callV C I (k := (0, 0, 0)) (as := [.int (xs (a + 1))]) (rest := []) (C_state l G ad ce S hC (xs (a + 1))) g_L_20 hoC rfl rfl ⟨by decide, by decide⟩ ⟨Nat.le_trans (m := 600000) (by omega) (Nat.le_refl _), Nat.le_trans (m := 7302250) (by omega) (Nat.le_refl _)⟩ rfl (Nat.le_of_ble_eq_true rfl) d_L_law_215 ?_
  rintro _ _ _ ⟨rfl, rfl, rfl⟩
  show AW X 4 (22 + a) (3068 + 46 * a) ad ce 218 [(3, .int (nI a)), (2, .ref (ad (3, 0, 0))), (1, .ref (ad (0, 0, 0))), (0, .ref b)] [.int (f_state S (xs (a + 1)))]
  refine aw_aload_n C d_L_law_218 rfl (j := 1) rfl ?_
  refine aw_aload_n C d_L_law_219 rfl (j := 3) rfl ?_
  refine aw_iload_n C d_L_law_220 rfl (j := 0) rfl ?_
  refine aw_iconst C (v := 1) d_L_law_221 (by decide) ?_
  refine aw_iadd C d_L_law_222 ?_
  refine aw_topi (v' := nI (a + 1)) (nI_add a 1) ?_
  refine aw_sld C hX (j := (a + 1)) (rfl) (by omega) (by omega) d_L_law_223 ?_
  refine aw_callV C I (k := (3, 0, 0)) (as := [.int (xs (a + 1))]) (rest := [.int (f_state S (xs (a + 1)))]) (R_state l G ad ce S hR (xs (a + 1))) g_L_24 hoR rfl rfl ⟨by decide, by decide⟩ ⟨Nat.le_trans (m := 600000) (by omega) (Nat.le_refl _), Nat.le_trans (m := 7302250) (by omega) (Nat.le_refl _)⟩ rfl (Nat.le_of_ble_eq_true rfl) d_L_law_224 ?_
  rintro _ _ _ ⟨rfl, rfl, rfl⟩
  show AW X 4 (22 + a) (3068 + 46 * a) ad ce 227 [(3, .int (nI a)), (2, .ref (ad (3, 0, 0))), (1, .ref (ad (0, 0, 0))), (0, .ref b)] [.int (f_state S (xs (a + 1))), .int (f_state S (xs (a + 1)))]
  refine aw_icmp_eq C (tgt := 993) d_L_law_227 (by decide) (fun h227 => ?_) (fun h227 => absurd (rfl) h227)
  refine aw_widen (k := 22 + a + 6) (n := 3068 + 46 * a + 276) (by omega) (by omega) ?_
  exact hK S ad ce hC hR hI
set_option maxRecDepth 100000 in
set_option maxHeartbeats 4000000 in
theorem law_event {X : aw_X} {l : Launch} {G : aw_G} (C : aw_ok X code 4 "WipePapersLaw") (I : aw_in X l G room_1) {b L : Nat} {xs : Nat → Int32} (hX : aw_scr X b L xs) (hL : L ≤ 3072) {a : Nat} (ha : a + 6 ≤ L) {S : SysS} {ad : aw_Ad} {ce : aw_He} (hC : LayC S ad ce) (hR : LayR S ad ce) (hI : Inv S)
    (hK : ∀ (S' : SysS) (ad' : aw_Ad) (ce' : aw_He), LayC S' ad' ce' → LayR S' ad' ce' → Inv S' → AW X 4 (22 + a + 6) (3068 + 46 * a + 276) ad' ce' 993 [(3, .int (nI a)), (2, .ref (ad' (3, 0, 0))), (1, .ref (ad' (0, 0, 0))), (0, .ref b)] []) : AW X 4 (22 + a) (3068 + 46 * a) ad ce 232 [(3, .int (nI a)), (2, .ref (ad (3, 0, 0))), (1, .ref (ad (0, 0, 0))), (0, .ref b)] [] := by
  obtain ⟨fsC, hoC⟩ := hC.ob
  obtain ⟨fsR, hoR⟩ := hR.ob
  refine aw_aload_n C d_L_law_232 rfl (j := 2) rfl ?_
  refine aw_aload_n C d_L_law_233 rfl (j := 3) rfl ?_
  refine aw_iload_n C d_L_law_234 rfl (j := 0) rfl ?_
  refine aw_iconst C (v := 1) d_L_law_235 (by decide) ?_
  refine aw_iadd C d_L_law_236 ?_
  refine aw_topi (v' := nI (a + 1)) (nI_add a 1) ?_
  refine aw_sld C hX (j := (a + 1)) (rfl) (by omega) (by omega) d_L_law_237 ?_
  refine aw_aload_n C d_L_law_238 rfl (j := 3) rfl ?_
  refine aw_iload_n C d_L_law_239 rfl (j := 0) rfl ?_
  refine aw_iconst C (v := 2) d_L_law_240 (by decide) ?_
  refine aw_iadd C d_L_law_241 ?_
  refine aw_topi (v' := nI (a + 2)) (nI_add a 2) ?_
  refine aw_sld C hX (j := (a + 2)) (rfl) (by omega) (by omega) d_L_law_242 ?_
  refine aw_aload_n C d_L_law_243 rfl (j := 3) rfl ?_
  refine aw_iload_n C d_L_law_244 rfl (j := 0) rfl ?_
  refine aw_iconst C (v := 3) d_L_law_245 (by decide) ?_
  refine aw_iadd C d_L_law_246 ?_
  refine aw_topi (v' := nI (a + 3)) (nI_add a 3) ?_
  refine aw_sld C hX (j := (a + 3)) (rfl) (by omega) (by omega) d_L_law_247 ?_
  refine aw_callV C I (k := (0, 0, 0)) (as := [.int (xs (a + 1)), .int (xs (a + 2)), .int (xs (a + 3))]) (rest := []) (C_event l G ad ce S hC hI.pos (xs (a + 1)) (xs (a + 2)) (xs (a + 3))) g_L_25 hoC rfl rfl ⟨by decide, by decide⟩ ⟨Nat.le_trans (m := 600000) (by omega) (Nat.le_refl _), Nat.le_trans (m := 7302250) (by omega) (Nat.le_refl _)⟩ rfl (Nat.le_of_ble_eq_true rfl) d_L_law_248 ?_
  rintro _ ad9 ce9 ⟨rfl, hf9, ha9, hC9⟩
  have hb9 : ad9 (3, 0, 0) = ad (3, 0, 0) := (hf9 _ rfl).1
  rw [← ha9, ← hb9]
  have hR9 := hR.tr hf9
  obtain ⟨fsR, hoR⟩ := hR9.ob
  show AW X 4 (22 + a) (3068 + 46 * a) ad9 ce9 251 [(3, .int (nI a)), (2, .ref (ad9 (3, 0, 0))), (1, .ref (ad9 (0, 0, 0))), (0, .ref b)] [.int ((f_event S (xs (a + 1)) (xs (a + 2)) (xs (a + 3))).1)]
  refine aw_aload_n C d_L_law_251 rfl (j := 1) rfl ?_
  refine aw_aload_n C d_L_law_252 rfl (j := 3) rfl ?_
  refine aw_iload_n C d_L_law_253 rfl (j := 0) rfl ?_
  refine aw_iconst C (v := 1) d_L_law_254 (by decide) ?_
  refine aw_iadd C d_L_law_255 ?_
  refine aw_topi (v' := nI (a + 1)) (nI_add a 1) ?_
  refine aw_sld C hX (j := (a + 1)) (rfl) (by omega) (by omega) d_L_law_256 ?_
  refine aw_aload_n C d_L_law_257 rfl (j := 3) rfl ?_
  refine aw_iload_n C d_L_law_258 rfl (j := 0) rfl ?_
  refine aw_iconst C (v := 2) d_L_law_259 (by decide) ?_
  refine aw_iadd C d_L_law_260 ?_
  refine aw_topi (v' := nI (a + 2)) (nI_add a 2) ?_
  refine aw_sld C hX (j := (a + 2)) (rfl) (by omega) (by omega) d_L_law_261 ?_
  refine aw_aload_n C d_L_law_262 rfl (j := 3) rfl ?_
  refine aw_iload_n C d_L_law_263 rfl (j := 0) rfl ?_
  refine aw_iconst C (v := 3) d_L_law_264 (by decide) ?_
  refine aw_iadd C d_L_law_265 ?_
  refine aw_topi (v' := nI (a + 3)) (nI_add a 3) ?_
  refine aw_sld C hX (j := (a + 3)) (rfl) (by omega) (by omega) d_L_law_266 ?_
  refine aw_callV C I (k := (3, 0, 0)) (as := [.int (xs (a + 1)), .int (xs (a + 2)), .int (xs (a + 3))]) (rest := [.int ((f_event S (xs (a + 1)) (xs (a + 2)) (xs (a + 3))).1)]) (R_event l G ad9 ce9 S hR9 (xs (a + 1)) (xs (a + 2)) (xs (a + 3))) g_L_29 hoR rfl rfl ⟨by decide, by decide⟩ ⟨Nat.le_trans (m := 600000) (by omega) (Nat.le_refl _), Nat.le_trans (m := 7302250) (by omega) (Nat.le_refl _)⟩ rfl (Nat.le_of_ble_eq_true rfl) d_L_law_267 ?_
  rintro _ _ ce8 ⟨rfl, rfl, hf8, hR8⟩
  show AW X 4 (22 + a) (3068 + 46 * a) ad9 ce8 270 [(3, .int (nI a)), (2, .ref (ad9 (3, 0, 0))), (1, .ref (ad9 (0, 0, 0))), (0, .ref b)] [.int ((f_event S (xs (a + 1)) (xs (a + 2)) (xs (a + 3))).1), .int ((f_event S (xs (a + 1)) (xs (a + 2)) (xs (a + 3))).1)]
  refine aw_icmp_eq C (tgt := 993) d_L_law_270 (by decide) (fun h270 => ?_) (fun h270 => absurd (rfl) h270)
  refine aw_widen (k := 22 + a + 6) (n := 3068 + 46 * a + 276) (by omega) (by omega) ?_
  exact hK _ ad9 ce8 (hC9.tr hf8) hR8 (hI.event (xs (a + 1)) (xs (a + 2)) (xs (a + 3)))
set_option maxRecDepth 100000 in
set_option maxHeartbeats 4000000 in
theorem law_last {X : aw_X} {l : Launch} {G : aw_G} (C : aw_ok X code 4 "WipePapersLaw") (I : aw_in X l G room_1) {b L : Nat} {xs : Nat → Int32} (hX : aw_scr X b L xs) (hL : L ≤ 3072) {a : Nat} (ha : a + 6 ≤ L) {S : SysS} {ad : aw_Ad} {ce : aw_He} (hC : LayC S ad ce) (hR : LayR S ad ce) (hI : Inv S)
    (hK : ∀ (S' : SysS) (ad' : aw_Ad) (ce' : aw_He), LayC S' ad' ce' → LayR S' ad' ce' → Inv S' → AW X 4 (22 + a + 6) (3068 + 46 * a + 276) ad' ce' 993 [(3, .int (nI a)), (2, .ref (ad' (3, 0, 0))), (1, .ref (ad' (0, 0, 0))), (0, .ref b)] []) : AW X 4 (22 + a) (3068 + 46 * a) ad ce 275 [(3, .int (nI a)), (2, .ref (ad (3, 0, 0))), (1, .ref (ad (0, 0, 0))), (0, .ref b)] [] := by
  obtain ⟨fsC, hoC⟩ := hC.ob
  obtain ⟨fsR, hoR⟩ := hR.ob
  refine aw_aload_n C d_L_law_275 rfl (j := 2) rfl ?_
  refine aw_aload_n C d_L_law_276 rfl (j := 3) rfl ?_
  refine aw_iload_n C d_L_law_277 rfl (j := 0) rfl ?_
  refine aw_iconst C (v := 1) d_L_law_278 (by decide) ?_
  refine aw_iadd C d_L_law_279 ?_
  refine aw_topi (v' := nI (a + 1)) (nI_add a 1) ?_
  refine aw_sld C hX (j := (a + 1)) (rfl) (by omega) (by omega) d_L_law_280 ?_
  refine aw_callV C I (k := (0, 0, 0)) (as := [.int (xs (a + 1))]) (rest := []) (C_last l G ad ce S hC (xs (a + 1))) g_L_30 hoC rfl rfl ⟨by decide, by decide⟩ ⟨Nat.le_trans (m := 600000) (by omega) (Nat.le_refl _), Nat.le_trans (m := 7302250) (by omega) (Nat.le_refl _)⟩ rfl (Nat.le_of_ble_eq_true rfl) d_L_law_281 ?_
  rintro _ _ _ ⟨rfl, rfl, rfl⟩
  show AW X 4 (22 + a) (3068 + 46 * a) ad ce 284 [(3, .int (nI a)), (2, .ref (ad (3, 0, 0))), (1, .ref (ad (0, 0, 0))), (0, .ref b)] [.int (f_last S (xs (a + 1)))]
  refine aw_aload_n C d_L_law_284 rfl (j := 1) rfl ?_
  refine aw_aload_n C d_L_law_285 rfl (j := 3) rfl ?_
  refine aw_iload_n C d_L_law_286 rfl (j := 0) rfl ?_
  refine aw_iconst C (v := 1) d_L_law_287 (by decide) ?_
  refine aw_iadd C d_L_law_288 ?_
  refine aw_topi (v' := nI (a + 1)) (nI_add a 1) ?_
  refine aw_sld C hX (j := (a + 1)) (rfl) (by omega) (by omega) d_L_law_289 ?_
  refine aw_callV C I (k := (3, 0, 0)) (as := [.int (xs (a + 1))]) (rest := [.int (f_last S (xs (a + 1)))]) (R_last l G ad ce S hR (xs (a + 1))) g_L_33 hoR rfl rfl ⟨by decide, by decide⟩ ⟨Nat.le_trans (m := 600000) (by omega) (Nat.le_refl _), Nat.le_trans (m := 7302250) (by omega) (Nat.le_refl _)⟩ rfl (Nat.le_of_ble_eq_true rfl) d_L_law_290 ?_
  rintro _ _ _ ⟨rfl, rfl, rfl⟩
  show AW X 4 (22 + a) (3068 + 46 * a) ad ce 293 [(3, .int (nI a)), (2, .ref (ad (3, 0, 0))), (1, .ref (ad (0, 0, 0))), (0, .ref b)] [.int (f_last S (xs (a + 1))), .int (f_last S (xs (a + 1)))]
  refine aw_icmp_eq C (tgt := 993) d_L_law_293 (by decide) (fun h293 => ?_) (fun h293 => absurd (rfl) h293)
  refine aw_widen (k := 22 + a + 6) (n := 3068 + 46 * a + 276) (by omega) (by omega) ?_
  exact hK S ad ce hC hR hI
set_option maxRecDepth 100000 in
set_option maxHeartbeats 4000000 in
theorem law_fail {X : aw_X} {l : Launch} {G : aw_G} (C : aw_ok X code 4 "WipePapersLaw") (I : aw_in X l G room_1) {b L : Nat} {xs : Nat → Int32} (hX : aw_scr X b L xs) (hL : L ≤ 3072) {a : Nat} (ha : a + 6 ≤ L) {S : SysS} {ad : aw_Ad} {ce : aw_He} (hC : LayC S ad ce) (hR : LayR S ad ce) (hI : Inv S)
    (hK : ∀ (S' : SysS) (ad' : aw_Ad) (ce' : aw_He), LayC S' ad' ce' → LayR S' ad' ce' → Inv S' → AW X 4 (22 + a + 6) (3068 + 46 * a + 276) ad' ce' 993 [(3, .int (nI a)), (2, .ref (ad' (3, 0, 0))), (1, .ref (ad' (0, 0, 0))), (0, .ref b)] []) : AW X 4 (22 + a) (3068 + 46 * a) ad ce 298 [(3, .int (nI a)), (2, .ref (ad (3, 0, 0))), (1, .ref (ad (0, 0, 0))), (0, .ref b)] [] := by
  obtain ⟨fsC, hoC⟩ := hC.ob
  obtain ⟨fsR, hoR⟩ := hR.ob
  refine aw_aload_n C d_L_law_298 rfl (j := 2) rfl ?_
  refine aw_aload_n C d_L_law_299 rfl (j := 3) rfl ?_
  refine aw_iload_n C d_L_law_300 rfl (j := 0) rfl ?_
  refine aw_iconst C (v := 1) d_L_law_301 (by decide) ?_
  refine aw_iadd C d_L_law_302 ?_
  refine aw_topi (v' := nI (a + 1)) (nI_add a 1) ?_
  refine aw_sld C hX (j := (a + 1)) (rfl) (by omega) (by omega) d_L_law_303 ?_
  refine aw_aload_n C d_L_law_304 rfl (j := 3) rfl ?_
  refine aw_iload_n C d_L_law_305 rfl (j := 0) rfl ?_
  refine aw_iconst C (v := 2) d_L_law_306 (by decide) ?_
  refine aw_iadd C d_L_law_307 ?_
  refine aw_topi (v' := nI (a + 2)) (nI_add a 2) ?_
  refine aw_sld C hX (j := (a + 2)) (rfl) (by omega) (by omega) d_L_law_308 ?_
  refine aw_callV C I (k := (0, 0, 0)) (as := [.int (xs (a + 1)), .int (xs (a + 2))]) (rest := []) (C_fail l G ad ce S hC (xs (a + 1)) (xs (a + 2))) g_L_34 hoC rfl rfl ⟨by decide, by decide⟩ ⟨Nat.le_trans (m := 600000) (by omega) (Nat.le_refl _), Nat.le_trans (m := 7302250) (by omega) (Nat.le_refl _)⟩ rfl (Nat.le_of_ble_eq_true rfl) d_L_law_309 ?_
  rintro _ ad9 ce9 ⟨rfl, hf9, ha9, hC9⟩
  have hb9 : ad9 (3, 0, 0) = ad (3, 0, 0) := (hf9 _ rfl).1
  rw [← ha9, ← hb9]
  have hR9 := hR.tr hf9
  obtain ⟨fsR, hoR⟩ := hR9.ob
  show AW X 4 (22 + a) (3068 + 46 * a) ad9 ce9 312 [(3, .int (nI a)), (2, .ref (ad9 (3, 0, 0))), (1, .ref (ad9 (0, 0, 0))), (0, .ref b)] [.int ((f_fail S (xs (a + 1)) (xs (a + 2))).1)]
  refine aw_aload_n C d_L_law_312 rfl (j := 1) rfl ?_
  refine aw_aload_n C d_L_law_313 rfl (j := 3) rfl ?_
  refine aw_iload_n C d_L_law_314 rfl (j := 0) rfl ?_
  refine aw_iconst C (v := 1) d_L_law_315 (by decide) ?_
  refine aw_iadd C d_L_law_316 ?_
  refine aw_topi (v' := nI (a + 1)) (nI_add a 1) ?_
  refine aw_sld C hX (j := (a + 1)) (rfl) (by omega) (by omega) d_L_law_317 ?_
  refine aw_aload_n C d_L_law_318 rfl (j := 3) rfl ?_
  refine aw_iload_n C d_L_law_319 rfl (j := 0) rfl ?_
  refine aw_iconst C (v := 2) d_L_law_320 (by decide) ?_
  refine aw_iadd C d_L_law_321 ?_
  refine aw_topi (v' := nI (a + 2)) (nI_add a 2) ?_
  refine aw_sld C hX (j := (a + 2)) (rfl) (by omega) (by omega) d_L_law_322 ?_
  refine aw_callV C I (k := (3, 0, 0)) (as := [.int (xs (a + 1)), .int (xs (a + 2))]) (rest := [.int ((f_fail S (xs (a + 1)) (xs (a + 2))).1)]) (R_fail l G ad9 ce9 S hR9 (xs (a + 1)) (xs (a + 2))) g_L_38 hoR rfl rfl ⟨by decide, by decide⟩ ⟨Nat.le_trans (m := 600000) (by omega) (Nat.le_refl _), Nat.le_trans (m := 7302250) (by omega) (Nat.le_refl _)⟩ rfl (Nat.le_of_ble_eq_true rfl) d_L_law_323 ?_
  rintro _ _ ce8 ⟨rfl, rfl, hf8, hR8⟩
  show AW X 4 (22 + a) (3068 + 46 * a) ad9 ce8 326 [(3, .int (nI a)), (2, .ref (ad9 (3, 0, 0))), (1, .ref (ad9 (0, 0, 0))), (0, .ref b)] [.int ((f_fail S (xs (a + 1)) (xs (a + 2))).1), .int ((f_fail S (xs (a + 1)) (xs (a + 2))).1)]
  refine aw_icmp_eq C (tgt := 993) d_L_law_326 (by decide) (fun h326 => ?_) (fun h326 => absurd (rfl) h326)
  refine aw_widen (k := 22 + a + 6) (n := 3068 + 46 * a + 276) (by omega) (by omega) ?_
  exact hK _ ad9 ce8 (hC9.tr hf8) hR8 (hI.fail (xs (a + 1)) (xs (a + 2)))
set_option maxRecDepth 100000 in
set_option maxHeartbeats 4000000 in
theorem law_failed {X : aw_X} {l : Launch} {G : aw_G} (C : aw_ok X code 4 "WipePapersLaw") (I : aw_in X l G room_1) {b L : Nat} {xs : Nat → Int32} (hX : aw_scr X b L xs) (hL : L ≤ 3072) {a : Nat} (ha : a + 6 ≤ L) {S : SysS} {ad : aw_Ad} {ce : aw_He} (hC : LayC S ad ce) (hR : LayR S ad ce) (hI : Inv S)
    (hK : ∀ (S' : SysS) (ad' : aw_Ad) (ce' : aw_He), LayC S' ad' ce' → LayR S' ad' ce' → Inv S' → AW X 4 (22 + a + 6) (3068 + 46 * a + 276) ad' ce' 993 [(3, .int (nI a)), (2, .ref (ad' (3, 0, 0))), (1, .ref (ad' (0, 0, 0))), (0, .ref b)] []) : AW X 4 (22 + a) (3068 + 46 * a) ad ce 331 [(3, .int (nI a)), (2, .ref (ad (3, 0, 0))), (1, .ref (ad (0, 0, 0))), (0, .ref b)] [] := by
  obtain ⟨fsC, hoC⟩ := hC.ob
  obtain ⟨fsR, hoR⟩ := hR.ob
  refine aw_aload_n C d_L_law_331 rfl (j := 2) rfl ?_
  refine aw_aload_n C d_L_law_332 rfl (j := 3) rfl ?_
  refine aw_iload_n C d_L_law_333 rfl (j := 0) rfl ?_
  refine aw_iconst C (v := 1) d_L_law_334 (by decide) ?_
  refine aw_iadd C d_L_law_335 ?_
  refine aw_topi (v' := nI (a + 1)) (nI_add a 1) ?_
  refine aw_sld C hX (j := (a + 1)) (rfl) (by omega) (by omega) d_L_law_336 ?_
  refine aw_aload_n C d_L_law_337 rfl (j := 3) rfl ?_
  refine aw_iload_n C d_L_law_338 rfl (j := 0) rfl ?_
  refine aw_iconst C (v := 2) d_L_law_339 (by decide) ?_
  refine aw_iadd C d_L_law_340 ?_
  refine aw_topi (v' := nI (a + 2)) (nI_add a 2) ?_
  refine aw_sld C hX (j := (a + 2)) (rfl) (by omega) (by omega) d_L_law_341 ?_
  refine aw_callV C I (k := (0, 0, 0)) (as := [.int (xs (a + 1)), .int (xs (a + 2))]) (rest := []) (C_failed l G ad ce S hC (xs (a + 1)) (xs (a + 2))) g_L_39 hoC rfl rfl ⟨by decide, by decide⟩ ⟨Nat.le_trans (m := 600000) (by omega) (Nat.le_refl _), Nat.le_trans (m := 7302250) (by omega) (Nat.le_refl _)⟩ rfl (Nat.le_of_ble_eq_true rfl) d_L_law_342 ?_
  rintro _ _ _ ⟨rfl, rfl, rfl⟩
  show AW X 4 (22 + a) (3068 + 46 * a) ad ce 345 [(3, .int (nI a)), (2, .ref (ad (3, 0, 0))), (1, .ref (ad (0, 0, 0))), (0, .ref b)] [.int (f_failed S (xs (a + 1)) (xs (a + 2)))]
  refine aw_aload_n C d_L_law_345 rfl (j := 1) rfl ?_
  refine aw_aload_n C d_L_law_346 rfl (j := 3) rfl ?_
  refine aw_iload_n C d_L_law_347 rfl (j := 0) rfl ?_
  refine aw_iconst C (v := 1) d_L_law_348 (by decide) ?_
  refine aw_iadd C d_L_law_349 ?_
  refine aw_topi (v' := nI (a + 1)) (nI_add a 1) ?_
  refine aw_sld C hX (j := (a + 1)) (rfl) (by omega) (by omega) d_L_law_350 ?_
  refine aw_aload_n C d_L_law_351 rfl (j := 3) rfl ?_
  refine aw_iload_n C d_L_law_352 rfl (j := 0) rfl ?_
  refine aw_iconst C (v := 2) d_L_law_353 (by decide) ?_
  refine aw_iadd C d_L_law_354 ?_
  refine aw_topi (v' := nI (a + 2)) (nI_add a 2) ?_
  refine aw_sld C hX (j := (a + 2)) (rfl) (by omega) (by omega) d_L_law_355 ?_
  refine aw_callV C I (k := (3, 0, 0)) (as := [.int (xs (a + 1)), .int (xs (a + 2))]) (rest := [.int (f_failed S (xs (a + 1)) (xs (a + 2)))]) (R_failed l G ad ce S hR (xs (a + 1)) (xs (a + 2))) g_L_43 hoR rfl rfl ⟨by decide, by decide⟩ ⟨Nat.le_trans (m := 600000) (by omega) (Nat.le_refl _), Nat.le_trans (m := 7302250) (by omega) (Nat.le_refl _)⟩ rfl (Nat.le_of_ble_eq_true rfl) d_L_law_356 ?_
  rintro _ _ _ ⟨rfl, rfl, rfl⟩
  show AW X 4 (22 + a) (3068 + 46 * a) ad ce 359 [(3, .int (nI a)), (2, .ref (ad (3, 0, 0))), (1, .ref (ad (0, 0, 0))), (0, .ref b)] [.int (f_failed S (xs (a + 1)) (xs (a + 2))), .int (f_failed S (xs (a + 1)) (xs (a + 2)))]
  refine aw_icmp_eq C (tgt := 993) d_L_law_359 (by decide) (fun h359 => ?_) (fun h359 => absurd (rfl) h359)
  refine aw_widen (k := 22 + a + 6) (n := 3068 + 46 * a + 276) (by omega) (by omega) ?_
  exact hK S ad ce hC hR hI
set_option maxRecDepth 100000 in
set_option maxHeartbeats 4000000 in
theorem law_pass {X : aw_X} {l : Launch} {G : aw_G} (C : aw_ok X code 4 "WipePapersLaw") (I : aw_in X l G room_1) {b L : Nat} {xs : Nat → Int32} (hX : aw_scr X b L xs) (hL : L ≤ 3072) {a : Nat} (ha : a + 6 ≤ L) {S : SysS} {ad : aw_Ad} {ce : aw_He} (hC : LayC S ad ce) (hR : LayR S ad ce) (hI : Inv S)
    (hK : ∀ (S' : SysS) (ad' : aw_Ad) (ce' : aw_He), LayC S' ad' ce' → LayR S' ad' ce' → Inv S' → AW X 4 (22 + a + 6) (3068 + 46 * a + 276) ad' ce' 993 [(3, .int (nI a)), (2, .ref (ad' (3, 0, 0))), (1, .ref (ad' (0, 0, 0))), (0, .ref b)] []) : AW X 4 (22 + a) (3068 + 46 * a) ad ce 364 [(3, .int (nI a)), (2, .ref (ad (3, 0, 0))), (1, .ref (ad (0, 0, 0))), (0, .ref b)] [] := by
  obtain ⟨fsC, hoC⟩ := hC.ob
  obtain ⟨fsR, hoR⟩ := hR.ob
  refine aw_aload_n C d_L_law_364 rfl (j := 2) rfl ?_
  refine aw_aload_n C d_L_law_365 rfl (j := 3) rfl ?_
  refine aw_iload_n C d_L_law_366 rfl (j := 0) rfl ?_
  refine aw_iconst C (v := 1) d_L_law_367 (by decide) ?_
  refine aw_iadd C d_L_law_368 ?_
  refine aw_topi (v' := nI (a + 1)) (nI_add a 1) ?_
  refine aw_sld C hX (j := (a + 1)) (rfl) (by omega) (by omega) d_L_law_369 ?_
  refine aw_aload_n C d_L_law_370 rfl (j := 3) rfl ?_
  refine aw_iload_n C d_L_law_371 rfl (j := 0) rfl ?_
  refine aw_iconst C (v := 2) d_L_law_372 (by decide) ?_
  refine aw_iadd C d_L_law_373 ?_
  refine aw_topi (v' := nI (a + 2)) (nI_add a 2) ?_
  refine aw_sld C hX (j := (a + 2)) (rfl) (by omega) (by omega) d_L_law_374 ?_
  refine aw_callV C I (k := (0, 0, 0)) (as := [.int (xs (a + 1)), .int (xs (a + 2))]) (rest := []) (C_pass l G ad ce S hC (xs (a + 1)) (xs (a + 2))) g_L_44 hoC rfl rfl ⟨by decide, by decide⟩ ⟨Nat.le_trans (m := 600000) (by omega) (Nat.le_refl _), Nat.le_trans (m := 7302250) (by omega) (Nat.le_refl _)⟩ rfl (Nat.le_of_ble_eq_true rfl) d_L_law_375 ?_
  rintro _ ad9 ce9 ⟨rfl, hf9, ha9, hC9⟩
  have hb9 : ad9 (3, 0, 0) = ad (3, 0, 0) := (hf9 _ rfl).1
  rw [← ha9, ← hb9]
  have hR9 := hR.tr hf9
  obtain ⟨fsR, hoR⟩ := hR9.ob
  show AW X 4 (22 + a) (3068 + 46 * a) ad9 ce9 378 [(3, .int (nI a)), (2, .ref (ad9 (3, 0, 0))), (1, .ref (ad9 (0, 0, 0))), (0, .ref b)] [.int ((f_pass S (xs (a + 1)) (xs (a + 2))).1)]
  refine aw_aload_n C d_L_law_378 rfl (j := 1) rfl ?_
  refine aw_aload_n C d_L_law_379 rfl (j := 3) rfl ?_
  refine aw_iload_n C d_L_law_380 rfl (j := 0) rfl ?_
  refine aw_iconst C (v := 1) d_L_law_381 (by decide) ?_
  refine aw_iadd C d_L_law_382 ?_
  refine aw_topi (v' := nI (a + 1)) (nI_add a 1) ?_
  refine aw_sld C hX (j := (a + 1)) (rfl) (by omega) (by omega) d_L_law_383 ?_
  refine aw_aload_n C d_L_law_384 rfl (j := 3) rfl ?_
  refine aw_iload_n C d_L_law_385 rfl (j := 0) rfl ?_
  refine aw_iconst C (v := 2) d_L_law_386 (by decide) ?_
  refine aw_iadd C d_L_law_387 ?_
  refine aw_topi (v' := nI (a + 2)) (nI_add a 2) ?_
  refine aw_sld C hX (j := (a + 2)) (rfl) (by omega) (by omega) d_L_law_388 ?_
  refine aw_callV C I (k := (3, 0, 0)) (as := [.int (xs (a + 1)), .int (xs (a + 2))]) (rest := [.int ((f_pass S (xs (a + 1)) (xs (a + 2))).1)]) (R_pass l G ad9 ce9 S hR9 hI.2.2.2 (xs (a + 1)) (xs (a + 2))) g_L_47 hoR rfl rfl ⟨by decide, by decide⟩ ⟨Nat.le_trans (m := 600000) (by omega) (Nat.le_refl _), Nat.le_trans (m := 7302250) (by omega) (Nat.le_refl _)⟩ rfl (Nat.le_of_ble_eq_true rfl) d_L_law_389 ?_
  rintro _ _ ce8 ⟨rfl, rfl, hf8, hR8⟩
  show AW X 4 (22 + a) (3068 + 46 * a) ad9 ce8 392 [(3, .int (nI a)), (2, .ref (ad9 (3, 0, 0))), (1, .ref (ad9 (0, 0, 0))), (0, .ref b)] [.int ((f_pass S (xs (a + 1)) (xs (a + 2))).1), .int ((f_pass S (xs (a + 1)) (xs (a + 2))).1)]
  refine aw_icmp_eq C (tgt := 993) d_L_law_392 (by decide) (fun h392 => ?_) (fun h392 => absurd (rfl) h392)
  refine aw_widen (k := 22 + a + 6) (n := 3068 + 46 * a + 276) (by omega) (by omega) ?_
  exact hK _ ad9 ce8 (hC9.tr hf8) hR8 (hI.pass hR.np (xs (a + 1)) (xs (a + 2)))
set_option maxRecDepth 100000 in
set_option maxHeartbeats 4000000 in
theorem law_byteAt {X : aw_X} {l : Launch} {G : aw_G} (C : aw_ok X code 4 "WipePapersLaw") (I : aw_in X l G room_1) {b L : Nat} {xs : Nat → Int32} (hX : aw_scr X b L xs) (hL : L ≤ 3072) {a : Nat} (ha : a + 6 ≤ L) {S : SysS} {ad : aw_Ad} {ce : aw_He} (hC : LayC S ad ce) (hR : LayR S ad ce) (hI : Inv S)
    (hK : ∀ (S' : SysS) (ad' : aw_Ad) (ce' : aw_He), LayC S' ad' ce' → LayR S' ad' ce' → Inv S' → AW X 4 (22 + a + 6) (3068 + 46 * a + 276) ad' ce' 993 [(3, .int (nI a)), (2, .ref (ad' (3, 0, 0))), (1, .ref (ad' (0, 0, 0))), (0, .ref b)] []) : AW X 4 (22 + a) (3068 + 46 * a) ad ce 397 [(3, .int (nI a)), (2, .ref (ad (3, 0, 0))), (1, .ref (ad (0, 0, 0))), (0, .ref b)] [] := by
  obtain ⟨fsC, hoC⟩ := hC.ob
  obtain ⟨fsR, hoR⟩ := hR.ob
  refine aw_aload_n C d_L_law_397 rfl (j := 2) rfl ?_
  refine aw_aload_n C d_L_law_398 rfl (j := 3) rfl ?_
  refine aw_iload_n C d_L_law_399 rfl (j := 0) rfl ?_
  refine aw_iconst C (v := 1) d_L_law_400 (by decide) ?_
  refine aw_iadd C d_L_law_401 ?_
  refine aw_topi (v' := nI (a + 1)) (nI_add a 1) ?_
  refine aw_sld C hX (j := (a + 1)) (rfl) (by omega) (by omega) d_L_law_402 ?_
  refine aw_aload_n C d_L_law_403 rfl (j := 3) rfl ?_
  refine aw_iload_n C d_L_law_404 rfl (j := 0) rfl ?_
  refine aw_iconst C (v := 2) d_L_law_405 (by decide) ?_
  refine aw_iadd C d_L_law_406 ?_
  refine aw_topi (v' := nI (a + 2)) (nI_add a 2) ?_
  refine aw_sld C hX (j := (a + 2)) (rfl) (by omega) (by omega) d_L_law_407 ?_
  refine aw_callV C I (k := (0, 0, 0)) (as := [.int (xs (a + 1)), .int (xs (a + 2))]) (rest := []) (C_byteAt l G ad ce S hC (xs (a + 1)) (xs (a + 2))) g_L_48 hoC rfl rfl ⟨by decide, by decide⟩ ⟨Nat.le_trans (m := 600000) (by omega) (Nat.le_refl _), Nat.le_trans (m := 7302250) (by omega) (Nat.le_refl _)⟩ rfl (Nat.le_of_ble_eq_true rfl) d_L_law_408 ?_
  rintro _ _ _ ⟨rfl, rfl, rfl⟩
  show AW X 4 (22 + a) (3068 + 46 * a) ad ce 411 [(3, .int (nI a)), (2, .ref (ad (3, 0, 0))), (1, .ref (ad (0, 0, 0))), (0, .ref b)] [.int (f_byteAt S (xs (a + 1)) (xs (a + 2)))]
  refine aw_aload_n C d_L_law_411 rfl (j := 1) rfl ?_
  refine aw_aload_n C d_L_law_412 rfl (j := 3) rfl ?_
  refine aw_iload_n C d_L_law_413 rfl (j := 0) rfl ?_
  refine aw_iconst C (v := 1) d_L_law_414 (by decide) ?_
  refine aw_iadd C d_L_law_415 ?_
  refine aw_topi (v' := nI (a + 1)) (nI_add a 1) ?_
  refine aw_sld C hX (j := (a + 1)) (rfl) (by omega) (by omega) d_L_law_416 ?_
  refine aw_aload_n C d_L_law_417 rfl (j := 3) rfl ?_
  refine aw_iload_n C d_L_law_418 rfl (j := 0) rfl ?_
  refine aw_iconst C (v := 2) d_L_law_419 (by decide) ?_
  refine aw_iadd C d_L_law_420 ?_
  refine aw_topi (v' := nI (a + 2)) (nI_add a 2) ?_
  refine aw_sld C hX (j := (a + 2)) (rfl) (by omega) (by omega) d_L_law_421 ?_
  refine aw_callV C I (k := (3, 0, 0)) (as := [.int (xs (a + 1)), .int (xs (a + 2))]) (rest := [.int (f_byteAt S (xs (a + 1)) (xs (a + 2)))]) (R_byteAt l G ad ce S hR (xs (a + 1)) (xs (a + 2))) g_L_51 hoR rfl rfl ⟨by decide, by decide⟩ ⟨Nat.le_trans (m := 600000) (by omega) (Nat.le_refl _), Nat.le_trans (m := 7302250) (by omega) (Nat.le_refl _)⟩ rfl (Nat.le_of_ble_eq_true rfl) d_L_law_422 ?_
  rintro _ _ _ ⟨rfl, rfl, rfl⟩
  show AW X 4 (22 + a) (3068 + 46 * a) ad ce 425 [(3, .int (nI a)), (2, .ref (ad (3, 0, 0))), (1, .ref (ad (0, 0, 0))), (0, .ref b)] [.int (f_byteAt S (xs (a + 1)) (xs (a + 2))), .int (f_byteAt S (xs (a + 1)) (xs (a + 2)))]
  refine aw_icmp_eq C (tgt := 993) d_L_law_425 (by decide) (fun h425 => ?_) (fun h425 => absurd (rfl) h425)
  refine aw_widen (k := 22 + a + 6) (n := 3068 + 46 * a + 276) (by omega) (by omega) ?_
  exact hK S ad ce hC hR hI
set_option maxRecDepth 100000 in
set_option maxHeartbeats 4000000 in
theorem law_read {X : aw_X} {l : Launch} {G : aw_G} (C : aw_ok X code 4 "WipePapersLaw") (I : aw_in X l G room_1) {b L : Nat} {xs : Nat → Int32} (hX : aw_scr X b L xs) (hL : L ≤ 3072) {a : Nat} (ha : a + 6 ≤ L) {S : SysS} {ad : aw_Ad} {ce : aw_He} (hC : LayC S ad ce) (hR : LayR S ad ce) (hI : Inv S)
    (hK : ∀ (S' : SysS) (ad' : aw_Ad) (ce' : aw_He), LayC S' ad' ce' → LayR S' ad' ce' → Inv S' → AW X 4 (22 + a + 6) (3068 + 46 * a + 276) ad' ce' 993 [(3, .int (nI a)), (2, .ref (ad' (3, 0, 0))), (1, .ref (ad' (0, 0, 0))), (0, .ref b)] []) : AW X 4 (22 + a) (3068 + 46 * a) ad ce 430 [(3, .int (nI a)), (2, .ref (ad (3, 0, 0))), (1, .ref (ad (0, 0, 0))), (0, .ref b)] [] := by
  obtain ⟨fsC, hoC⟩ := hC.ob
  obtain ⟨fsR, hoR⟩ := hR.ob
  refine aw_aload_n C d_L_law_430 rfl (j := 2) rfl ?_
  refine aw_aload_n C d_L_law_431 rfl (j := 3) rfl ?_
  refine aw_iload_n C d_L_law_432 rfl (j := 0) rfl ?_
  refine aw_iconst C (v := 1) d_L_law_433 (by decide) ?_
  refine aw_iadd C d_L_law_434 ?_
  refine aw_topi (v' := nI (a + 1)) (nI_add a 1) ?_
  refine aw_sld C hX (j := (a + 1)) (rfl) (by omega) (by omega) d_L_law_435 ?_
  refine aw_aload_n C d_L_law_436 rfl (j := 3) rfl ?_
  refine aw_iload_n C d_L_law_437 rfl (j := 0) rfl ?_
  refine aw_iconst C (v := 2) d_L_law_438 (by decide) ?_
  refine aw_iadd C d_L_law_439 ?_
  refine aw_topi (v' := nI (a + 2)) (nI_add a 2) ?_
  refine aw_sld C hX (j := (a + 2)) (rfl) (by omega) (by omega) d_L_law_440 ?_
  refine aw_aload_n C d_L_law_441 rfl (j := 3) rfl ?_
  refine aw_iload_n C d_L_law_442 rfl (j := 0) rfl ?_
  refine aw_iconst C (v := 3) d_L_law_443 (by decide) ?_
  refine aw_iadd C d_L_law_444 ?_
  refine aw_topi (v' := nI (a + 3)) (nI_add a 3) ?_
  refine aw_sld C hX (j := (a + 3)) (rfl) (by omega) (by omega) d_L_law_445 ?_
  refine aw_callV C I (k := (0, 0, 0)) (as := [.int (xs (a + 1)), .int (xs (a + 2)), .int (xs (a + 3))]) (rest := []) (C_read l G ad ce S hC (xs (a + 1)) (xs (a + 2)) (xs (a + 3))) g_L_52 hoC rfl rfl ⟨by decide, by decide⟩ ⟨Nat.le_trans (m := 600000) (by omega) (Nat.le_refl _), Nat.le_trans (m := 7302250) (by omega) (Nat.le_refl _)⟩ rfl (Nat.le_of_ble_eq_true rfl) d_L_law_446 ?_
  rintro _ ad9 ce9 ⟨rfl, hf9, ha9, hC9⟩
  have hb9 : ad9 (3, 0, 0) = ad (3, 0, 0) := (hf9 _ rfl).1
  rw [← ha9, ← hb9]
  have hR9 := hR.tr hf9
  obtain ⟨fsR, hoR⟩ := hR9.ob
  show AW X 4 (22 + a) (3068 + 46 * a) ad9 ce9 449 [(3, .int (nI a)), (2, .ref (ad9 (3, 0, 0))), (1, .ref (ad9 (0, 0, 0))), (0, .ref b)] [.int ((f_read S (xs (a + 1)) (xs (a + 2)) (xs (a + 3))).1)]
  refine aw_aload_n C d_L_law_449 rfl (j := 1) rfl ?_
  refine aw_aload_n C d_L_law_450 rfl (j := 3) rfl ?_
  refine aw_iload_n C d_L_law_451 rfl (j := 0) rfl ?_
  refine aw_iconst C (v := 1) d_L_law_452 (by decide) ?_
  refine aw_iadd C d_L_law_453 ?_
  refine aw_topi (v' := nI (a + 1)) (nI_add a 1) ?_
  refine aw_sld C hX (j := (a + 1)) (rfl) (by omega) (by omega) d_L_law_454 ?_
  refine aw_aload_n C d_L_law_455 rfl (j := 3) rfl ?_
  refine aw_iload_n C d_L_law_456 rfl (j := 0) rfl ?_
  refine aw_iconst C (v := 2) d_L_law_457 (by decide) ?_
  refine aw_iadd C d_L_law_458 ?_
  refine aw_topi (v' := nI (a + 2)) (nI_add a 2) ?_
  refine aw_sld C hX (j := (a + 2)) (rfl) (by omega) (by omega) d_L_law_459 ?_
  refine aw_aload_n C d_L_law_460 rfl (j := 3) rfl ?_
  refine aw_iload_n C d_L_law_461 rfl (j := 0) rfl ?_
  refine aw_iconst C (v := 3) d_L_law_462 (by decide) ?_
  refine aw_iadd C d_L_law_463 ?_
  refine aw_topi (v' := nI (a + 3)) (nI_add a 3) ?_
  refine aw_sld C hX (j := (a + 3)) (rfl) (by omega) (by omega) d_L_law_464 ?_
  refine aw_callV C I (k := (3, 0, 0)) (as := [.int (xs (a + 1)), .int (xs (a + 2)), .int (xs (a + 3))]) (rest := [.int ((f_read S (xs (a + 1)) (xs (a + 2)) (xs (a + 3))).1)]) (R_read l G ad9 ce9 S hR9 (xs (a + 1)) (xs (a + 2)) (xs (a + 3))) g_L_56 hoR rfl rfl ⟨by decide, by decide⟩ ⟨Nat.le_trans (m := 600000) (by omega) (Nat.le_refl _), Nat.le_trans (m := 7302250) (by omega) (Nat.le_refl _)⟩ rfl (Nat.le_of_ble_eq_true rfl) d_L_law_465 ?_
  rintro _ _ ce8 ⟨rfl, rfl, hf8, hR8⟩
  show AW X 4 (22 + a) (3068 + 46 * a) ad9 ce8 468 [(3, .int (nI a)), (2, .ref (ad9 (3, 0, 0))), (1, .ref (ad9 (0, 0, 0))), (0, .ref b)] [.int ((f_read S (xs (a + 1)) (xs (a + 2)) (xs (a + 3))).1), .int ((f_read S (xs (a + 1)) (xs (a + 2)) (xs (a + 3))).1)]
  refine aw_icmp_eq C (tgt := 993) d_L_law_468 (by decide) (fun h468 => ?_) (fun h468 => absurd (rfl) h468)
  refine aw_widen (k := 22 + a + 6) (n := 3068 + 46 * a + 276) (by omega) (by omega) ?_
  exact hK _ ad9 ce8 (hC9.tr hf8) hR8 (hI.read (xs (a + 1)) (xs (a + 2)) (xs (a + 3)))
set_option maxRecDepth 100000 in
set_option maxHeartbeats 4000000 in
theorem law_unlike {X : aw_X} {l : Launch} {G : aw_G} (C : aw_ok X code 4 "WipePapersLaw") (I : aw_in X l G room_1) {b L : Nat} {xs : Nat → Int32} (hX : aw_scr X b L xs) (hL : L ≤ 3072) {a : Nat} (ha : a + 6 ≤ L) {S : SysS} {ad : aw_Ad} {ce : aw_He} (hC : LayC S ad ce) (hR : LayR S ad ce) (hI : Inv S)
    (hK : ∀ (S' : SysS) (ad' : aw_Ad) (ce' : aw_He), LayC S' ad' ce' → LayR S' ad' ce' → Inv S' → AW X 4 (22 + a + 6) (3068 + 46 * a + 276) ad' ce' 993 [(3, .int (nI a)), (2, .ref (ad' (3, 0, 0))), (1, .ref (ad' (0, 0, 0))), (0, .ref b)] []) : AW X 4 (22 + a) (3068 + 46 * a) ad ce 473 [(3, .int (nI a)), (2, .ref (ad (3, 0, 0))), (1, .ref (ad (0, 0, 0))), (0, .ref b)] [] := by
  obtain ⟨fsC, hoC⟩ := hC.ob
  obtain ⟨fsR, hoR⟩ := hR.ob
  refine aw_aload_n C d_L_law_473 rfl (j := 2) rfl ?_
  refine aw_aload_n C d_L_law_474 rfl (j := 3) rfl ?_
  refine aw_iload_n C d_L_law_475 rfl (j := 0) rfl ?_
  refine aw_iconst C (v := 1) d_L_law_476 (by decide) ?_
  refine aw_iadd C d_L_law_477 ?_
  refine aw_topi (v' := nI (a + 1)) (nI_add a 1) ?_
  refine aw_sld C hX (j := (a + 1)) (rfl) (by omega) (by omega) d_L_law_478 ?_
  refine aw_callV C I (k := (0, 0, 0)) (as := [.int (xs (a + 1))]) (rest := []) (C_unlike l G ad ce S hC (xs (a + 1))) g_L_57 hoC rfl rfl ⟨by decide, by decide⟩ ⟨Nat.le_trans (m := 600000) (by omega) (Nat.le_refl _), Nat.le_trans (m := 7302250) (by omega) (Nat.le_refl _)⟩ rfl (Nat.le_of_ble_eq_true rfl) d_L_law_479 ?_
  rintro _ _ _ ⟨rfl, rfl, rfl⟩
  show AW X 4 (22 + a) (3068 + 46 * a) ad ce 482 [(3, .int (nI a)), (2, .ref (ad (3, 0, 0))), (1, .ref (ad (0, 0, 0))), (0, .ref b)] [.int (f_unlike S (xs (a + 1)))]
  refine aw_aload_n C d_L_law_482 rfl (j := 1) rfl ?_
  refine aw_aload_n C d_L_law_483 rfl (j := 3) rfl ?_
  refine aw_iload_n C d_L_law_484 rfl (j := 0) rfl ?_
  refine aw_iconst C (v := 1) d_L_law_485 (by decide) ?_
  refine aw_iadd C d_L_law_486 ?_
  refine aw_topi (v' := nI (a + 1)) (nI_add a 1) ?_
  refine aw_sld C hX (j := (a + 1)) (rfl) (by omega) (by omega) d_L_law_487 ?_
  refine aw_callV C I (k := (3, 0, 0)) (as := [.int (xs (a + 1))]) (rest := [.int (f_unlike S (xs (a + 1)))]) (R_unlike l G ad ce S hR (xs (a + 1))) g_L_60 hoR rfl rfl ⟨by decide, by decide⟩ ⟨Nat.le_trans (m := 600000) (by omega) (Nat.le_refl _), Nat.le_trans (m := 7302250) (by omega) (Nat.le_refl _)⟩ rfl (Nat.le_of_ble_eq_true rfl) d_L_law_488 ?_
  rintro _ _ _ ⟨rfl, rfl, rfl⟩
  show AW X 4 (22 + a) (3068 + 46 * a) ad ce 491 [(3, .int (nI a)), (2, .ref (ad (3, 0, 0))), (1, .ref (ad (0, 0, 0))), (0, .ref b)] [.int (f_unlike S (xs (a + 1))), .int (f_unlike S (xs (a + 1)))]
  refine aw_icmp_eq C (tgt := 993) d_L_law_491 (by decide) (fun h491 => ?_) (fun h491 => absurd (rfl) h491)
  refine aw_widen (k := 22 + a + 6) (n := 3068 + 46 * a + 276) (by omega) (by omega) ?_
  exact hK S ad ce hC hR hI
set_option maxRecDepth 100000 in
set_option maxHeartbeats 4000000 in
theorem law_odds {X : aw_X} {l : Launch} {G : aw_G} (C : aw_ok X code 4 "WipePapersLaw") (I : aw_in X l G room_1) {b L : Nat} {xs : Nat → Int32} (hX : aw_scr X b L xs) (hL : L ≤ 3072) {a : Nat} (ha : a + 6 ≤ L) {S : SysS} {ad : aw_Ad} {ce : aw_He} (hC : LayC S ad ce) (hR : LayR S ad ce) (hI : Inv S)
    (hK : ∀ (S' : SysS) (ad' : aw_Ad) (ce' : aw_He), LayC S' ad' ce' → LayR S' ad' ce' → Inv S' → AW X 4 (22 + a + 6) (3068 + 46 * a + 276) ad' ce' 993 [(3, .int (nI a)), (2, .ref (ad' (3, 0, 0))), (1, .ref (ad' (0, 0, 0))), (0, .ref b)] []) : AW X 4 (22 + a) (3068 + 46 * a) ad ce 496 [(3, .int (nI a)), (2, .ref (ad (3, 0, 0))), (1, .ref (ad (0, 0, 0))), (0, .ref b)] [] := by
  obtain ⟨fsC, hoC⟩ := hC.ob
  obtain ⟨fsR, hoR⟩ := hR.ob
  refine aw_aload_n C d_L_law_496 rfl (j := 2) rfl ?_
  refine aw_aload_n C d_L_law_497 rfl (j := 3) rfl ?_
  refine aw_iload_n C d_L_law_498 rfl (j := 0) rfl ?_
  refine aw_iconst C (v := 1) d_L_law_499 (by decide) ?_
  refine aw_iadd C d_L_law_500 ?_
  refine aw_topi (v' := nI (a + 1)) (nI_add a 1) ?_
  refine aw_sld C hX (j := (a + 1)) (rfl) (by omega) (by omega) d_L_law_501 ?_
  refine aw_aload_n C d_L_law_502 rfl (j := 3) rfl ?_
  refine aw_iload_n C d_L_law_503 rfl (j := 0) rfl ?_
  refine aw_iconst C (v := 2) d_L_law_504 (by decide) ?_
  refine aw_iadd C d_L_law_505 ?_
  refine aw_topi (v' := nI (a + 2)) (nI_add a 2) ?_
  refine aw_sld C hX (j := (a + 2)) (rfl) (by omega) (by omega) d_L_law_506 ?_
  refine aw_aload_n C d_L_law_507 rfl (j := 3) rfl ?_
  refine aw_iload_n C d_L_law_508 rfl (j := 0) rfl ?_
  refine aw_iconst C (v := 3) d_L_law_509 (by decide) ?_
  refine aw_iadd C d_L_law_510 ?_
  refine aw_topi (v' := nI (a + 3)) (nI_add a 3) ?_
  refine aw_sld C hX (j := (a + 3)) (rfl) (by omega) (by omega) d_L_law_511 ?_
  refine aw_aload_n C d_L_law_512 rfl (j := 3) rfl ?_
  refine aw_iload_n C d_L_law_513 rfl (j := 0) rfl ?_
  refine aw_iconst C (v := 4) d_L_law_514 (by decide) ?_
  refine aw_iadd C d_L_law_515 ?_
  refine aw_topi (v' := nI (a + 4)) (nI_add a 4) ?_
  refine aw_sld C hX (j := (a + 4)) (rfl) (by omega) (by omega) d_L_law_516 ?_
  refine aw_callV C I (k := (0, 0, 0)) (as := [.int (xs (a + 1)), .int (xs (a + 2)), .int (xs (a + 3)), .int (xs (a + 4))]) (rest := []) (C_odds l G ad ce (xs (a + 1)) (xs (a + 2)) (xs (a + 3)) (xs (a + 4))) g_L_61 hoC rfl rfl ⟨by decide, by decide⟩ ⟨Nat.le_trans (m := 600000) (by omega) (Nat.le_refl _), Nat.le_trans (m := 7302250) (by omega) (Nat.le_refl _)⟩ rfl (Nat.le_of_ble_eq_true rfl) d_L_law_517 ?_
  rintro _ _ _ ⟨rfl, rfl, rfl⟩
  show AW X 4 (22 + a) (3068 + 46 * a) ad ce 520 [(3, .int (nI a)), (2, .ref (ad (3, 0, 0))), (1, .ref (ad (0, 0, 0))), (0, .ref b)] [.long (f_odds (xs (a + 1)) (xs (a + 2)) (xs (a + 3)) (xs (a + 4)))]
  refine aw_aload_n C d_L_law_520 rfl (j := 1) rfl ?_
  refine aw_aload_n C d_L_law_521 rfl (j := 3) rfl ?_
  refine aw_iload_n C d_L_law_522 rfl (j := 0) rfl ?_
  refine aw_iconst C (v := 1) d_L_law_523 (by decide) ?_
  refine aw_iadd C d_L_law_524 ?_
  refine aw_topi (v' := nI (a + 1)) (nI_add a 1) ?_
  refine aw_sld C hX (j := (a + 1)) (rfl) (by omega) (by omega) d_L_law_525 ?_
  refine aw_aload_n C d_L_law_526 rfl (j := 3) rfl ?_
  refine aw_iload_n C d_L_law_527 rfl (j := 0) rfl ?_
  refine aw_iconst C (v := 2) d_L_law_528 (by decide) ?_
  refine aw_iadd C d_L_law_529 ?_
  refine aw_topi (v' := nI (a + 2)) (nI_add a 2) ?_
  refine aw_sld C hX (j := (a + 2)) (rfl) (by omega) (by omega) d_L_law_530 ?_
  refine aw_aload_n C d_L_law_531 rfl (j := 3) rfl ?_
  refine aw_iload_n C d_L_law_532 rfl (j := 0) rfl ?_
  refine aw_iconst C (v := 3) d_L_law_533 (by decide) ?_
  refine aw_iadd C d_L_law_534 ?_
  refine aw_topi (v' := nI (a + 3)) (nI_add a 3) ?_
  refine aw_sld C hX (j := (a + 3)) (rfl) (by omega) (by omega) d_L_law_535 ?_
  refine aw_aload_n C d_L_law_536 rfl (j := 3) rfl ?_
  refine aw_iload_n C d_L_law_537 rfl (j := 0) rfl ?_
  refine aw_iconst C (v := 4) d_L_law_538 (by decide) ?_
  refine aw_iadd C d_L_law_539 ?_
  refine aw_topi (v' := nI (a + 4)) (nI_add a 4) ?_
  refine aw_sld C hX (j := (a + 4)) (rfl) (by omega) (by omega) d_L_law_540 ?_
  refine aw_callV C I (k := (3, 0, 0)) (as := [.int (xs (a + 1)), .int (xs (a + 2)), .int (xs (a + 3)), .int (xs (a + 4))]) (rest := [.long (f_odds (xs (a + 1)) (xs (a + 2)) (xs (a + 3)) (xs (a + 4)))]) (R_odds l G ad ce (xs (a + 1)) (xs (a + 2)) (xs (a + 3)) (xs (a + 4))) g_L_65 hoR rfl rfl ⟨by decide, by decide⟩ ⟨Nat.le_trans (m := 600000) (by omega) (Nat.le_refl _), Nat.le_trans (m := 7302250) (by omega) (Nat.le_refl _)⟩ rfl (Nat.le_of_ble_eq_true rfl) d_L_law_541 ?_
  rintro _ _ _ ⟨rfl, rfl, rfl⟩
  show AW X 4 (22 + a) (3068 + 46 * a) ad ce 544 [(3, .int (nI a)), (2, .ref (ad (3, 0, 0))), (1, .ref (ad (0, 0, 0))), (0, .ref b)] [.long (f_odds (xs (a + 1)) (xs (a + 2)) (xs (a + 3)) (xs (a + 4))), .long (f_odds (xs (a + 1)) (xs (a + 2)) (xs (a + 3)) (xs (a + 4)))]
  refine aw_lcmp C d_L_law_544 ?_
  refine aw_if_eq C (tgt := 993) d_L_law_545 (by decide) (fun h545 => ?_) (fun h545 => absurd ((lg_cmp_eq _ _).mpr rfl) h545)
  refine aw_widen (k := 22 + a + 6) (n := 3068 + 46 * a + 276) (by omega) (by omega) ?_
  exact hK S ad ce hC hR hI
set_option maxRecDepth 100000 in
set_option maxHeartbeats 4000000 in
theorem law_shred {X : aw_X} {l : Launch} {G : aw_G} (C : aw_ok X code 4 "WipePapersLaw") (I : aw_in X l G room_1) {b L : Nat} {xs : Nat → Int32} (hX : aw_scr X b L xs) (hL : L ≤ 3072) {a : Nat} (ha : a + 6 ≤ L) {S : SysS} {ad : aw_Ad} {ce : aw_He} (hC : LayC S ad ce) (hR : LayR S ad ce) (hI : Inv S)
    (hK : ∀ (S' : SysS) (ad' : aw_Ad) (ce' : aw_He), LayC S' ad' ce' → LayR S' ad' ce' → Inv S' → AW X 4 (22 + a + 6) (3068 + 46 * a + 276) ad' ce' 993 [(3, .int (nI a)), (2, .ref (ad' (3, 0, 0))), (1, .ref (ad' (0, 0, 0))), (0, .ref b)] []) : AW X 4 (22 + a) (3068 + 46 * a) ad ce 550 [(3, .int (nI a)), (2, .ref (ad (3, 0, 0))), (1, .ref (ad (0, 0, 0))), (0, .ref b)] [] := by
  obtain ⟨fsC, hoC⟩ := hC.ob
  obtain ⟨fsR, hoR⟩ := hR.ob
  refine aw_aload_n C d_L_law_550 rfl (j := 2) rfl ?_
  refine aw_aload_n C d_L_law_551 rfl (j := 3) rfl ?_
  refine aw_iload_n C d_L_law_552 rfl (j := 0) rfl ?_
  refine aw_iconst C (v := 1) d_L_law_553 (by decide) ?_
  refine aw_iadd C d_L_law_554 ?_
  refine aw_topi (v' := nI (a + 1)) (nI_add a 1) ?_
  refine aw_sld C hX (j := (a + 1)) (rfl) (by omega) (by omega) d_L_law_555 ?_
  refine aw_aload_n C d_L_law_556 rfl (j := 3) rfl ?_
  refine aw_iload_n C d_L_law_557 rfl (j := 0) rfl ?_
  refine aw_iconst C (v := 2) d_L_law_558 (by decide) ?_
  refine aw_iadd C d_L_law_559 ?_
  refine aw_topi (v' := nI (a + 2)) (nI_add a 2) ?_
  refine aw_sld C hX (j := (a + 2)) (rfl) (by omega) (by omega) d_L_law_560 ?_
  refine aw_callV C I (k := (0, 0, 0)) (as := [.int (xs (a + 1)), .int (xs (a + 2))]) (rest := []) (C_shred l G ad ce S hC (xs (a + 1)) (xs (a + 2))) g_L_66 hoC rfl rfl ⟨by decide, by decide⟩ ⟨Nat.le_trans (m := 600000) (by omega) (Nat.le_refl _), Nat.le_trans (m := 7302250) (by omega) (Nat.le_refl _)⟩ rfl (Nat.le_of_ble_eq_true rfl) d_L_law_561 ?_
  rintro _ ad9 ce9 ⟨rfl, hf9, ha9, hC9⟩
  have hb9 : ad9 (3, 0, 0) = ad (3, 0, 0) := (hf9 _ rfl).1
  rw [← ha9, ← hb9]
  have hR9 := hR.tr hf9
  obtain ⟨fsR, hoR⟩ := hR9.ob
  show AW X 4 (22 + a) (3068 + 46 * a) ad9 ce9 564 [(3, .int (nI a)), (2, .ref (ad9 (3, 0, 0))), (1, .ref (ad9 (0, 0, 0))), (0, .ref b)] [.int ((f_shred S (xs (a + 1)) (xs (a + 2))).1)]
  refine aw_aload_n C d_L_law_564 rfl (j := 1) rfl ?_
  refine aw_aload_n C d_L_law_565 rfl (j := 3) rfl ?_
  refine aw_iload_n C d_L_law_566 rfl (j := 0) rfl ?_
  refine aw_iconst C (v := 1) d_L_law_567 (by decide) ?_
  refine aw_iadd C d_L_law_568 ?_
  refine aw_topi (v' := nI (a + 1)) (nI_add a 1) ?_
  refine aw_sld C hX (j := (a + 1)) (rfl) (by omega) (by omega) d_L_law_569 ?_
  refine aw_aload_n C d_L_law_570 rfl (j := 3) rfl ?_
  refine aw_iload_n C d_L_law_571 rfl (j := 0) rfl ?_
  refine aw_iconst C (v := 2) d_L_law_572 (by decide) ?_
  refine aw_iadd C d_L_law_573 ?_
  refine aw_topi (v' := nI (a + 2)) (nI_add a 2) ?_
  refine aw_sld C hX (j := (a + 2)) (rfl) (by omega) (by omega) d_L_law_574 ?_
  refine aw_callV C I (k := (3, 0, 0)) (as := [.int (xs (a + 1)), .int (xs (a + 2))]) (rest := [.int ((f_shred S (xs (a + 1)) (xs (a + 2))).1)]) (R_shred l G ad9 ce9 S hR9 (xs (a + 1)) (xs (a + 2))) g_L_69 hoR rfl rfl ⟨by decide, by decide⟩ ⟨Nat.le_trans (m := 600000) (by omega) (Nat.le_refl _), Nat.le_trans (m := 7302250) (by omega) (Nat.le_refl _)⟩ rfl (Nat.le_of_ble_eq_true rfl) d_L_law_575 ?_
  rintro _ _ ce8 ⟨rfl, rfl, hf8, hR8⟩
  show AW X 4 (22 + a) (3068 + 46 * a) ad9 ce8 578 [(3, .int (nI a)), (2, .ref (ad9 (3, 0, 0))), (1, .ref (ad9 (0, 0, 0))), (0, .ref b)] [.int ((f_shred S (xs (a + 1)) (xs (a + 2))).1), .int ((f_shred S (xs (a + 1)) (xs (a + 2))).1)]
  refine aw_icmp_eq C (tgt := 993) d_L_law_578 (by decide) (fun h578 => ?_) (fun h578 => absurd (rfl) h578)
  refine aw_widen (k := 22 + a + 6) (n := 3068 + 46 * a + 276) (by omega) (by omega) ?_
  exact hK _ ad9 ce8 (hC9.tr hf8) hR8 (hI.shred (xs (a + 1)) (xs (a + 2)))
set_option maxRecDepth 100000 in
set_option maxHeartbeats 4000000 in
theorem law_paper {X : aw_X} {l : Launch} {G : aw_G} (C : aw_ok X code 4 "WipePapersLaw") (I : aw_in X l G room_1) {b L : Nat} {xs : Nat → Int32} (hX : aw_scr X b L xs) (hL : L ≤ 3072) {a : Nat} (ha : a + 6 ≤ L) {S : SysS} {ad : aw_Ad} {ce : aw_He} (hC : LayC S ad ce) (hR : LayR S ad ce) (hI : Inv S)
    (hK : ∀ (S' : SysS) (ad' : aw_Ad) (ce' : aw_He), LayC S' ad' ce' → LayR S' ad' ce' → Inv S' → AW X 4 (22 + a + 6) (3068 + 46 * a + 276) ad' ce' 993 [(3, .int (nI a)), (2, .ref (ad' (3, 0, 0))), (1, .ref (ad' (0, 0, 0))), (0, .ref b)] []) : AW X 4 (22 + a) (3068 + 46 * a) ad ce 583 [(3, .int (nI a)), (2, .ref (ad (3, 0, 0))), (1, .ref (ad (0, 0, 0))), (0, .ref b)] [] := by
  obtain ⟨fsC, hoC⟩ := hC.ob
  obtain ⟨fsR, hoR⟩ := hR.ob
  refine aw_aload_n C d_L_law_583 rfl (j := 2) rfl ?_
  refine aw_aload_n C d_L_law_584 rfl (j := 3) rfl ?_
  refine aw_iload_n C d_L_law_585 rfl (j := 0) rfl ?_
  refine aw_iconst C (v := 1) d_L_law_586 (by decide) ?_
  refine aw_iadd C d_L_law_587 ?_
  refine aw_topi (v' := nI (a + 1)) (nI_add a 1) ?_
  refine aw_sld C hX (j := (a + 1)) (rfl) (by omega) (by omega) d_L_law_588 ?_
  refine aw_aload_n C d_L_law_589 rfl (j := 3) rfl ?_
  refine aw_iload_n C d_L_law_590 rfl (j := 0) rfl ?_
  refine aw_iconst C (v := 2) d_L_law_591 (by decide) ?_
  refine aw_iadd C d_L_law_592 ?_
  refine aw_topi (v' := nI (a + 2)) (nI_add a 2) ?_
  refine aw_sld C hX (j := (a + 2)) (rfl) (by omega) (by omega) d_L_law_593 ?_
  refine aw_aload_n C d_L_law_594 rfl (j := 3) rfl ?_
  refine aw_iload_n C d_L_law_595 rfl (j := 0) rfl ?_
  refine aw_iconst C (v := 3) d_L_law_596 (by decide) ?_
  refine aw_iadd C d_L_law_597 ?_
  refine aw_topi (v' := nI (a + 3)) (nI_add a 3) ?_
  refine aw_sld C hX (j := (a + 3)) (rfl) (by omega) (by omega) d_L_law_598 ?_
  refine aw_callV C I (k := (0, 0, 0)) (as := [.int (xs (a + 1)), .int (xs (a + 2)), .int (xs (a + 3))]) (rest := []) (C_paper l G ad ce S hC (xs (a + 1)) (xs (a + 2)) (xs (a + 3))) g_L_70 hoC rfl rfl ⟨by decide, by decide⟩ ⟨Nat.le_trans (m := 600000) (by omega) (Nat.le_refl _), Nat.le_trans (m := 7302250) (by omega) (Nat.le_refl _)⟩ rfl (Nat.le_of_ble_eq_true rfl) d_L_law_599 ?_
  rintro _ ad9 ce9 ⟨rfl, hf9, ha9, hC9⟩
  have hb9 : ad9 (3, 0, 0) = ad (3, 0, 0) := (hf9 _ rfl).1
  rw [← ha9, ← hb9]
  have hR9 := hR.tr hf9
  obtain ⟨fsR, hoR⟩ := hR9.ob
  show AW X 4 (22 + a + 2) (3068 + 46 * a + 13) ad9 ce9 602 [(3, .int (nI a)), (2, .ref (ad9 (3, 0, 0))), (1, .ref (ad9 (0, 0, 0))), (0, .ref b)] [.int ((f_paper S (xs (a + 1)) (xs (a + 2)) (xs (a + 3))).1)]
  refine aw_aload_n C d_L_law_602 rfl (j := 1) rfl ?_
  refine aw_aload_n C d_L_law_603 rfl (j := 3) rfl ?_
  refine aw_iload_n C d_L_law_604 rfl (j := 0) rfl ?_
  refine aw_iconst C (v := 1) d_L_law_605 (by decide) ?_
  refine aw_iadd C d_L_law_606 ?_
  refine aw_topi (v' := nI (a + 1)) (nI_add a 1) ?_
  refine aw_sld C hX (j := (a + 1)) (rfl) (by omega) (by omega) d_L_law_607 ?_
  refine aw_aload_n C d_L_law_608 rfl (j := 3) rfl ?_
  refine aw_iload_n C d_L_law_609 rfl (j := 0) rfl ?_
  refine aw_iconst C (v := 2) d_L_law_610 (by decide) ?_
  refine aw_iadd C d_L_law_611 ?_
  refine aw_topi (v' := nI (a + 2)) (nI_add a 2) ?_
  refine aw_sld C hX (j := (a + 2)) (rfl) (by omega) (by omega) d_L_law_612 ?_
  refine aw_aload_n C d_L_law_613 rfl (j := 3) rfl ?_
  refine aw_iload_n C d_L_law_614 rfl (j := 0) rfl ?_
  refine aw_iconst C (v := 3) d_L_law_615 (by decide) ?_
  refine aw_iadd C d_L_law_616 ?_
  refine aw_topi (v' := nI (a + 3)) (nI_add a 3) ?_
  refine aw_sld C hX (j := (a + 3)) (rfl) (by omega) (by omega) d_L_law_617 ?_
  refine aw_callV C I (k := (3, 0, 0)) (as := [.int (xs (a + 1)), .int (xs (a + 2)), .int (xs (a + 3))]) (rest := [.int ((f_paper S (xs (a + 1)) (xs (a + 2)) (xs (a + 3))).1)]) (R_paper l G ad9 ce9 S hR9 (xs (a + 1)) (xs (a + 2)) (xs (a + 3))) g_L_73 hoR rfl rfl ⟨by decide, by decide⟩ ⟨Nat.le_trans (m := 600000) (by omega) (Nat.le_refl _), Nat.le_trans (m := 7302250) (by omega) (Nat.le_refl _)⟩ rfl (Nat.le_of_ble_eq_true rfl) d_L_law_618 ?_
  rintro _ _ ce8 ⟨rfl, rfl, hf8, hR8⟩
  show AW X 4 (22 + a + 2) (3068 + 46 * a + 13) ad9 ce8 621 [(3, .int (nI a)), (2, .ref (ad9 (3, 0, 0))), (1, .ref (ad9 (0, 0, 0))), (0, .ref b)] [.int ((f_paper S (xs (a + 1)) (xs (a + 2)) (xs (a + 3))).1), .int ((f_paper S (xs (a + 1)) (xs (a + 2)) (xs (a + 3))).1)]
  refine aw_icmp_eq C (tgt := 993) d_L_law_621 (by decide) (fun h621 => ?_) (fun h621 => absurd (rfl) h621)
  refine aw_widen (k := 22 + a + 6) (n := 3068 + 46 * a + 276) (by omega) (by omega) ?_
  exact hK _ ad9 ce8 (hC9.tr hf8) hR8 (hI.paper (xs (a + 1)) (xs (a + 2)) (xs (a + 3)))
set_option maxRecDepth 100000 in
set_option maxHeartbeats 4000000 in
theorem law_at {X : aw_X} {l : Launch} {G : aw_G} (C : aw_ok X code 4 "WipePapersLaw") (I : aw_in X l G room_1) {b L : Nat} {xs : Nat → Int32} (hX : aw_scr X b L xs) (hL : L ≤ 3072) {a : Nat} (ha : a + 6 ≤ L) {S : SysS} {ad : aw_Ad} {ce : aw_He} (hC : LayC S ad ce) (hR : LayR S ad ce) (hI : Inv S)
    (hK : ∀ (S' : SysS) (ad' : aw_Ad) (ce' : aw_He), LayC S' ad' ce' → LayR S' ad' ce' → Inv S' → AW X 4 (22 + a + 6) (3068 + 46 * a + 276) ad' ce' 993 [(3, .int (nI a)), (2, .ref (ad' (3, 0, 0))), (1, .ref (ad' (0, 0, 0))), (0, .ref b)] []) : AW X 4 (22 + a) (3068 + 46 * a) ad ce 626 [(3, .int (nI a)), (2, .ref (ad (3, 0, 0))), (1, .ref (ad (0, 0, 0))), (0, .ref b)] [] := by
  obtain ⟨fsC, hoC⟩ := hC.ob
  obtain ⟨fsR, hoR⟩ := hR.ob
  refine aw_aload_n C d_L_law_626 rfl (j := 2) rfl ?_
  refine aw_aload_n C d_L_law_627 rfl (j := 3) rfl ?_
  refine aw_iload_n C d_L_law_628 rfl (j := 0) rfl ?_
  refine aw_iconst C (v := 1) d_L_law_629 (by decide) ?_
  refine aw_iadd C d_L_law_630 ?_
  refine aw_topi (v' := nI (a + 1)) (nI_add a 1) ?_
  refine aw_sld C hX (j := (a + 1)) (rfl) (by omega) (by omega) d_L_law_631 ?_
  refine aw_aload_n C d_L_law_632 rfl (j := 3) rfl ?_
  refine aw_iload_n C d_L_law_633 rfl (j := 0) rfl ?_
  refine aw_iconst C (v := 2) d_L_law_634 (by decide) ?_
  refine aw_iadd C d_L_law_635 ?_
  refine aw_topi (v' := nI (a + 2)) (nI_add a 2) ?_
  refine aw_sld C hX (j := (a + 2)) (rfl) (by omega) (by omega) d_L_law_636 ?_
  refine aw_callV C I (k := (0, 0, 0)) (as := [.int (xs (a + 1)), .int (xs (a + 2))]) (rest := []) (C_at l G ad ce S hC (xs (a + 1)) (xs (a + 2))) g_L_74 hoC rfl rfl ⟨by decide, by decide⟩ ⟨Nat.le_trans (m := 600000) (by omega) (Nat.le_refl _), Nat.le_trans (m := 7302250) (by omega) (Nat.le_refl _)⟩ rfl (Nat.le_of_ble_eq_true rfl) d_L_law_637 ?_
  rintro _ _ _ ⟨rfl, rfl, rfl⟩
  show AW X 4 (22 + a) (3068 + 46 * a) ad ce 640 [(3, .int (nI a)), (2, .ref (ad (3, 0, 0))), (1, .ref (ad (0, 0, 0))), (0, .ref b)] [.int (f_at S (xs (a + 1)) (xs (a + 2)))]
  refine aw_aload_n C d_L_law_640 rfl (j := 1) rfl ?_
  refine aw_aload_n C d_L_law_641 rfl (j := 3) rfl ?_
  refine aw_iload_n C d_L_law_642 rfl (j := 0) rfl ?_
  refine aw_iconst C (v := 1) d_L_law_643 (by decide) ?_
  refine aw_iadd C d_L_law_644 ?_
  refine aw_topi (v' := nI (a + 1)) (nI_add a 1) ?_
  refine aw_sld C hX (j := (a + 1)) (rfl) (by omega) (by omega) d_L_law_645 ?_
  refine aw_aload_n C d_L_law_646 rfl (j := 3) rfl ?_
  refine aw_iload_n C d_L_law_647 rfl (j := 0) rfl ?_
  refine aw_iconst C (v := 2) d_L_law_648 (by decide) ?_
  refine aw_iadd C d_L_law_649 ?_
  refine aw_topi (v' := nI (a + 2)) (nI_add a 2) ?_
  refine aw_sld C hX (j := (a + 2)) (rfl) (by omega) (by omega) d_L_law_650 ?_
  refine aw_callV C I (k := (3, 0, 0)) (as := [.int (xs (a + 1)), .int (xs (a + 2))]) (rest := [.int (f_at S (xs (a + 1)) (xs (a + 2)))]) (R_at l G ad ce S hR (xs (a + 1)) (xs (a + 2))) g_L_77 hoR rfl rfl ⟨by decide, by decide⟩ ⟨Nat.le_trans (m := 600000) (by omega) (Nat.le_refl _), Nat.le_trans (m := 7302250) (by omega) (Nat.le_refl _)⟩ rfl (Nat.le_of_ble_eq_true rfl) d_L_law_651 ?_
  rintro _ _ _ ⟨rfl, rfl, rfl⟩
  show AW X 4 (22 + a) (3068 + 46 * a) ad ce 654 [(3, .int (nI a)), (2, .ref (ad (3, 0, 0))), (1, .ref (ad (0, 0, 0))), (0, .ref b)] [.int (f_at S (xs (a + 1)) (xs (a + 2))), .int (f_at S (xs (a + 1)) (xs (a + 2)))]
  refine aw_icmp_eq C (tgt := 993) d_L_law_654 (by decide) (fun h654 => ?_) (fun h654 => absurd (rfl) h654)
  refine aw_widen (k := 22 + a + 6) (n := 3068 + 46 * a + 276) (by omega) (by omega) ?_
  exact hK S ad ce hC hR hI
set_option maxRecDepth 100000 in
set_option maxHeartbeats 4000000 in
theorem law_mark {X : aw_X} {l : Launch} {G : aw_G} (C : aw_ok X code 4 "WipePapersLaw") (I : aw_in X l G room_1) {b L : Nat} {xs : Nat → Int32} (hX : aw_scr X b L xs) (hL : L ≤ 3072) {a : Nat} (ha : a + 6 ≤ L) {S : SysS} {ad : aw_Ad} {ce : aw_He} (hC : LayC S ad ce) (hR : LayR S ad ce) (hI : Inv S)
    (hK : ∀ (S' : SysS) (ad' : aw_Ad) (ce' : aw_He), LayC S' ad' ce' → LayR S' ad' ce' → Inv S' → AW X 4 (22 + a + 6) (3068 + 46 * a + 276) ad' ce' 993 [(3, .int (nI a)), (2, .ref (ad' (3, 0, 0))), (1, .ref (ad' (0, 0, 0))), (0, .ref b)] []) : AW X 4 (22 + a) (3068 + 46 * a) ad ce 659 [(3, .int (nI a)), (2, .ref (ad (3, 0, 0))), (1, .ref (ad (0, 0, 0))), (0, .ref b)] [] := by
  obtain ⟨fsC, hoC⟩ := hC.ob
  obtain ⟨fsR, hoR⟩ := hR.ob
  refine aw_aload_n C d_L_law_659 rfl (j := 2) rfl ?_
  refine aw_aload_n C d_L_law_660 rfl (j := 3) rfl ?_
  refine aw_iload_n C d_L_law_661 rfl (j := 0) rfl ?_
  refine aw_iconst C (v := 1) d_L_law_662 (by decide) ?_
  refine aw_iadd C d_L_law_663 ?_
  refine aw_topi (v' := nI (a + 1)) (nI_add a 1) ?_
  refine aw_sld C hX (j := (a + 1)) (rfl) (by omega) (by omega) d_L_law_664 ?_
  refine aw_aload_n C d_L_law_665 rfl (j := 3) rfl ?_
  refine aw_iload_n C d_L_law_666 rfl (j := 0) rfl ?_
  refine aw_iconst C (v := 2) d_L_law_667 (by decide) ?_
  refine aw_iadd C d_L_law_668 ?_
  refine aw_topi (v' := nI (a + 2)) (nI_add a 2) ?_
  refine aw_sld C hX (j := (a + 2)) (rfl) (by omega) (by omega) d_L_law_669 ?_
  refine aw_i2l C d_L_law_670 ?_
  refine aw_bipush C (v := 32) d_L_law_671 (by decide) ?_
  refine aw_lshl C d_L_law_673 ?_
  refine aw_aload_n C d_L_law_674 rfl (j := 3) rfl ?_
  refine aw_iload_n C d_L_law_675 rfl (j := 0) rfl ?_
  refine aw_iconst C (v := 3) d_L_law_676 (by decide) ?_
  refine aw_iadd C d_L_law_677 ?_
  refine aw_topi (v' := nI (a + 3)) (nI_add a 3) ?_
  refine aw_sld C hX (j := (a + 3)) (rfl) (by omega) (by omega) d_L_law_678 ?_
  refine aw_i2l C d_L_law_679 ?_
  refine aw_ldc2 C tw_501 d_L_law_680 ?_
  refine aw_land C d_L_law_683 ?_
  refine aw_lor C d_L_law_684 ?_
  refine aw_topl (v' := lgo (xs (a + 2)) (xs (a + 3))) (rfl) ?_
  refine aw_aload_n C d_L_law_685 rfl (j := 3) rfl ?_
  refine aw_iload_n C d_L_law_686 rfl (j := 0) rfl ?_
  refine aw_iconst C (v := 4) d_L_law_687 (by decide) ?_
  refine aw_iadd C d_L_law_688 ?_
  refine aw_topi (v' := nI (a + 4)) (nI_add a 4) ?_
  refine aw_sld C hX (j := (a + 4)) (rfl) (by omega) (by omega) d_L_law_689 ?_
  refine aw_callV C I (k := (0, 0, 0)) (as := [.int (xs (a + 1)), .long (lgo (xs (a + 2)) (xs (a + 3))), .int (xs (a + 4))]) (rest := []) (C_mark l G ad ce S hC (xs (a + 1)) (lgo (xs (a + 2)) (xs (a + 3))) (xs (a + 4))) g_L_78 hoC rfl rfl ⟨by decide, by decide⟩ ⟨Nat.le_trans (m := 600000) (by omega) (Nat.le_refl _), Nat.le_trans (m := 7302250) (by omega) (Nat.le_refl _)⟩ rfl (Nat.le_of_ble_eq_true rfl) d_L_law_690 ?_
  rintro _ _ _ ⟨rfl, rfl, rfl⟩
  show AW X 4 (22 + a) (3068 + 46 * a) ad ce 693 [(3, .int (nI a)), (2, .ref (ad (3, 0, 0))), (1, .ref (ad (0, 0, 0))), (0, .ref b)] [.int (f_mark S (xs (a + 1)) (lgo (xs (a + 2)) (xs (a + 3))) (xs (a + 4)))]
  refine aw_aload_n C d_L_law_693 rfl (j := 1) rfl ?_
  refine aw_aload_n C d_L_law_694 rfl (j := 3) rfl ?_
  refine aw_iload_n C d_L_law_695 rfl (j := 0) rfl ?_
  refine aw_iconst C (v := 1) d_L_law_696 (by decide) ?_
  refine aw_iadd C d_L_law_697 ?_
  refine aw_topi (v' := nI (a + 1)) (nI_add a 1) ?_
  refine aw_sld C hX (j := (a + 1)) (rfl) (by omega) (by omega) d_L_law_698 ?_
  refine aw_aload_n C d_L_law_699 rfl (j := 3) rfl ?_
  refine aw_iload_n C d_L_law_700 rfl (j := 0) rfl ?_
  refine aw_iconst C (v := 2) d_L_law_701 (by decide) ?_
  refine aw_iadd C d_L_law_702 ?_
  refine aw_topi (v' := nI (a + 2)) (nI_add a 2) ?_
  refine aw_sld C hX (j := (a + 2)) (rfl) (by omega) (by omega) d_L_law_703 ?_
  refine aw_i2l C d_L_law_704 ?_
  refine aw_bipush C (v := 32) d_L_law_705 (by decide) ?_
  refine aw_lshl C d_L_law_707 ?_
  refine aw_aload_n C d_L_law_708 rfl (j := 3) rfl ?_
  refine aw_iload_n C d_L_law_709 rfl (j := 0) rfl ?_
  refine aw_iconst C (v := 3) d_L_law_710 (by decide) ?_
  refine aw_iadd C d_L_law_711 ?_
  refine aw_topi (v' := nI (a + 3)) (nI_add a 3) ?_
  refine aw_sld C hX (j := (a + 3)) (rfl) (by omega) (by omega) d_L_law_712 ?_
  refine aw_i2l C d_L_law_713 ?_
  refine aw_ldc2 C tw_501 d_L_law_714 ?_
  refine aw_land C d_L_law_717 ?_
  refine aw_lor C d_L_law_718 ?_
  refine aw_topl (v' := lgo (xs (a + 2)) (xs (a + 3))) (rfl) ?_
  refine aw_aload_n C d_L_law_719 rfl (j := 3) rfl ?_
  refine aw_iload_n C d_L_law_720 rfl (j := 0) rfl ?_
  refine aw_iconst C (v := 4) d_L_law_721 (by decide) ?_
  refine aw_iadd C d_L_law_722 ?_
  refine aw_topi (v' := nI (a + 4)) (nI_add a 4) ?_
  refine aw_sld C hX (j := (a + 4)) (rfl) (by omega) (by omega) d_L_law_723 ?_
  refine aw_callV C I (k := (3, 0, 0)) (as := [.int (xs (a + 1)), .long (lgo (xs (a + 2)) (xs (a + 3))), .int (xs (a + 4))]) (rest := [.int (f_mark S (xs (a + 1)) (lgo (xs (a + 2)) (xs (a + 3))) (xs (a + 4)))]) (R_mark l G ad ce S hR (xs (a + 1)) (lgo (xs (a + 2)) (xs (a + 3))) (xs (a + 4))) g_L_81 hoR rfl rfl ⟨by decide, by decide⟩ ⟨Nat.le_trans (m := 600000) (by omega) (Nat.le_refl _), Nat.le_trans (m := 7302250) (by omega) (Nat.le_refl _)⟩ rfl (Nat.le_of_ble_eq_true rfl) d_L_law_724 ?_
  rintro _ _ _ ⟨rfl, rfl, rfl⟩
  show AW X 4 (22 + a) (3068 + 46 * a) ad ce 727 [(3, .int (nI a)), (2, .ref (ad (3, 0, 0))), (1, .ref (ad (0, 0, 0))), (0, .ref b)] [.int (f_mark S (xs (a + 1)) (lgo (xs (a + 2)) (xs (a + 3))) (xs (a + 4))), .int (f_mark S (xs (a + 1)) (lgo (xs (a + 2)) (xs (a + 3))) (xs (a + 4)))]
  refine aw_icmp_eq C (tgt := 993) d_L_law_727 (by decide) (fun h727 => ?_) (fun h727 => absurd (rfl) h727)
  refine aw_widen (k := 22 + a + 6) (n := 3068 + 46 * a + 276) (by omega) (by omega) ?_
  exact hK S ad ce hC hR hI
set_option maxRecDepth 100000 in
set_option maxHeartbeats 4000000 in
theorem law_check {X : aw_X} {l : Launch} {G : aw_G} (C : aw_ok X code 4 "WipePapersLaw") (I : aw_in X l G room_1) {b L : Nat} {xs : Nat → Int32} (hX : aw_scr X b L xs) (hL : L ≤ 3072) {a : Nat} (ha : a + 6 ≤ L) {S : SysS} {ad : aw_Ad} {ce : aw_He} (hC : LayC S ad ce) (hR : LayR S ad ce) (hI : Inv S)
    (hK : ∀ (S' : SysS) (ad' : aw_Ad) (ce' : aw_He), LayC S' ad' ce' → LayR S' ad' ce' → Inv S' → AW X 4 (22 + a + 6) (3068 + 46 * a + 276) ad' ce' 993 [(3, .int (nI a)), (2, .ref (ad' (3, 0, 0))), (1, .ref (ad' (0, 0, 0))), (0, .ref b)] []) : AW X 4 (22 + a) (3068 + 46 * a) ad ce 732 [(3, .int (nI a)), (2, .ref (ad (3, 0, 0))), (1, .ref (ad (0, 0, 0))), (0, .ref b)] [] := by
  obtain ⟨fsC, hoC⟩ := hC.ob
  obtain ⟨fsR, hoR⟩ := hR.ob
  refine aw_aload_n C d_L_law_732 rfl (j := 2) rfl ?_
  refine aw_aload_n C d_L_law_733 rfl (j := 3) rfl ?_
  refine aw_iload_n C d_L_law_734 rfl (j := 0) rfl ?_
  refine aw_iconst C (v := 1) d_L_law_735 (by decide) ?_
  refine aw_iadd C d_L_law_736 ?_
  refine aw_topi (v' := nI (a + 1)) (nI_add a 1) ?_
  refine aw_sld C hX (j := (a + 1)) (rfl) (by omega) (by omega) d_L_law_737 ?_
  refine aw_aload_n C d_L_law_738 rfl (j := 3) rfl ?_
  refine aw_iload_n C d_L_law_739 rfl (j := 0) rfl ?_
  refine aw_iconst C (v := 2) d_L_law_740 (by decide) ?_
  refine aw_iadd C d_L_law_741 ?_
  refine aw_topi (v' := nI (a + 2)) (nI_add a 2) ?_
  refine aw_sld C hX (j := (a + 2)) (rfl) (by omega) (by omega) d_L_law_742 ?_
  refine aw_i2l C d_L_law_743 ?_
  refine aw_bipush C (v := 32) d_L_law_744 (by decide) ?_
  refine aw_lshl C d_L_law_746 ?_
  refine aw_aload_n C d_L_law_747 rfl (j := 3) rfl ?_
  refine aw_iload_n C d_L_law_748 rfl (j := 0) rfl ?_
  refine aw_iconst C (v := 3) d_L_law_749 (by decide) ?_
  refine aw_iadd C d_L_law_750 ?_
  refine aw_topi (v' := nI (a + 3)) (nI_add a 3) ?_
  refine aw_sld C hX (j := (a + 3)) (rfl) (by omega) (by omega) d_L_law_751 ?_
  refine aw_i2l C d_L_law_752 ?_
  refine aw_ldc2 C tw_501 d_L_law_753 ?_
  refine aw_land C d_L_law_756 ?_
  refine aw_lor C d_L_law_757 ?_
  refine aw_topl (v' := lgo (xs (a + 2)) (xs (a + 3))) (rfl) ?_
  refine aw_aload_n C d_L_law_758 rfl (j := 3) rfl ?_
  refine aw_iload_n C d_L_law_759 rfl (j := 0) rfl ?_
  refine aw_iconst C (v := 4) d_L_law_760 (by decide) ?_
  refine aw_iadd C d_L_law_761 ?_
  refine aw_topi (v' := nI (a + 4)) (nI_add a 4) ?_
  refine aw_sld C hX (j := (a + 4)) (rfl) (by omega) (by omega) d_L_law_762 ?_
  refine aw_i2l C d_L_law_763 ?_
  refine aw_bipush C (v := 32) d_L_law_764 (by decide) ?_
  refine aw_lshl C d_L_law_766 ?_
  refine aw_aload_n C d_L_law_767 rfl (j := 3) rfl ?_
  refine aw_iload_n C d_L_law_768 rfl (j := 0) rfl ?_
  refine aw_iconst C (v := 5) d_L_law_769 (by decide) ?_
  refine aw_iadd C d_L_law_770 ?_
  refine aw_topi (v' := nI (a + 5)) (nI_add a 5) ?_
  refine aw_sld C hX (j := (a + 5)) (rfl) (by omega) (by omega) d_L_law_771 ?_
  refine aw_i2l C d_L_law_772 ?_
  refine aw_ldc2 C tw_501 d_L_law_773 ?_
  refine aw_land C d_L_law_776 ?_
  refine aw_lor C d_L_law_777 ?_
  refine aw_topl (v' := lgo (xs (a + 4)) (xs (a + 5))) (rfl) ?_
  refine aw_callV C I (k := (0, 0, 0)) (as := [.int (xs (a + 1)), .long (lgo (xs (a + 2)) (xs (a + 3))), .long (lgo (xs (a + 4)) (xs (a + 5)))]) (rest := []) (C_check l G ad ce S hC (xs (a + 1)) (lgo (xs (a + 2)) (xs (a + 3))) (lgo (xs (a + 4)) (xs (a + 5)))) g_L_82 hoC rfl rfl ⟨by decide, by decide⟩ ⟨Nat.le_trans (m := 600000) (by omega) (Nat.le_refl _), Nat.le_trans (m := 7302250) (by omega) (Nat.le_refl _)⟩ rfl (Nat.le_of_ble_eq_true rfl) d_L_law_778 ?_
  rintro _ _ _ ⟨rfl, rfl, rfl⟩
  show AW X 4 (22 + a) (3068 + 46 * a) ad ce 781 [(3, .int (nI a)), (2, .ref (ad (3, 0, 0))), (1, .ref (ad (0, 0, 0))), (0, .ref b)] [.int (f_check S (xs (a + 1)) (lgo (xs (a + 2)) (xs (a + 3))) (lgo (xs (a + 4)) (xs (a + 5))))]
  refine aw_aload_n C d_L_law_781 rfl (j := 1) rfl ?_
  refine aw_aload_n C d_L_law_782 rfl (j := 3) rfl ?_
  refine aw_iload_n C d_L_law_783 rfl (j := 0) rfl ?_
  refine aw_iconst C (v := 1) d_L_law_784 (by decide) ?_
  refine aw_iadd C d_L_law_785 ?_
  refine aw_topi (v' := nI (a + 1)) (nI_add a 1) ?_
  refine aw_sld C hX (j := (a + 1)) (rfl) (by omega) (by omega) d_L_law_786 ?_
  refine aw_aload_n C d_L_law_787 rfl (j := 3) rfl ?_
  refine aw_iload_n C d_L_law_788 rfl (j := 0) rfl ?_
  refine aw_iconst C (v := 2) d_L_law_789 (by decide) ?_
  refine aw_iadd C d_L_law_790 ?_
  refine aw_topi (v' := nI (a + 2)) (nI_add a 2) ?_
  refine aw_sld C hX (j := (a + 2)) (rfl) (by omega) (by omega) d_L_law_791 ?_
  refine aw_i2l C d_L_law_792 ?_
  refine aw_bipush C (v := 32) d_L_law_793 (by decide) ?_
  refine aw_lshl C d_L_law_795 ?_
  refine aw_aload_n C d_L_law_796 rfl (j := 3) rfl ?_
  refine aw_iload_n C d_L_law_797 rfl (j := 0) rfl ?_
  refine aw_iconst C (v := 3) d_L_law_798 (by decide) ?_
  refine aw_iadd C d_L_law_799 ?_
  refine aw_topi (v' := nI (a + 3)) (nI_add a 3) ?_
  refine aw_sld C hX (j := (a + 3)) (rfl) (by omega) (by omega) d_L_law_800 ?_
  refine aw_i2l C d_L_law_801 ?_
  refine aw_ldc2 C tw_501 d_L_law_802 ?_
  refine aw_land C d_L_law_805 ?_
  refine aw_lor C d_L_law_806 ?_
  refine aw_topl (v' := lgo (xs (a + 2)) (xs (a + 3))) (rfl) ?_
  refine aw_aload_n C d_L_law_807 rfl (j := 3) rfl ?_
  refine aw_iload_n C d_L_law_808 rfl (j := 0) rfl ?_
  refine aw_iconst C (v := 4) d_L_law_809 (by decide) ?_
  refine aw_iadd C d_L_law_810 ?_
  refine aw_topi (v' := nI (a + 4)) (nI_add a 4) ?_
  refine aw_sld C hX (j := (a + 4)) (rfl) (by omega) (by omega) d_L_law_811 ?_
  refine aw_i2l C d_L_law_812 ?_
  refine aw_bipush C (v := 32) d_L_law_813 (by decide) ?_
  refine aw_lshl C d_L_law_815 ?_
  refine aw_aload_n C d_L_law_816 rfl (j := 3) rfl ?_
  refine aw_iload_n C d_L_law_817 rfl (j := 0) rfl ?_
  refine aw_iconst C (v := 5) d_L_law_818 (by decide) ?_
  refine aw_iadd C d_L_law_819 ?_
  refine aw_topi (v' := nI (a + 5)) (nI_add a 5) ?_
  refine aw_sld C hX (j := (a + 5)) (rfl) (by omega) (by omega) d_L_law_820 ?_
  refine aw_i2l C d_L_law_821 ?_
  refine aw_ldc2 C tw_501 d_L_law_822 ?_
  refine aw_land C d_L_law_825 ?_
  refine aw_lor C d_L_law_826 ?_
  refine aw_topl (v' := lgo (xs (a + 4)) (xs (a + 5))) (rfl) ?_
  refine aw_callV C I (k := (3, 0, 0)) (as := [.int (xs (a + 1)), .long (lgo (xs (a + 2)) (xs (a + 3))), .long (lgo (xs (a + 4)) (xs (a + 5)))]) (rest := [.int (f_check S (xs (a + 1)) (lgo (xs (a + 2)) (xs (a + 3))) (lgo (xs (a + 4)) (xs (a + 5))))]) (R_check l G ad ce S hR (xs (a + 1)) (lgo (xs (a + 2)) (xs (a + 3))) (lgo (xs (a + 4)) (xs (a + 5)))) g_L_86 hoR rfl rfl ⟨by decide, by decide⟩ ⟨Nat.le_trans (m := 600000) (by omega) (Nat.le_refl _), Nat.le_trans (m := 7302250) (by omega) (Nat.le_refl _)⟩ rfl (Nat.le_of_ble_eq_true rfl) d_L_law_827 ?_
  rintro _ _ _ ⟨rfl, rfl, rfl⟩
  show AW X 4 (22 + a) (3068 + 46 * a) ad ce 830 [(3, .int (nI a)), (2, .ref (ad (3, 0, 0))), (1, .ref (ad (0, 0, 0))), (0, .ref b)] [.int (f_check S (xs (a + 1)) (lgo (xs (a + 2)) (xs (a + 3))) (lgo (xs (a + 4)) (xs (a + 5)))), .int (f_check S (xs (a + 1)) (lgo (xs (a + 2)) (xs (a + 3))) (lgo (xs (a + 4)) (xs (a + 5))))]
  refine aw_icmp_eq C (tgt := 993) d_L_law_830 (by decide) (fun h830 => ?_) (fun h830 => absurd (rfl) h830)
  refine aw_widen (k := 22 + a + 6) (n := 3068 + 46 * a + 276) (by omega) (by omega) ?_
  exact hK S ad ce hC hR hI
set_option maxRecDepth 100000 in
set_option maxHeartbeats 4000000 in
theorem law_listed {X : aw_X} {l : Launch} {G : aw_G} (C : aw_ok X code 4 "WipePapersLaw") (I : aw_in X l G room_1) {b L : Nat} {xs : Nat → Int32} (hX : aw_scr X b L xs) (hL : L ≤ 3072) {a : Nat} (ha : a + 6 ≤ L) {S : SysS} {ad : aw_Ad} {ce : aw_He} (hC : LayC S ad ce) (hR : LayR S ad ce) (hI : Inv S)
    (hK : ∀ (S' : SysS) (ad' : aw_Ad) (ce' : aw_He), LayC S' ad' ce' → LayR S' ad' ce' → Inv S' → AW X 4 (22 + a + 6) (3068 + 46 * a + 276) ad' ce' 993 [(3, .int (nI a)), (2, .ref (ad' (3, 0, 0))), (1, .ref (ad' (0, 0, 0))), (0, .ref b)] []) : AW X 4 (22 + a) (3068 + 46 * a) ad ce 835 [(3, .int (nI a)), (2, .ref (ad (3, 0, 0))), (1, .ref (ad (0, 0, 0))), (0, .ref b)] [] := by
  obtain ⟨fsC, hoC⟩ := hC.ob
  obtain ⟨fsR, hoR⟩ := hR.ob
  refine aw_aload_n C d_L_law_835 rfl (j := 2) rfl ?_
  refine aw_aload_n C d_L_law_836 rfl (j := 3) rfl ?_
  refine aw_iload_n C d_L_law_837 rfl (j := 0) rfl ?_
  refine aw_iconst C (v := 1) d_L_law_838 (by decide) ?_
  refine aw_iadd C d_L_law_839 ?_
  refine aw_topi (v' := nI (a + 1)) (nI_add a 1) ?_
  refine aw_sld C hX (j := (a + 1)) (rfl) (by omega) (by omega) d_L_law_840 ?_
  refine aw_i2l C d_L_law_841 ?_
  refine aw_bipush C (v := 32) d_L_law_842 (by decide) ?_
  refine aw_lshl C d_L_law_844 ?_
  refine aw_aload_n C d_L_law_845 rfl (j := 3) rfl ?_
  refine aw_iload_n C d_L_law_846 rfl (j := 0) rfl ?_
  refine aw_iconst C (v := 2) d_L_law_847 (by decide) ?_
  refine aw_iadd C d_L_law_848 ?_
  refine aw_topi (v' := nI (a + 2)) (nI_add a 2) ?_
  refine aw_sld C hX (j := (a + 2)) (rfl) (by omega) (by omega) d_L_law_849 ?_
  refine aw_i2l C d_L_law_850 ?_
  refine aw_ldc2 C tw_501 d_L_law_851 ?_
  refine aw_land C d_L_law_854 ?_
  refine aw_lor C d_L_law_855 ?_
  refine aw_topl (v' := lgo (xs (a + 1)) (xs (a + 2))) (rfl) ?_
  refine aw_callV C I (k := (0, 0, 0)) (as := [.long (lgo (xs (a + 1)) (xs (a + 2)))]) (rest := []) (C_listed l G ad ce S hC (lgo (xs (a + 1)) (xs (a + 2)))) g_L_87 hoC rfl rfl ⟨by decide, by decide⟩ ⟨Nat.le_trans (m := 600000) (by omega) (Nat.le_refl _), Nat.le_trans (m := 7302250) (by omega) (Nat.le_refl _)⟩ rfl (Nat.le_of_ble_eq_true rfl) d_L_law_856 ?_
  rintro _ ad9 ce9 ⟨rfl, hf9, ha9, hC9⟩
  have hb9 : ad9 (3, 0, 0) = ad (3, 0, 0) := (hf9 _ rfl).1
  rw [← ha9, ← hb9]
  have hR9 := hR.tr hf9
  obtain ⟨fsR, hoR⟩ := hR9.ob
  show AW X 4 (22 + a) (3068 + 46 * a) ad9 ce9 859 [(3, .int (nI a)), (2, .ref (ad9 (3, 0, 0))), (1, .ref (ad9 (0, 0, 0))), (0, .ref b)] [.int ((f_listed S (lgo (xs (a + 1)) (xs (a + 2)))).1)]
  refine aw_aload_n C d_L_law_859 rfl (j := 1) rfl ?_
  refine aw_aload_n C d_L_law_860 rfl (j := 3) rfl ?_
  refine aw_iload_n C d_L_law_861 rfl (j := 0) rfl ?_
  refine aw_iconst C (v := 1) d_L_law_862 (by decide) ?_
  refine aw_iadd C d_L_law_863 ?_
  refine aw_topi (v' := nI (a + 1)) (nI_add a 1) ?_
  refine aw_sld C hX (j := (a + 1)) (rfl) (by omega) (by omega) d_L_law_864 ?_
  refine aw_i2l C d_L_law_865 ?_
  refine aw_bipush C (v := 32) d_L_law_866 (by decide) ?_
  refine aw_lshl C d_L_law_868 ?_
  refine aw_aload_n C d_L_law_869 rfl (j := 3) rfl ?_
  refine aw_iload_n C d_L_law_870 rfl (j := 0) rfl ?_
  refine aw_iconst C (v := 2) d_L_law_871 (by decide) ?_
  refine aw_iadd C d_L_law_872 ?_
  refine aw_topi (v' := nI (a + 2)) (nI_add a 2) ?_
  refine aw_sld C hX (j := (a + 2)) (rfl) (by omega) (by omega) d_L_law_873 ?_
  refine aw_i2l C d_L_law_874 ?_
  refine aw_ldc2 C tw_501 d_L_law_875 ?_
  refine aw_land C d_L_law_878 ?_
  refine aw_lor C d_L_law_879 ?_
  refine aw_topl (v' := lgo (xs (a + 1)) (xs (a + 2))) (rfl) ?_
  refine aw_callV C I (k := (3, 0, 0)) (as := [.long (lgo (xs (a + 1)) (xs (a + 2)))]) (rest := [.int ((f_listed S (lgo (xs (a + 1)) (xs (a + 2)))).1)]) (R_listed l G ad9 ce9 S hR9 (lgo (xs (a + 1)) (xs (a + 2)))) g_L_91 hoR rfl rfl ⟨by decide, by decide⟩ ⟨Nat.le_trans (m := 600000) (by omega) (Nat.le_refl _), Nat.le_trans (m := 7302250) (by omega) (Nat.le_refl _)⟩ rfl (Nat.le_of_ble_eq_true rfl) d_L_law_880 ?_
  rintro _ _ ce8 ⟨rfl, rfl, hf8, hR8⟩
  show AW X 4 (22 + a) (3068 + 46 * a) ad9 ce8 883 [(3, .int (nI a)), (2, .ref (ad9 (3, 0, 0))), (1, .ref (ad9 (0, 0, 0))), (0, .ref b)] [.int ((f_listed S (lgo (xs (a + 1)) (xs (a + 2)))).1), .int ((f_listed S (lgo (xs (a + 1)) (xs (a + 2)))).1)]
  refine aw_icmp_eq C (tgt := 993) d_L_law_883 (by decide) (fun h883 => ?_) (fun h883 => absurd (rfl) h883)
  refine aw_widen (k := 22 + a + 6) (n := 3068 + 46 * a + 276) (by omega) (by omega) ?_
  exact hK _ ad9 ce8 (hC9.tr hf8) hR8 (hI.listed (lgo (xs (a + 1)) (xs (a + 2))))
set_option maxRecDepth 100000 in
set_option maxHeartbeats 4000000 in
theorem law_missing {X : aw_X} {l : Launch} {G : aw_G} (C : aw_ok X code 4 "WipePapersLaw") (I : aw_in X l G room_1) {b L : Nat} {xs : Nat → Int32} (hX : aw_scr X b L xs) (hL : L ≤ 3072) {a : Nat} (ha : a + 6 ≤ L) {S : SysS} {ad : aw_Ad} {ce : aw_He} (hC : LayC S ad ce) (hR : LayR S ad ce) (hI : Inv S)
    (hK : ∀ (S' : SysS) (ad' : aw_Ad) (ce' : aw_He), LayC S' ad' ce' → LayR S' ad' ce' → Inv S' → AW X 4 (22 + a + 6) (3068 + 46 * a + 276) ad' ce' 993 [(3, .int (nI a)), (2, .ref (ad' (3, 0, 0))), (1, .ref (ad' (0, 0, 0))), (0, .ref b)] []) : AW X 4 (22 + a) (3068 + 46 * a) ad ce 888 [(3, .int (nI a)), (2, .ref (ad (3, 0, 0))), (1, .ref (ad (0, 0, 0))), (0, .ref b)] [] := by
  obtain ⟨fsC, hoC⟩ := hC.ob
  obtain ⟨fsR, hoR⟩ := hR.ob
  refine aw_aload_n C d_L_law_888 rfl (j := 2) rfl ?_
  refine aw_aload_n C d_L_law_889 rfl (j := 3) rfl ?_
  refine aw_iload_n C d_L_law_890 rfl (j := 0) rfl ?_
  refine aw_iconst C (v := 1) d_L_law_891 (by decide) ?_
  refine aw_iadd C d_L_law_892 ?_
  refine aw_topi (v' := nI (a + 1)) (nI_add a 1) ?_
  refine aw_sld C hX (j := (a + 1)) (rfl) (by omega) (by omega) d_L_law_893 ?_
  refine aw_callV C I (k := (0, 0, 0)) (as := [.int (xs (a + 1))]) (rest := []) (C_missing l G ad ce S hC (xs (a + 1))) g_L_92 hoC rfl rfl ⟨by decide, by decide⟩ ⟨Nat.le_trans (m := 600000) (by omega) (Nat.le_refl _), Nat.le_trans (m := 7302250) (by omega) (Nat.le_refl _)⟩ rfl (Nat.le_of_ble_eq_true rfl) d_L_law_894 ?_
  rintro _ _ _ ⟨rfl, rfl, rfl⟩
  show AW X 4 (22 + a) (3068 + 46 * a) ad ce 897 [(3, .int (nI a)), (2, .ref (ad (3, 0, 0))), (1, .ref (ad (0, 0, 0))), (0, .ref b)] [.int (f_missing S (xs (a + 1)))]
  refine aw_aload_n C d_L_law_897 rfl (j := 1) rfl ?_
  refine aw_aload_n C d_L_law_898 rfl (j := 3) rfl ?_
  refine aw_iload_n C d_L_law_899 rfl (j := 0) rfl ?_
  refine aw_iconst C (v := 1) d_L_law_900 (by decide) ?_
  refine aw_iadd C d_L_law_901 ?_
  refine aw_topi (v' := nI (a + 1)) (nI_add a 1) ?_
  refine aw_sld C hX (j := (a + 1)) (rfl) (by omega) (by omega) d_L_law_902 ?_
  refine aw_callV C I (k := (3, 0, 0)) (as := [.int (xs (a + 1))]) (rest := [.int (f_missing S (xs (a + 1)))]) (R_missing l G ad ce S hR (xs (a + 1))) g_L_95 hoR rfl rfl ⟨by decide, by decide⟩ ⟨Nat.le_trans (m := 600000) (by omega) (Nat.le_refl _), Nat.le_trans (m := 7302250) (by omega) (Nat.le_refl _)⟩ rfl (Nat.le_of_ble_eq_true rfl) d_L_law_903 ?_
  rintro _ _ _ ⟨rfl, rfl, rfl⟩
  show AW X 4 (22 + a) (3068 + 46 * a) ad ce 906 [(3, .int (nI a)), (2, .ref (ad (3, 0, 0))), (1, .ref (ad (0, 0, 0))), (0, .ref b)] [.int (f_missing S (xs (a + 1))), .int (f_missing S (xs (a + 1)))]
  refine aw_icmp_eq C (tgt := 993) d_L_law_906 (by decide) (fun h906 => ?_) (fun h906 => absurd (rfl) h906)
  refine aw_widen (k := 22 + a + 6) (n := 3068 + 46 * a + 276) (by omega) (by omega) ?_
  exact hK S ad ce hC hR hI
set_option maxRecDepth 100000 in
set_option maxHeartbeats 4000000 in
theorem law_extra {X : aw_X} {l : Launch} {G : aw_G} (C : aw_ok X code 4 "WipePapersLaw") (I : aw_in X l G room_1) {b L : Nat} {xs : Nat → Int32} (hX : aw_scr X b L xs) (hL : L ≤ 3072) {a : Nat} (ha : a + 6 ≤ L) {S : SysS} {ad : aw_Ad} {ce : aw_He} (hC : LayC S ad ce) (hR : LayR S ad ce) (hI : Inv S)
    (hK : ∀ (S' : SysS) (ad' : aw_Ad) (ce' : aw_He), LayC S' ad' ce' → LayR S' ad' ce' → Inv S' → AW X 4 (22 + a + 6) (3068 + 46 * a + 276) ad' ce' 993 [(3, .int (nI a)), (2, .ref (ad' (3, 0, 0))), (1, .ref (ad' (0, 0, 0))), (0, .ref b)] []) : AW X 4 (22 + a) (3068 + 46 * a) ad ce 911 [(3, .int (nI a)), (2, .ref (ad (3, 0, 0))), (1, .ref (ad (0, 0, 0))), (0, .ref b)] [] := by
  obtain ⟨fsC, hoC⟩ := hC.ob
  obtain ⟨fsR, hoR⟩ := hR.ob
  refine aw_aload_n C d_L_law_911 rfl (j := 2) rfl ?_
  refine aw_aload_n C d_L_law_912 rfl (j := 3) rfl ?_
  refine aw_iload_n C d_L_law_913 rfl (j := 0) rfl ?_
  refine aw_iconst C (v := 1) d_L_law_914 (by decide) ?_
  refine aw_iadd C d_L_law_915 ?_
  refine aw_topi (v' := nI (a + 1)) (nI_add a 1) ?_
  refine aw_sld C hX (j := (a + 1)) (rfl) (by omega) (by omega) d_L_law_916 ?_
  refine aw_callV C I (k := (0, 0, 0)) (as := [.int (xs (a + 1))]) (rest := []) (C_extra l G ad ce S hC (xs (a + 1))) g_L_96 hoC rfl rfl ⟨by decide, by decide⟩ ⟨Nat.le_trans (m := 600000) (by omega) (Nat.le_refl _), Nat.le_trans (m := 7302250) (by omega) (Nat.le_refl _)⟩ rfl (Nat.le_of_ble_eq_true rfl) d_L_law_917 ?_
  rintro _ _ _ ⟨rfl, rfl, rfl⟩
  show AW X 4 (22 + a) (3068 + 46 * a) ad ce 920 [(3, .int (nI a)), (2, .ref (ad (3, 0, 0))), (1, .ref (ad (0, 0, 0))), (0, .ref b)] [.int (f_extra S (xs (a + 1)))]
  refine aw_aload_n C d_L_law_920 rfl (j := 1) rfl ?_
  refine aw_aload_n C d_L_law_921 rfl (j := 3) rfl ?_
  refine aw_iload_n C d_L_law_922 rfl (j := 0) rfl ?_
  refine aw_iconst C (v := 1) d_L_law_923 (by decide) ?_
  refine aw_iadd C d_L_law_924 ?_
  refine aw_topi (v' := nI (a + 1)) (nI_add a 1) ?_
  refine aw_sld C hX (j := (a + 1)) (rfl) (by omega) (by omega) d_L_law_925 ?_
  refine aw_callV C I (k := (3, 0, 0)) (as := [.int (xs (a + 1))]) (rest := [.int (f_extra S (xs (a + 1)))]) (R_extra l G ad ce S hR (xs (a + 1))) g_L_99 hoR rfl rfl ⟨by decide, by decide⟩ ⟨Nat.le_trans (m := 600000) (by omega) (Nat.le_refl _), Nat.le_trans (m := 7302250) (by omega) (Nat.le_refl _)⟩ rfl (Nat.le_of_ble_eq_true rfl) d_L_law_926 ?_
  rintro _ _ _ ⟨rfl, rfl, rfl⟩
  show AW X 4 (22 + a) (3068 + 46 * a) ad ce 929 [(3, .int (nI a)), (2, .ref (ad (3, 0, 0))), (1, .ref (ad (0, 0, 0))), (0, .ref b)] [.int (f_extra S (xs (a + 1))), .int (f_extra S (xs (a + 1)))]
  refine aw_icmp_eq C (tgt := 993) d_L_law_929 (by decide) (fun h929 => ?_) (fun h929 => absurd (rfl) h929)
  refine aw_widen (k := 22 + a + 6) (n := 3068 + 46 * a + 276) (by omega) (by omega) ?_
  exact hK S ad ce hC hR hI
set_option maxRecDepth 100000 in
set_option maxHeartbeats 4000000 in
theorem law_lost {X : aw_X} {l : Launch} {G : aw_G} (C : aw_ok X code 4 "WipePapersLaw") (I : aw_in X l G room_1) {b L : Nat} {xs : Nat → Int32} (hX : aw_scr X b L xs) (hL : L ≤ 3072) {a : Nat} (ha : a + 6 ≤ L) {S : SysS} {ad : aw_Ad} {ce : aw_He} (hC : LayC S ad ce) (hR : LayR S ad ce) (hI : Inv S)
    (hK : ∀ (S' : SysS) (ad' : aw_Ad) (ce' : aw_He), LayC S' ad' ce' → LayR S' ad' ce' → Inv S' → AW X 4 (22 + a + 6) (3068 + 46 * a + 276) ad' ce' 993 [(3, .int (nI a)), (2, .ref (ad' (3, 0, 0))), (1, .ref (ad' (0, 0, 0))), (0, .ref b)] []) : AW X 4 (22 + a) (3068 + 46 * a) ad ce 934 [(3, .int (nI a)), (2, .ref (ad (3, 0, 0))), (1, .ref (ad (0, 0, 0))), (0, .ref b)] [] := by
  obtain ⟨fsC, hoC⟩ := hC.ob
  obtain ⟨fsR, hoR⟩ := hR.ob
  refine aw_aload_n C d_L_law_934 rfl (j := 2) rfl ?_
  refine aw_aload_n C d_L_law_935 rfl (j := 3) rfl ?_
  refine aw_iload_n C d_L_law_936 rfl (j := 0) rfl ?_
  refine aw_iconst C (v := 1) d_L_law_937 (by decide) ?_
  refine aw_iadd C d_L_law_938 ?_
  refine aw_topi (v' := nI (a + 1)) (nI_add a 1) ?_
  refine aw_sld C hX (j := (a + 1)) (rfl) (by omega) (by omega) d_L_law_939 ?_
  refine aw_callV C I (k := (0, 0, 0)) (as := [.int (xs (a + 1))]) (rest := []) (C_lost l G ad ce S hC hI.room (xs (a + 1))) g_L_100 hoC rfl rfl ⟨by decide, by decide⟩ ⟨Nat.le_trans (m := 600000) (by omega) (Nat.le_refl _), Nat.le_trans (m := 7302250) (by omega) (Nat.le_refl _)⟩ rfl (Nat.le_of_ble_eq_true rfl) d_L_law_940 ?_
  rintro _ ad9 ce9 ⟨rfl, hf9, ha9, hC9⟩
  have hb9 : ad9 (3, 0, 0) = ad (3, 0, 0) := (hf9 _ rfl).1
  rw [← ha9, ← hb9]
  have hR9 := hR.tr hf9
  obtain ⟨fsR, hoR⟩ := hR9.ob
  show AW X 4 (22 + a) (3068 + 46 * a) ad9 ce9 943 [(3, .int (nI a)), (2, .ref (ad9 (3, 0, 0))), (1, .ref (ad9 (0, 0, 0))), (0, .ref b)] [.int ((f_lost S (xs (a + 1))).1)]
  refine aw_aload_n C d_L_law_943 rfl (j := 1) rfl ?_
  refine aw_aload_n C d_L_law_944 rfl (j := 3) rfl ?_
  refine aw_iload_n C d_L_law_945 rfl (j := 0) rfl ?_
  refine aw_iconst C (v := 1) d_L_law_946 (by decide) ?_
  refine aw_iadd C d_L_law_947 ?_
  refine aw_topi (v' := nI (a + 1)) (nI_add a 1) ?_
  refine aw_sld C hX (j := (a + 1)) (rfl) (by omega) (by omega) d_L_law_948 ?_
  refine aw_callV C I (k := (3, 0, 0)) (as := [.int (xs (a + 1))]) (rest := [.int ((f_lost S (xs (a + 1))).1)]) (R_lost l G ad9 ce9 S hR9 hI.room (xs (a + 1))) g_L_103 hoR rfl rfl ⟨by decide, by decide⟩ ⟨Nat.le_trans (m := 600000) (by omega) (Nat.le_refl _), Nat.le_trans (m := 7302250) (by omega) (Nat.le_refl _)⟩ rfl (Nat.le_of_ble_eq_true rfl) d_L_law_949 ?_
  rintro _ _ ce8 ⟨rfl, rfl, hf8, hR8⟩
  show AW X 4 (22 + a) (3068 + 46 * a) ad9 ce8 952 [(3, .int (nI a)), (2, .ref (ad9 (3, 0, 0))), (1, .ref (ad9 (0, 0, 0))), (0, .ref b)] [.int ((f_lost S (xs (a + 1))).1), .int ((f_lost S (xs (a + 1))).1)]
  refine aw_icmp_eq C (tgt := 993) d_L_law_952 (by decide) (fun h952 => ?_) (fun h952 => absurd (rfl) h952)
  refine aw_widen (k := 22 + a + 6) (n := 3068 + 46 * a + 276) (by omega) (by omega) ?_
  exact hK _ ad9 ce8 (hC9.tr hf8) hR8 (hI.lost (xs (a + 1)))
set_option maxRecDepth 100000 in
set_option maxHeartbeats 4000000 in
theorem law_told {X : aw_X} {l : Launch} {G : aw_G} (C : aw_ok X code 4 "WipePapersLaw") (I : aw_in X l G room_1) {b L : Nat} {xs : Nat → Int32} (hX : aw_scr X b L xs) (hL : L ≤ 3072) {a : Nat} (ha : a + 6 ≤ L) {S : SysS} {ad : aw_Ad} {ce : aw_He} (hC : LayC S ad ce) (hR : LayR S ad ce) (hI : Inv S)
    (hK : ∀ (S' : SysS) (ad' : aw_Ad) (ce' : aw_He), LayC S' ad' ce' → LayR S' ad' ce' → Inv S' → AW X 4 (22 + a + 6) (3068 + 46 * a + 276) ad' ce' 993 [(3, .int (nI a)), (2, .ref (ad' (3, 0, 0))), (1, .ref (ad' (0, 0, 0))), (0, .ref b)] []) : AW X 4 (22 + a) (3068 + 46 * a) ad ce 957 [(3, .int (nI a)), (2, .ref (ad (3, 0, 0))), (1, .ref (ad (0, 0, 0))), (0, .ref b)] [] := by
  obtain ⟨fsC, hoC⟩ := hC.ob
  obtain ⟨fsR, hoR⟩ := hR.ob
  refine aw_aload_n C d_L_law_957 rfl (j := 2) rfl ?_
  refine aw_aload_n C d_L_law_958 rfl (j := 3) rfl ?_
  refine aw_iload_n C d_L_law_959 rfl (j := 0) rfl ?_
  refine aw_iconst C (v := 1) d_L_law_960 (by decide) ?_
  refine aw_iadd C d_L_law_961 ?_
  refine aw_topi (v' := nI (a + 1)) (nI_add a 1) ?_
  refine aw_sld C hX (j := (a + 1)) (rfl) (by omega) (by omega) d_L_law_962 ?_
  refine aw_callV C I (k := (0, 0, 0)) (as := [.int (xs (a + 1))]) (rest := []) (C_told l G ad ce S hC (xs (a + 1))) g_L_104 hoC rfl rfl ⟨by decide, by decide⟩ ⟨Nat.le_trans (m := 600000) (by omega) (Nat.le_refl _), Nat.le_trans (m := 7302250) (by omega) (Nat.le_refl _)⟩ rfl (Nat.le_of_ble_eq_true rfl) d_L_law_963 ?_
  rintro _ _ _ ⟨rfl, rfl, rfl⟩
  show AW X 4 (22 + a) (3068 + 46 * a) ad ce 966 [(3, .int (nI a)), (2, .ref (ad (3, 0, 0))), (1, .ref (ad (0, 0, 0))), (0, .ref b)] [.int (f_told S (xs (a + 1)))]
  refine aw_aload_n C d_L_law_966 rfl (j := 1) rfl ?_
  refine aw_aload_n C d_L_law_967 rfl (j := 3) rfl ?_
  refine aw_iload_n C d_L_law_968 rfl (j := 0) rfl ?_
  refine aw_iconst C (v := 1) d_L_law_969 (by decide) ?_
  refine aw_iadd C d_L_law_970 ?_
  refine aw_topi (v' := nI (a + 1)) (nI_add a 1) ?_
  refine aw_sld C hX (j := (a + 1)) (rfl) (by omega) (by omega) d_L_law_971 ?_
  refine aw_callV C I (k := (3, 0, 0)) (as := [.int (xs (a + 1))]) (rest := [.int (f_told S (xs (a + 1)))]) (R_told l G ad ce S hR (xs (a + 1))) g_L_107 hoR rfl rfl ⟨by decide, by decide⟩ ⟨Nat.le_trans (m := 600000) (by omega) (Nat.le_refl _), Nat.le_trans (m := 7302250) (by omega) (Nat.le_refl _)⟩ rfl (Nat.le_of_ble_eq_true rfl) d_L_law_972 ?_
  rintro _ _ _ ⟨rfl, rfl, rfl⟩
  show AW X 4 (22 + a) (3068 + 46 * a) ad ce 975 [(3, .int (nI a)), (2, .ref (ad (3, 0, 0))), (1, .ref (ad (0, 0, 0))), (0, .ref b)] [.int (f_told S (xs (a + 1))), .int (f_told S (xs (a + 1)))]
  refine aw_icmp_eq C (tgt := 993) d_L_law_975 (by decide) (fun h975 => ?_) (fun h975 => absurd (rfl) h975)
  refine aw_widen (k := 22 + a + 6) (n := 3068 + 46 * a + 276) (by omega) (by omega) ?_
  exact hK S ad ce hC hR hI
set_option maxRecDepth 100000 in
set_option maxHeartbeats 4000000 in
theorem law_states {X : aw_X} {l : Launch} {G : aw_G} (C : aw_ok X code 4 "WipePapersLaw") (I : aw_in X l G room_1) {b L : Nat} {xs : Nat → Int32} (hX : aw_scr X b L xs) (hL : L ≤ 3072) {a : Nat} (ha : a + 6 ≤ L) {S : SysS} {ad : aw_Ad} {ce : aw_He} (hC : LayC S ad ce) (hR : LayR S ad ce) (hI : Inv S)
    (hK : ∀ (S' : SysS) (ad' : aw_Ad) (ce' : aw_He), LayC S' ad' ce' → LayR S' ad' ce' → Inv S' → AW X 4 (22 + a + 6) (3068 + 46 * a + 276) ad' ce' 993 [(3, .int (nI a)), (2, .ref (ad' (3, 0, 0))), (1, .ref (ad' (0, 0, 0))), (0, .ref b)] []) : AW X 4 (22 + a) (3068 + 46 * a) ad ce 980 [(3, .int (nI a)), (2, .ref (ad (3, 0, 0))), (1, .ref (ad (0, 0, 0))), (0, .ref b)] [] := by
  obtain ⟨fsC, hoC⟩ := hC.ob
  obtain ⟨fsR, hoR⟩ := hR.ob
  refine aw_aload_n C d_L_law_980 rfl (j := 2) rfl ?_
  refine aw_callV C I (k := (0, 0, 0)) (as := []) (rest := []) (C_states l G ad ce S hC hI.1) g_L_108 hoC rfl rfl ⟨by decide, by decide⟩ ⟨Nat.le_trans (m := 600000) (by omega) (Nat.le_refl _), Nat.le_trans (m := 7302250) (by omega) (Nat.le_refl _)⟩ rfl (Nat.le_of_ble_eq_true rfl) d_L_law_981 ?_
  rintro _ _ _ ⟨rfl, rfl, rfl⟩
  show AW X 4 (22 + a) (3068 + 46 * a) ad ce 984 [(3, .int (nI a)), (2, .ref (ad (3, 0, 0))), (1, .ref (ad (0, 0, 0))), (0, .ref b)] [.int (f_states S)]
  refine aw_aload_n C d_L_law_984 rfl (j := 1) rfl ?_
  refine aw_callV C I (k := (3, 0, 0)) (as := []) (rest := [.int (f_states S)]) (R_states l G ad ce S hR ) g_L_112 hoR rfl rfl ⟨by decide, by decide⟩ ⟨Nat.le_trans (m := 600000) (by omega) (Nat.le_refl _), Nat.le_trans (m := 7302250) (by omega) (Nat.le_refl _)⟩ rfl (Nat.le_of_ble_eq_true rfl) d_L_law_985 ?_
  rintro _ _ _ ⟨rfl, rfl, rfl⟩
  show AW X 4 (22 + a) (3068 + 46 * a) ad ce 988 [(3, .int (nI a)), (2, .ref (ad (3, 0, 0))), (1, .ref (ad (0, 0, 0))), (0, .ref b)] [.int (f_states S), .int (f_states S)]
  refine aw_icmp_eq C (tgt := 993) d_L_law_988 (by decide) (fun h988 => ?_) (fun h988 => absurd (rfl) h988)
  refine aw_widen (k := 22 + a + 6) (n := 3068 + 46 * a + 276) (by omega) (by omega) ?_
  exact hK S ad ce hC hR hI
