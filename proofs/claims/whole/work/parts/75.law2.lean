section ZLaw
variable {G : ZG} {Y : ZY} {nm : String} {b L t o : Nat} {xs : Nat → Int32} {ad adm : Nat → Nat} {S : ZA} {hA dA : Nat → Nat} {I : Nat → Int32} {Lw : Nat → Int64} {g : Option Nat} {QH QD : Nat → Option Nat} {RI : Nat → Nat → Int32} {RL : Nat → Nat → Int64} {F : Nat → Int32} {R : Nat → Nat → Int32}
theorem many_eq {v : Int32} (hM : mrp S F R) : (if v = 0 then F 5 else if v = 1 then F 6 else if v = 2 then F 7 else if v = 3 then F 32 else -2) = ap_many S v := by
  unfold ap_many
  rw [mrp_e5 hM, mrp_e6 hM, mrp_e7 hM, mrp_e32 hM]
set_option maxHeartbeats 1000000 in
set_option maxRecDepth 20000 in
theorem cs_0 (C : ZC G Y code "SameTuesdayLaw" nm ret room_1 4) (hX : ZX G Y b L xs) (hL : L ≤ 448) (ht : 7 * t + 7 ≤ L) (hm : crp S hA dA I Lw QH QD RI RL) (hM : mrp S F R) (kk : ∀ (S2 : ZA) (hA2 dA2 : Nat → Nat) (I2 : Nat → Int32) (L2 : Nat → Int64) (g2 : Option Nat) (QH2 QD2 : Nat → Option Nat) (RI2 : Nat → Nat → Int32) (RL2 : Nat → Nat → Int64) (F2 : Nat → Int32) (R2 : Nat → Nat → Int32), crp S2 hA2 dA2 I2 L2 QH2 QD2 RI2 RL2 → mrp S2 F2 R2 → ZV G Y (65 + 12 * (t + 1)) (15041 + 67 * (t + 1)) 1197 [(3, .int (nI (7 * t))), (2, .ref o), (1, .ref (ad 0)), (0, .ref b)] [] (cw G ad I2 L2 g2 none QH2 QD2 RI2 RL2 ++ pw hA2 dA2 (aT S2) (mw G o adm F2 R2))) : ZV G Y (65 + 12 * t) (15041 + 67 * t) 164 [(3, .int (nI (7 * t))), (2, .ref o), (1, .ref (ad 0)), (0, .ref b)] [] (cw G ad I Lw g none QH QD RI RL ++ pw hA dA (aT S) (mw G o adm F R)) := by
  refine zx_aload C d_LawX_law_164 rfl ?_
  refine zx_aload C d_LawX_law_165 rfl ?_
  refine zx_iload C d_LawX_law_166 rfl ?_
  refine zx_ic C d_LawX_law_167 ?_
  refine zx_iadd C d_LawX_law_168 ?_
  refine zx_sld C hX d_LawX_law_169 (7 * t + 1) (nI_add (7 * t) 1) (by omega) (by omega) ?_
  refine zx_aload C d_LawX_law_170 rfl ?_
  refine zx_iload C d_LawX_law_171 rfl ?_
  refine zx_ic C d_LawX_law_172 ?_
  refine zx_iadd C d_LawX_law_173 ?_
  refine zx_sld C hX d_LawX_law_174 (7 * t + 2) (nI_add (7 * t) 2) (by omega) (by omega) ?_
  refine zx_aload C d_LawX_law_175 rfl ?_
  refine zx_iload C d_LawX_law_176 rfl ?_
  refine zx_ic C d_LawX_law_177 ?_
  refine zx_iadd C d_LawX_law_178 ?_
  refine zx_sld C hX d_LawX_law_179 (7 * t + 3) (nI_add (7 * t) 3) (by omega) (by omega) ?_
  refine zx_aload C d_LawX_law_180 rfl ?_
  refine zx_iload C d_LawX_law_181 rfl ?_
  refine zx_ic C d_LawX_law_182 ?_
  refine zx_iadd C d_LawX_law_183 ?_
  refine zx_sld C hX d_LawX_law_184 (7 * t + 4) (nI_add (7 * t) 4) (by omega) (by omega) ?_
  refine zr_iA (zr_V C l_LawX_13 d_LawX_law_185 (As := [_, _, _, _]) rfl rfl (Nat.le_of_ble_eq_true rfl) (c_Tue_tuesday G ad I Lw g QH QD RI RL (mw G o adm F R) S hA dA hm (xs (7 * t + 1)) (xs (7 * t + 2)) (xs (7 * t + 3)) (xs (7 * t + 4))) 0 zcw_0 rfl ⟨(Nat.le_of_ble_eq_true rfl), (Nat.le_of_ble_eq_true rfl), (by show 65 + 12 * t + 12 ≤ 600000; omega), (by show 15041 + 67 * t + 67 ≤ 7302249; omega)⟩) (fun r1 w1 hw1 => ?_)
  obtain ⟨rfl, hA2, dA2, I2, L2, g2, QH2, QD2, RI2, RL2, rfl, hm2⟩ := hw1
  refine zx_perm wc_perm ?_
  refine zx_aload C d_LawX_law_188 rfl ?_
  refine zx_aload C d_LawX_law_189 rfl ?_
  refine zx_iload C d_LawX_law_190 rfl ?_
  refine zx_ic C d_LawX_law_191 ?_
  refine zx_iadd C d_LawX_law_192 ?_
  refine zx_sld C hX d_LawX_law_193 (7 * t + 1) (nI_add (7 * t) 1) (by omega) (by omega) ?_
  refine zx_aload C d_LawX_law_194 rfl ?_
  refine zx_iload C d_LawX_law_195 rfl ?_
  refine zx_ic C d_LawX_law_196 ?_
  refine zx_iadd C d_LawX_law_197 ?_
  refine zx_sld C hX d_LawX_law_198 (7 * t + 2) (nI_add (7 * t) 2) (by omega) (by omega) ?_
  refine zx_aload C d_LawX_law_199 rfl ?_
  refine zx_iload C d_LawX_law_200 rfl ?_
  refine zx_ic C d_LawX_law_201 ?_
  refine zx_iadd C d_LawX_law_202 ?_
  refine zx_sld C hX d_LawX_law_203 (7 * t + 3) (nI_add (7 * t) 3) (by omega) (by omega) ?_
  refine zx_aload C d_LawX_law_204 rfl ?_
  refine zx_iload C d_LawX_law_205 rfl ?_
  refine zx_ic C d_LawX_law_206 ?_
  refine zx_iadd C d_LawX_law_207 ?_
  refine zx_sld C hX d_LawX_law_208 (7 * t + 4) (nI_add (7 * t) 4) (by omega) (by omega) ?_
  refine zr_i (zr_V C l_LawX_17 d_LawX_law_209 (As := [_, _, _, _]) rfl rfl (Nat.le_of_ble_eq_true rfl) (c_Mod_tuesday G o adm F R _ S hM _ _ _ _) 0 rfl rfl ⟨(Nat.le_of_ble_eq_true rfl), (Nat.le_of_ble_eq_true rfl), (by show 65 + 12 * t + 12 + 0 ≤ 600000; omega), (by show 15041 + 67 * t + 67 + 0 ≤ 7302249; omega)⟩) (fun r2 w2 hw2 => ?_)
  obtain ⟨rfl, F2, R2, rfl, hM2⟩ := hw2
  refine zx_perm wc_perm.symm ?_
  refine zx_ic_eq C d_LawX_law_212 (fun _ => ?_) (fun h => absurd (rfl) h)
  refine zx_widen (kc1 := 65 + 12 * (t + 1)) (ks1 := 15041 + 67 * (t + 1)) (by show 65 + 12 * t + 12 ≤ _; omega) (by show 15041 + 67 * t + 67 ≤ _; omega) ?_
  exact kk _ _ _ _ _ _ _ _ _ _ _ _ hm2 hM2
set_option maxHeartbeats 1000000 in
set_option maxRecDepth 20000 in
theorem cs_1 (C : ZC G Y code "SameTuesdayLaw" nm ret room_1 4) (hX : ZX G Y b L xs) (hL : L ≤ 448) (ht : 7 * t + 7 ≤ L) (hm : crp S hA dA I Lw QH QD RI RL) (hM : mrp S F R) (kk : ∀ (S2 : ZA) (hA2 dA2 : Nat → Nat) (I2 : Nat → Int32) (L2 : Nat → Int64) (g2 : Option Nat) (QH2 QD2 : Nat → Option Nat) (RI2 : Nat → Nat → Int32) (RL2 : Nat → Nat → Int64) (F2 : Nat → Int32) (R2 : Nat → Nat → Int32), crp S2 hA2 dA2 I2 L2 QH2 QD2 RI2 RL2 → mrp S2 F2 R2 → ZV G Y (65 + 12 * (t + 1)) (15041 + 67 * (t + 1)) 1197 [(3, .int (nI (7 * t))), (2, .ref o), (1, .ref (ad 0)), (0, .ref b)] [] (cw G ad I2 L2 g2 none QH2 QD2 RI2 RL2 ++ pw hA2 dA2 (aT S2) (mw G o adm F2 R2))) : ZV G Y (65 + 12 * t) (15041 + 67 * t) 217 [(3, .int (nI (7 * t))), (2, .ref o), (1, .ref (ad 0)), (0, .ref b)] [] (cw G ad I Lw g none QH QD RI RL ++ pw hA dA (aT S) (mw G o adm F R)) := by
  refine zx_aload C d_LawX_law_217 rfl ?_
  refine zx_aload C d_LawX_law_218 rfl ?_
  refine zx_iload C d_LawX_law_219 rfl ?_
  refine zx_ic C d_LawX_law_220 ?_
  refine zx_iadd C d_LawX_law_221 ?_
  refine zx_sld C hX d_LawX_law_222 (7 * t + 1) (nI_add (7 * t) 1) (by omega) (by omega) ?_
  refine zx_aload C d_LawX_law_223 rfl ?_
  refine zx_iload C d_LawX_law_224 rfl ?_
  refine zx_ic C d_LawX_law_225 ?_
  refine zx_iadd C d_LawX_law_226 ?_
  refine zx_sld C hX d_LawX_law_227 (7 * t + 2) (nI_add (7 * t) 2) (by omega) (by omega) ?_
  refine zr_i (zr_V C l_LawX_18 d_LawX_law_228 (As := [_, _]) rfl rfl (Nat.le_of_ble_eq_true rfl) (c_Tue_ofHappening G ad I Lw g QH QD RI RL (mw G o adm F R) S hA dA hm (xs (7 * t + 1)) (xs (7 * t + 2))) 0 zcw_0 rfl ⟨(Nat.le_of_ble_eq_true rfl), (Nat.le_of_ble_eq_true rfl), (by show 65 + 12 * t + 0 ≤ 600000; omega), (by show 15041 + 67 * t + 0 ≤ 7302249; omega)⟩) (fun r1 w1 hw1 => ?_)
  obtain ⟨rfl, hA2, dA2, I2, L2, g2, QH2, QD2, RI2, RL2, rfl, hm2⟩ := hw1
  refine zx_perm wc_perm ?_
  refine zx_aload C d_LawX_law_231 rfl ?_
  refine zx_aload C d_LawX_law_232 rfl ?_
  refine zx_iload C d_LawX_law_233 rfl ?_
  refine zx_ic C d_LawX_law_234 ?_
  refine zx_iadd C d_LawX_law_235 ?_
  refine zx_sld C hX d_LawX_law_236 (7 * t + 1) (nI_add (7 * t) 1) (by omega) (by omega) ?_
  refine zx_aload C d_LawX_law_237 rfl ?_
  refine zx_iload C d_LawX_law_238 rfl ?_
  refine zx_ic C d_LawX_law_239 ?_
  refine zx_iadd C d_LawX_law_240 ?_
  refine zx_sld C hX d_LawX_law_241 (7 * t + 2) (nI_add (7 * t) 2) (by omega) (by omega) ?_
  refine zr_i (zr_V C l_LawX_22 d_LawX_law_242 (As := [_, _]) rfl rfl (Nat.le_of_ble_eq_true rfl) (c_Mod_ofHappening G o adm F R _ S hM _ _) 0 rfl rfl ⟨(Nat.le_of_ble_eq_true rfl), (Nat.le_of_ble_eq_true rfl), (by show 65 + 12 * t + 0 ≤ 600000; omega), (by show 15041 + 67 * t + 0 ≤ 7302249; omega)⟩) (fun r2 w2 hw2 => ?_)
  obtain ⟨rfl, F2, R2, rfl, hM2⟩ := hw2
  refine zx_perm wc_perm.symm ?_
  refine zx_ic_eq C d_LawX_law_245 (fun _ => ?_) (fun h => absurd (rfl) h)
  refine zx_widen (kc1 := 65 + 12 * (t + 1)) (ks1 := 15041 + 67 * (t + 1)) (by show 65 + 12 * t ≤ _; omega) (by show 15041 + 67 * t ≤ _; omega) ?_
  exact kk _ _ _ _ _ _ _ _ _ _ _ _ hm2 hM2
set_option maxHeartbeats 1000000 in
set_option maxRecDepth 20000 in
theorem cs_2 (C : ZC G Y code "SameTuesdayLaw" nm ret room_1 4) (hX : ZX G Y b L xs) (hL : L ≤ 448) (ht : 7 * t + 7 ≤ L) (hm : crp S hA dA I Lw QH QD RI RL) (hM : mrp S F R) (kk : ∀ (S2 : ZA) (hA2 dA2 : Nat → Nat) (I2 : Nat → Int32) (L2 : Nat → Int64) (g2 : Option Nat) (QH2 QD2 : Nat → Option Nat) (RI2 : Nat → Nat → Int32) (RL2 : Nat → Nat → Int64) (F2 : Nat → Int32) (R2 : Nat → Nat → Int32), crp S2 hA2 dA2 I2 L2 QH2 QD2 RI2 RL2 → mrp S2 F2 R2 → ZV G Y (65 + 12 * (t + 1)) (15041 + 67 * (t + 1)) 1197 [(3, .int (nI (7 * t))), (2, .ref o), (1, .ref (ad 0)), (0, .ref b)] [] (cw G ad I2 L2 g2 none QH2 QD2 RI2 RL2 ++ pw hA2 dA2 (aT S2) (mw G o adm F2 R2))) : ZV G Y (65 + 12 * t) (15041 + 67 * t) 250 [(3, .int (nI (7 * t))), (2, .ref o), (1, .ref (ad 0)), (0, .ref b)] [] (cw G ad I Lw g none QH QD RI RL ++ pw hA dA (aT S) (mw G o adm F R)) := by
  refine zx_aload C d_LawX_law_250 rfl ?_
  refine zx_aload C d_LawX_law_251 rfl ?_
  refine zx_iload C d_LawX_law_252 rfl ?_
  refine zx_ic C d_LawX_law_253 ?_
  refine zx_iadd C d_LawX_law_254 ?_
  refine zx_sld C hX d_LawX_law_255 (7 * t + 1) (nI_add (7 * t) 1) (by omega) (by omega) ?_
  refine zx_aload C d_LawX_law_256 rfl ?_
  refine zx_iload C d_LawX_law_257 rfl ?_
  refine zx_ic C d_LawX_law_258 ?_
  refine zx_iadd C d_LawX_law_259 ?_
  refine zx_sld C hX d_LawX_law_260 (7 * t + 2) (nI_add (7 * t) 2) (by omega) (by omega) ?_
  refine zr_i (zr_V C l_LawX_23 d_LawX_law_261 (As := [_, _]) rfl rfl (Nat.le_of_ble_eq_true rfl) (c_Tue_ofDeed G ad I Lw g QH QD RI RL (mw G o adm F R) S hA dA hm (xs (7 * t + 1)) (xs (7 * t + 2))) 0 zcw_0 rfl ⟨(Nat.le_of_ble_eq_true rfl), (Nat.le_of_ble_eq_true rfl), (by show 65 + 12 * t + 0 ≤ 600000; omega), (by show 15041 + 67 * t + 0 ≤ 7302249; omega)⟩) (fun r1 w1 hw1 => ?_)
  obtain ⟨rfl, hA2, dA2, I2, L2, g2, QH2, QD2, RI2, RL2, rfl, hm2⟩ := hw1
  refine zx_perm wc_perm ?_
  refine zx_aload C d_LawX_law_264 rfl ?_
  refine zx_aload C d_LawX_law_265 rfl ?_
  refine zx_iload C d_LawX_law_266 rfl ?_
  refine zx_ic C d_LawX_law_267 ?_
  refine zx_iadd C d_LawX_law_268 ?_
  refine zx_sld C hX d_LawX_law_269 (7 * t + 1) (nI_add (7 * t) 1) (by omega) (by omega) ?_
  refine zx_aload C d_LawX_law_270 rfl ?_
  refine zx_iload C d_LawX_law_271 rfl ?_
  refine zx_ic C d_LawX_law_272 ?_
  refine zx_iadd C d_LawX_law_273 ?_
  refine zx_sld C hX d_LawX_law_274 (7 * t + 2) (nI_add (7 * t) 2) (by omega) (by omega) ?_
  refine zr_i (zr_V C l_LawX_26 d_LawX_law_275 (As := [_, _]) rfl rfl (Nat.le_of_ble_eq_true rfl) (c_Mod_ofDeed G o adm F R _ S hM _ _) 0 rfl rfl ⟨(Nat.le_of_ble_eq_true rfl), (Nat.le_of_ble_eq_true rfl), (by show 65 + 12 * t + 0 ≤ 600000; omega), (by show 15041 + 67 * t + 0 ≤ 7302249; omega)⟩) (fun r2 w2 hw2 => ?_)
  obtain ⟨rfl, F2, R2, rfl, hM2⟩ := hw2
  refine zx_perm wc_perm.symm ?_
  refine zx_ic_eq C d_LawX_law_278 (fun _ => ?_) (fun h => absurd (rfl) h)
  refine zx_widen (kc1 := 65 + 12 * (t + 1)) (ks1 := 15041 + 67 * (t + 1)) (by show 65 + 12 * t ≤ _; omega) (by show 15041 + 67 * t ≤ _; omega) ?_
  exact kk _ _ _ _ _ _ _ _ _ _ _ _ hm2 hM2
set_option maxHeartbeats 1000000 in
set_option maxRecDepth 20000 in
theorem cs_3 (C : ZC G Y code "SameTuesdayLaw" nm ret room_1 4) (hX : ZX G Y b L xs) (hL : L ≤ 448) (ht : 7 * t + 7 ≤ L) (hm : crp S hA dA I Lw QH QD RI RL) (hM : mrp S F R) (kk : ∀ (S2 : ZA) (hA2 dA2 : Nat → Nat) (I2 : Nat → Int32) (L2 : Nat → Int64) (g2 : Option Nat) (QH2 QD2 : Nat → Option Nat) (RI2 : Nat → Nat → Int32) (RL2 : Nat → Nat → Int64) (F2 : Nat → Int32) (R2 : Nat → Nat → Int32), crp S2 hA2 dA2 I2 L2 QH2 QD2 RI2 RL2 → mrp S2 F2 R2 → ZV G Y (65 + 12 * (t + 1)) (15041 + 67 * (t + 1)) 1197 [(3, .int (nI (7 * t))), (2, .ref o), (1, .ref (ad 0)), (0, .ref b)] [] (cw G ad I2 L2 g2 none QH2 QD2 RI2 RL2 ++ pw hA2 dA2 (aT S2) (mw G o adm F2 R2))) : ZV G Y (65 + 12 * t) (15041 + 67 * t) 283 [(3, .int (nI (7 * t))), (2, .ref o), (1, .ref (ad 0)), (0, .ref b)] [] (cw G ad I Lw g none QH QD RI RL ++ pw hA dA (aT S) (mw G o adm F R)) := by
  refine zx_aload C d_LawX_law_283 rfl ?_
  refine zx_aload C d_LawX_law_284 rfl ?_
  refine zx_iload C d_LawX_law_285 rfl ?_
  refine zx_ic C d_LawX_law_286 ?_
  refine zx_iadd C d_LawX_law_287 ?_
  refine zx_sld C hX d_LawX_law_288 (7 * t + 1) (nI_add (7 * t) 1) (by omega) (by omega) ?_
  refine zr_i (zr_V C l_LawX_27 d_LawX_law_289 (As := [_]) rfl rfl (Nat.le_of_ble_eq_true rfl) (c_Tue_minutes G ad I Lw g QH QD RI RL (mw G o adm F R) S hA dA hm (xs (7 * t + 1))) 0 zcw_0 rfl ⟨(Nat.le_of_ble_eq_true rfl), (Nat.le_of_ble_eq_true rfl), (by show 65 + 12 * t + 0 ≤ 600000; omega), (by show 15041 + 67 * t + 0 ≤ 7302249; omega)⟩) (fun r1 w1 hw1 => ?_)
  obtain ⟨rfl, hA2, dA2, I2, L2, g2, QH2, QD2, RI2, RL2, rfl, hm2⟩ := hw1
  refine zx_perm wc_perm ?_
  refine zx_aload C d_LawX_law_292 rfl ?_
  refine zx_aload C d_LawX_law_293 rfl ?_
  refine zx_iload C d_LawX_law_294 rfl ?_
  refine zx_ic C d_LawX_law_295 ?_
  refine zx_iadd C d_LawX_law_296 ?_
  refine zx_sld C hX d_LawX_law_297 (7 * t + 1) (nI_add (7 * t) 1) (by omega) (by omega) ?_
  refine zr_i (zr_V C l_LawX_31 d_LawX_law_298 (As := [_]) rfl rfl (Nat.le_of_ble_eq_true rfl) (c_Mod_minutes G o adm F R _ S hM _) 0 rfl rfl ⟨(Nat.le_of_ble_eq_true rfl), (Nat.le_of_ble_eq_true rfl), (by show 65 + 12 * t + 0 ≤ 600000; omega), (by show 15041 + 67 * t + 0 ≤ 7302249; omega)⟩) (fun r2 w2 hw2 => ?_)
  obtain ⟨rfl, F2, R2, rfl, hM2⟩ := hw2
  refine zx_perm wc_perm.symm ?_
  refine zx_ic_eq C d_LawX_law_301 (fun _ => ?_) (fun h => absurd (rfl) h)
  refine zx_widen (kc1 := 65 + 12 * (t + 1)) (ks1 := 15041 + 67 * (t + 1)) (by show 65 + 12 * t ≤ _; omega) (by show 15041 + 67 * t ≤ _; omega) ?_
  exact kk _ _ _ _ _ _ _ _ _ _ _ _ hm2 hM2
set_option maxHeartbeats 1000000 in
set_option maxRecDepth 20000 in
theorem cs_4 (C : ZC G Y code "SameTuesdayLaw" nm ret room_1 4) (hX : ZX G Y b L xs) (hL : L ≤ 448) (ht : 7 * t + 7 ≤ L) (hm : crp S hA dA I Lw QH QD RI RL) (hM : mrp S F R) (kk : ∀ (S2 : ZA) (hA2 dA2 : Nat → Nat) (I2 : Nat → Int32) (L2 : Nat → Int64) (g2 : Option Nat) (QH2 QD2 : Nat → Option Nat) (RI2 : Nat → Nat → Int32) (RL2 : Nat → Nat → Int64) (F2 : Nat → Int32) (R2 : Nat → Nat → Int32), crp S2 hA2 dA2 I2 L2 QH2 QD2 RI2 RL2 → mrp S2 F2 R2 → ZV G Y (65 + 12 * (t + 1)) (15041 + 67 * (t + 1)) 1197 [(3, .int (nI (7 * t))), (2, .ref o), (1, .ref (ad 0)), (0, .ref b)] [] (cw G ad I2 L2 g2 none QH2 QD2 RI2 RL2 ++ pw hA2 dA2 (aT S2) (mw G o adm F2 R2))) : ZV G Y (65 + 12 * t) (15041 + 67 * t) 306 [(3, .int (nI (7 * t))), (2, .ref o), (1, .ref (ad 0)), (0, .ref b)] [] (cw G ad I Lw g none QH QD RI RL ++ pw hA dA (aT S) (mw G o adm F R)) := by
  refine zx_aload C d_LawX_law_306 rfl ?_
  refine zx_aload C d_LawX_law_307 rfl ?_
  refine zx_iload C d_LawX_law_308 rfl ?_
  refine zx_ic C d_LawX_law_309 ?_
  refine zx_iadd C d_LawX_law_310 ?_
  refine zx_sld C hX d_LawX_law_311 (7 * t + 1) (nI_add (7 * t) 1) (by omega) (by omega) ?_
  refine zx_aload C d_LawX_law_312 rfl ?_
  refine zx_iload C d_LawX_law_313 rfl ?_
  refine zx_ic C d_LawX_law_314 ?_
  refine zx_iadd C d_LawX_law_315 ?_
  refine zx_sld C hX d_LawX_law_316 (7 * t + 2) (nI_add (7 * t) 2) (by omega) (by omega) ?_
  refine zr_i (zr_V C l_LawX_32 d_LawX_law_317 (As := [_, _]) rfl rfl (Nat.le_of_ble_eq_true rfl) (c_Tue_shift G ad I Lw g QH QD RI RL (mw G o adm F R) S hA dA hm (xs (7 * t + 1)) (xs (7 * t + 2))) 0 zcw_0 rfl ⟨(Nat.le_of_ble_eq_true rfl), (Nat.le_of_ble_eq_true rfl), (by show 65 + 12 * t + 0 ≤ 600000; omega), (by show 15041 + 67 * t + 0 ≤ 7302249; omega)⟩) (fun r1 w1 hw1 => ?_)
  obtain ⟨rfl, hA2, dA2, I2, L2, g2, QH2, QD2, RI2, RL2, rfl, hm2⟩ := hw1
  refine zx_perm wc_perm ?_
  refine zx_aload C d_LawX_law_320 rfl ?_
  refine zx_aload C d_LawX_law_321 rfl ?_
  refine zx_iload C d_LawX_law_322 rfl ?_
  refine zx_ic C d_LawX_law_323 ?_
  refine zx_iadd C d_LawX_law_324 ?_
  refine zx_sld C hX d_LawX_law_325 (7 * t + 1) (nI_add (7 * t) 1) (by omega) (by omega) ?_
  refine zx_aload C d_LawX_law_326 rfl ?_
  refine zx_iload C d_LawX_law_327 rfl ?_
  refine zx_ic C d_LawX_law_328 ?_
  refine zx_iadd C d_LawX_law_329 ?_
  refine zx_sld C hX d_LawX_law_330 (7 * t + 2) (nI_add (7 * t) 2) (by omega) (by omega) ?_
  refine zr_i (zr_V C l_LawX_35 d_LawX_law_331 (As := [_, _]) rfl rfl (Nat.le_of_ble_eq_true rfl) (c_Mod_shift G o adm F R _ S hM _ _) 0 rfl rfl ⟨(Nat.le_of_ble_eq_true rfl), (Nat.le_of_ble_eq_true rfl), (by show 65 + 12 * t + 0 ≤ 600000; omega), (by show 15041 + 67 * t + 0 ≤ 7302249; omega)⟩) (fun r2 w2 hw2 => ?_)
  obtain ⟨rfl, F2, R2, rfl, hM2⟩ := hw2
  refine zx_perm wc_perm.symm ?_
  refine zx_ic_eq C d_LawX_law_334 (fun _ => ?_) (fun h => absurd (rfl) h)
  refine zx_widen (kc1 := 65 + 12 * (t + 1)) (ks1 := 15041 + 67 * (t + 1)) (by show 65 + 12 * t ≤ _; omega) (by show 15041 + 67 * t ≤ _; omega) ?_
  exact kk _ _ _ _ _ _ _ _ _ _ _ _ hm2 hM2
set_option maxHeartbeats 1000000 in
set_option maxRecDepth 20000 in
theorem cs_5 (C : ZC G Y code "SameTuesdayLaw" nm ret room_1 4) (hX : ZX G Y b L xs) (hL : L ≤ 448) (ht : 7 * t + 7 ≤ L) (hm : crp S hA dA I Lw QH QD RI RL) (hM : mrp S F R) (kk : ∀ (S2 : ZA) (hA2 dA2 : Nat → Nat) (I2 : Nat → Int32) (L2 : Nat → Int64) (g2 : Option Nat) (QH2 QD2 : Nat → Option Nat) (RI2 : Nat → Nat → Int32) (RL2 : Nat → Nat → Int64) (F2 : Nat → Int32) (R2 : Nat → Nat → Int32), crp S2 hA2 dA2 I2 L2 QH2 QD2 RI2 RL2 → mrp S2 F2 R2 → ZV G Y (65 + 12 * (t + 1)) (15041 + 67 * (t + 1)) 1197 [(3, .int (nI (7 * t))), (2, .ref o), (1, .ref (ad 0)), (0, .ref b)] [] (cw G ad I2 L2 g2 none QH2 QD2 RI2 RL2 ++ pw hA2 dA2 (aT S2) (mw G o adm F2 R2))) : ZV G Y (65 + 12 * t) (15041 + 67 * t) 339 [(3, .int (nI (7 * t))), (2, .ref o), (1, .ref (ad 0)), (0, .ref b)] [] (cw G ad I Lw g none QH QD RI RL ++ pw hA dA (aT S) (mw G o adm F R)) := by
  refine zx_aload C d_LawX_law_339 rfl ?_
  refine zx_aload C d_LawX_law_340 rfl ?_
  refine zx_iload C d_LawX_law_341 rfl ?_
  refine zx_ic C d_LawX_law_342 ?_
  refine zx_iadd C d_LawX_law_343 ?_
  refine zx_sld C hX d_LawX_law_344 (7 * t + 1) (nI_add (7 * t) 1) (by omega) (by omega) ?_
  refine zx_aload C d_LawX_law_345 rfl ?_
  refine zx_iload C d_LawX_law_346 rfl ?_
  refine zx_ic C d_LawX_law_347 ?_
  refine zx_iadd C d_LawX_law_348 ?_
  refine zx_sld C hX d_LawX_law_349 (7 * t + 2) (nI_add (7 * t) 2) (by omega) (by omega) ?_
  refine zx_aload C d_LawX_law_350 rfl ?_
  refine zx_iload C d_LawX_law_351 rfl ?_
  refine zx_ic C d_LawX_law_352 ?_
  refine zx_iadd C d_LawX_law_353 ?_
  refine zx_sld C hX d_LawX_law_354 (7 * t + 3) (nI_add (7 * t) 3) (by omega) (by omega) ?_
  refine zx_aload C d_LawX_law_355 rfl ?_
  refine zx_iload C d_LawX_law_356 rfl ?_
  refine zx_ic C d_LawX_law_357 ?_
  refine zx_iadd C d_LawX_law_358 ?_
  refine zx_sld C hX d_LawX_law_359 (7 * t + 4) (nI_add (7 * t) 4) (by omega) (by omega) ?_
  refine zx_aload C d_LawX_law_360 rfl ?_
  refine zx_iload C d_LawX_law_361 rfl ?_
  refine zx_ic C d_LawX_law_362 ?_
  refine zx_iadd C d_LawX_law_363 ?_
  refine zx_sld C hX d_LawX_law_364 (7 * t + 5) (nI_add (7 * t) 5) (by omega) (by omega) ?_
  refine zr_i (zr_V C l_LawX_36 d_LawX_law_365 (As := [_, _, _, _, _]) rfl rfl (Nat.le_of_ble_eq_true rfl) (c_Tue_live G ad I Lw g QH QD RI RL (mw G o adm F R) S hA dA hm (xs (7 * t + 1)) (xs (7 * t + 2)) (xs (7 * t + 3)) (xs (7 * t + 4)) (xs (7 * t + 5))) 0 zcw_0 rfl ⟨(Nat.le_of_ble_eq_true rfl), (Nat.le_of_ble_eq_true rfl), (by show 65 + 12 * t + 0 ≤ 600000; omega), (by show 15041 + 67 * t + 0 ≤ 7302249; omega)⟩) (fun r1 w1 hw1 => ?_)
  obtain ⟨rfl, hA2, dA2, I2, L2, g2, QH2, QD2, RI2, RL2, rfl, hm2⟩ := hw1
  refine zx_perm wc_perm ?_
  refine zx_aload C d_LawX_law_368 rfl ?_
  refine zx_aload C d_LawX_law_369 rfl ?_
  refine zx_iload C d_LawX_law_370 rfl ?_
  refine zx_ic C d_LawX_law_371 ?_
  refine zx_iadd C d_LawX_law_372 ?_
  refine zx_sld C hX d_LawX_law_373 (7 * t + 1) (nI_add (7 * t) 1) (by omega) (by omega) ?_
  refine zx_aload C d_LawX_law_374 rfl ?_
  refine zx_iload C d_LawX_law_375 rfl ?_
  refine zx_ic C d_LawX_law_376 ?_
  refine zx_iadd C d_LawX_law_377 ?_
  refine zx_sld C hX d_LawX_law_378 (7 * t + 2) (nI_add (7 * t) 2) (by omega) (by omega) ?_
  refine zx_aload C d_LawX_law_379 rfl ?_
  refine zx_iload C d_LawX_law_380 rfl ?_
  refine zx_ic C d_LawX_law_381 ?_
  refine zx_iadd C d_LawX_law_382 ?_
  refine zx_sld C hX d_LawX_law_383 (7 * t + 3) (nI_add (7 * t) 3) (by omega) (by omega) ?_
  refine zx_aload C d_LawX_law_384 rfl ?_
  refine zx_iload C d_LawX_law_385 rfl ?_
  refine zx_ic C d_LawX_law_386 ?_
  refine zx_iadd C d_LawX_law_387 ?_
  refine zx_sld C hX d_LawX_law_388 (7 * t + 4) (nI_add (7 * t) 4) (by omega) (by omega) ?_
  refine zx_aload C d_LawX_law_389 rfl ?_
  refine zx_iload C d_LawX_law_390 rfl ?_
  refine zx_ic C d_LawX_law_391 ?_
  refine zx_iadd C d_LawX_law_392 ?_
  refine zx_sld C hX d_LawX_law_393 (7 * t + 5) (nI_add (7 * t) 5) (by omega) (by omega) ?_
  refine zr_i (zr_V C l_LawX_40 d_LawX_law_394 (As := [_, _, _, _, _]) rfl rfl (Nat.le_of_ble_eq_true rfl) (c_Mod_live G o adm F R _ S hM _ _ _ _ _) 0 rfl rfl ⟨(Nat.le_of_ble_eq_true rfl), (Nat.le_of_ble_eq_true rfl), (by show 65 + 12 * t + 0 ≤ 600000; omega), (by show 15041 + 67 * t + 0 ≤ 7302249; omega)⟩) (fun r2 w2 hw2 => ?_)
  obtain ⟨rfl, F2, R2, rfl, hM2⟩ := hw2
  refine zx_perm wc_perm.symm ?_
  refine zx_ic_eq C d_LawX_law_397 (fun _ => ?_) (fun h => absurd (rfl) h)
  refine zx_widen (kc1 := 65 + 12 * (t + 1)) (ks1 := 15041 + 67 * (t + 1)) (by show 65 + 12 * t ≤ _; omega) (by show 15041 + 67 * t ≤ _; omega) ?_
  exact kk _ _ _ _ _ _ _ _ _ _ _ _ hm2 hM2
set_option maxHeartbeats 1000000 in
set_option maxRecDepth 20000 in
theorem cs_6 (C : ZC G Y code "SameTuesdayLaw" nm ret room_1 4) (hX : ZX G Y b L xs) (hL : L ≤ 448) (ht : 7 * t + 7 ≤ L) (hm : crp S hA dA I Lw QH QD RI RL) (hM : mrp S F R) (kk : ∀ (S2 : ZA) (hA2 dA2 : Nat → Nat) (I2 : Nat → Int32) (L2 : Nat → Int64) (g2 : Option Nat) (QH2 QD2 : Nat → Option Nat) (RI2 : Nat → Nat → Int32) (RL2 : Nat → Nat → Int64) (F2 : Nat → Int32) (R2 : Nat → Nat → Int32), crp S2 hA2 dA2 I2 L2 QH2 QD2 RI2 RL2 → mrp S2 F2 R2 → ZV G Y (65 + 12 * (t + 1)) (15041 + 67 * (t + 1)) 1197 [(3, .int (nI (7 * t))), (2, .ref o), (1, .ref (ad 0)), (0, .ref b)] [] (cw G ad I2 L2 g2 none QH2 QD2 RI2 RL2 ++ pw hA2 dA2 (aT S2) (mw G o adm F2 R2))) : ZV G Y (65 + 12 * t) (15041 + 67 * t) 402 [(3, .int (nI (7 * t))), (2, .ref o), (1, .ref (ad 0)), (0, .ref b)] [] (cw G ad I Lw g none QH QD RI RL ++ pw hA dA (aT S) (mw G o adm F R)) := by
  refine zx_aload C d_LawX_law_402 rfl ?_
  refine zx_aload C d_LawX_law_403 rfl ?_
  refine zx_iload C d_LawX_law_404 rfl ?_
  refine zx_ic C d_LawX_law_405 ?_
  refine zx_iadd C d_LawX_law_406 ?_
  refine zx_sld C hX d_LawX_law_407 (7 * t + 1) (nI_add (7 * t) 1) (by omega) (by omega) ?_
  refine zx_aload C d_LawX_law_408 rfl ?_
  refine zx_iload C d_LawX_law_409 rfl ?_
  refine zx_ic C d_LawX_law_410 ?_
  refine zx_iadd C d_LawX_law_411 ?_
  refine zx_sld C hX d_LawX_law_412 (7 * t + 2) (nI_add (7 * t) 2) (by omega) (by omega) ?_
  refine zx_aload C d_LawX_law_413 rfl ?_
  refine zx_iload C d_LawX_law_414 rfl ?_
  refine zx_ic C d_LawX_law_415 ?_
  refine zx_iadd C d_LawX_law_416 ?_
  refine zx_sld C hX d_LawX_law_417 (7 * t + 3) (nI_add (7 * t) 3) (by omega) (by omega) ?_
  refine zx_aload C d_LawX_law_418 rfl ?_
  refine zx_iload C d_LawX_law_419 rfl ?_
  refine zx_ic C d_LawX_law_420 ?_
  refine zx_iadd C d_LawX_law_421 ?_
  refine zx_sld C hX d_LawX_law_422 (7 * t + 4) (nI_add (7 * t) 4) (by omega) (by omega) ?_
  refine zx_aload C d_LawX_law_423 rfl ?_
  refine zx_iload C d_LawX_law_424 rfl ?_
  refine zx_ic C d_LawX_law_425 ?_
  refine zx_iadd C d_LawX_law_426 ?_
  refine zx_sld C hX d_LawX_law_427 (7 * t + 5) (nI_add (7 * t) 5) (by omega) (by omega) ?_
  refine zr_i (zr_V C l_LawX_41 d_LawX_law_428 (As := [_, _, _, _, _]) rfl rfl (Nat.le_of_ble_eq_true rfl) (c_Tue_at G ad I Lw g QH QD RI RL (mw G o adm F R) S hA dA hm (xs (7 * t + 1)) (xs (7 * t + 2)) (xs (7 * t + 3)) (xs (7 * t + 4)) (xs (7 * t + 5))) 0 zcw_0 rfl ⟨(Nat.le_of_ble_eq_true rfl), (Nat.le_of_ble_eq_true rfl), (by show 65 + 12 * t + 0 ≤ 600000; omega), (by show 15041 + 67 * t + 0 ≤ 7302249; omega)⟩) (fun r1 w1 hw1 => ?_)
  obtain ⟨rfl, hA2, dA2, I2, L2, g2, QH2, QD2, RI2, RL2, rfl, hm2⟩ := hw1
  refine zx_perm wc_perm ?_
  refine zx_aload C d_LawX_law_431 rfl ?_
  refine zx_aload C d_LawX_law_432 rfl ?_
  refine zx_iload C d_LawX_law_433 rfl ?_
  refine zx_ic C d_LawX_law_434 ?_
  refine zx_iadd C d_LawX_law_435 ?_
  refine zx_sld C hX d_LawX_law_436 (7 * t + 1) (nI_add (7 * t) 1) (by omega) (by omega) ?_
  refine zx_aload C d_LawX_law_437 rfl ?_
  refine zx_iload C d_LawX_law_438 rfl ?_
  refine zx_ic C d_LawX_law_439 ?_
  refine zx_iadd C d_LawX_law_440 ?_
  refine zx_sld C hX d_LawX_law_441 (7 * t + 2) (nI_add (7 * t) 2) (by omega) (by omega) ?_
  refine zx_aload C d_LawX_law_442 rfl ?_
  refine zx_iload C d_LawX_law_443 rfl ?_
  refine zx_ic C d_LawX_law_444 ?_
  refine zx_iadd C d_LawX_law_445 ?_
  refine zx_sld C hX d_LawX_law_446 (7 * t + 3) (nI_add (7 * t) 3) (by omega) (by omega) ?_
  refine zx_aload C d_LawX_law_447 rfl ?_
  refine zx_iload C d_LawX_law_448 rfl ?_
  refine zx_ic C d_LawX_law_449 ?_
  refine zx_iadd C d_LawX_law_450 ?_
  refine zx_sld C hX d_LawX_law_451 (7 * t + 4) (nI_add (7 * t) 4) (by omega) (by omega) ?_
  refine zx_aload C d_LawX_law_452 rfl ?_
  refine zx_iload C d_LawX_law_453 rfl ?_
  refine zx_ic C d_LawX_law_454 ?_
  refine zx_iadd C d_LawX_law_455 ?_
  refine zx_sld C hX d_LawX_law_456 (7 * t + 5) (nI_add (7 * t) 5) (by omega) (by omega) ?_
  refine zr_i (zr_V C l_LawX_44 d_LawX_law_457 (As := [_, _, _, _, _]) rfl rfl (Nat.le_of_ble_eq_true rfl) (c_Mod_at G o adm F R _ S hM _ _ _ _ _) 0 rfl rfl ⟨(Nat.le_of_ble_eq_true rfl), (Nat.le_of_ble_eq_true rfl), (by show 65 + 12 * t + 0 ≤ 600000; omega), (by show 15041 + 67 * t + 0 ≤ 7302249; omega)⟩) (fun r2 w2 hw2 => ?_)
  obtain ⟨rfl, F2, R2, rfl, hM2⟩ := hw2
  refine zx_perm wc_perm.symm ?_
  refine zx_ic_eq C d_LawX_law_460 (fun _ => ?_) (fun h => absurd (rfl) h)
  refine zx_widen (kc1 := 65 + 12 * (t + 1)) (ks1 := 15041 + 67 * (t + 1)) (by show 65 + 12 * t ≤ _; omega) (by show 15041 + 67 * t ≤ _; omega) ?_
  exact kk _ _ _ _ _ _ _ _ _ _ _ _ hm2 hM2
set_option maxHeartbeats 1000000 in
set_option maxRecDepth 20000 in
theorem cs_7 (C : ZC G Y code "SameTuesdayLaw" nm ret room_1 4) (hX : ZX G Y b L xs) (hL : L ≤ 448) (ht : 7 * t + 7 ≤ L) (hm : crp S hA dA I Lw QH QD RI RL) (hM : mrp S F R) (kk : ∀ (S2 : ZA) (hA2 dA2 : Nat → Nat) (I2 : Nat → Int32) (L2 : Nat → Int64) (g2 : Option Nat) (QH2 QD2 : Nat → Option Nat) (RI2 : Nat → Nat → Int32) (RL2 : Nat → Nat → Int64) (F2 : Nat → Int32) (R2 : Nat → Nat → Int32), crp S2 hA2 dA2 I2 L2 QH2 QD2 RI2 RL2 → mrp S2 F2 R2 → ZV G Y (65 + 12 * (t + 1)) (15041 + 67 * (t + 1)) 1197 [(3, .int (nI (7 * t))), (2, .ref o), (1, .ref (ad 0)), (0, .ref b)] [] (cw G ad I2 L2 g2 none QH2 QD2 RI2 RL2 ++ pw hA2 dA2 (aT S2) (mw G o adm F2 R2))) : ZV G Y (65 + 12 * t) (15041 + 67 * t) 465 [(3, .int (nI (7 * t))), (2, .ref o), (1, .ref (ad 0)), (0, .ref b)] [] (cw G ad I Lw g none QH QD RI RL ++ pw hA dA (aT S) (mw G o adm F R)) := by
  refine zx_aload C d_LawX_law_465 rfl ?_
  refine zx_aload C d_LawX_law_466 rfl ?_
  refine zx_iload C d_LawX_law_467 rfl ?_
  refine zx_ic C d_LawX_law_468 ?_
  refine zx_iadd C d_LawX_law_469 ?_
  refine zx_sld C hX d_LawX_law_470 (7 * t + 1) (nI_add (7 * t) 1) (by omega) (by omega) ?_
  refine zx_aload C d_LawX_law_471 rfl ?_
  refine zx_iload C d_LawX_law_472 rfl ?_
  refine zx_ic C d_LawX_law_473 ?_
  refine zx_iadd C d_LawX_law_474 ?_
  refine zx_sld C hX d_LawX_law_475 (7 * t + 2) (nI_add (7 * t) 2) (by omega) (by omega) ?_
  refine zx_aload C d_LawX_law_476 rfl ?_
  refine zx_iload C d_LawX_law_477 rfl ?_
  refine zx_ic C d_LawX_law_478 ?_
  refine zx_iadd C d_LawX_law_479 ?_
  refine zx_sld C hX d_LawX_law_480 (7 * t + 3) (nI_add (7 * t) 3) (by omega) (by omega) ?_
  refine zx_aload C d_LawX_law_481 rfl ?_
  refine zx_iload C d_LawX_law_482 rfl ?_
  refine zx_ic C d_LawX_law_483 ?_
  refine zx_iadd C d_LawX_law_484 ?_
  refine zx_sld C hX d_LawX_law_485 (7 * t + 4) (nI_add (7 * t) 4) (by omega) (by omega) ?_
  refine zr_i (zr_V C l_LawX_45 d_LawX_law_486 (As := [_, _, _, _]) rfl rfl (Nat.le_of_ble_eq_true rfl) (c_Tue_hangs G ad I Lw g QH QD RI RL (mw G o adm F R) S hA dA hm (xs (7 * t + 1)) (xs (7 * t + 2)) (xs (7 * t + 3)) (xs (7 * t + 4))) 0 zcw_0 rfl ⟨(Nat.le_of_ble_eq_true rfl), (Nat.le_of_ble_eq_true rfl), (by show 65 + 12 * t + 0 ≤ 600000; omega), (by show 15041 + 67 * t + 0 ≤ 7302249; omega)⟩) (fun r1 w1 hw1 => ?_)
  obtain ⟨rfl, hA2, dA2, I2, L2, g2, QH2, QD2, RI2, RL2, rfl, hm2⟩ := hw1
  refine zx_perm wc_perm ?_
  refine zx_aload C d_LawX_law_489 rfl ?_
  refine zx_aload C d_LawX_law_490 rfl ?_
  refine zx_iload C d_LawX_law_491 rfl ?_
  refine zx_ic C d_LawX_law_492 ?_
  refine zx_iadd C d_LawX_law_493 ?_
  refine zx_sld C hX d_LawX_law_494 (7 * t + 1) (nI_add (7 * t) 1) (by omega) (by omega) ?_
  refine zx_aload C d_LawX_law_495 rfl ?_
  refine zx_iload C d_LawX_law_496 rfl ?_
  refine zx_ic C d_LawX_law_497 ?_
  refine zx_iadd C d_LawX_law_498 ?_
  refine zx_sld C hX d_LawX_law_499 (7 * t + 2) (nI_add (7 * t) 2) (by omega) (by omega) ?_
  refine zx_aload C d_LawX_law_500 rfl ?_
  refine zx_iload C d_LawX_law_501 rfl ?_
  refine zx_ic C d_LawX_law_502 ?_
  refine zx_iadd C d_LawX_law_503 ?_
  refine zx_sld C hX d_LawX_law_504 (7 * t + 3) (nI_add (7 * t) 3) (by omega) (by omega) ?_
  refine zx_aload C d_LawX_law_505 rfl ?_
  refine zx_iload C d_LawX_law_506 rfl ?_
  refine zx_ic C d_LawX_law_507 ?_
  refine zx_iadd C d_LawX_law_508 ?_
  refine zx_sld C hX d_LawX_law_509 (7 * t + 4) (nI_add (7 * t) 4) (by omega) (by omega) ?_
  refine zr_i (zr_V C l_LawX_48 d_LawX_law_510 (As := [_, _, _, _]) rfl rfl (Nat.le_of_ble_eq_true rfl) (c_Mod_hangs G o adm F R _ S hM _ _ _ _) 0 rfl rfl ⟨(Nat.le_of_ble_eq_true rfl), (Nat.le_of_ble_eq_true rfl), (by show 65 + 12 * t + 0 ≤ 600000; omega), (by show 15041 + 67 * t + 0 ≤ 7302249; omega)⟩) (fun r2 w2 hw2 => ?_)
  obtain ⟨rfl, F2, R2, rfl, hM2⟩ := hw2
  refine zx_perm wc_perm.symm ?_
  refine zx_ic_eq C d_LawX_law_513 (fun _ => ?_) (fun h => absurd (rfl) h)
  refine zx_widen (kc1 := 65 + 12 * (t + 1)) (ks1 := 15041 + 67 * (t + 1)) (by show 65 + 12 * t ≤ _; omega) (by show 15041 + 67 * t ≤ _; omega) ?_
  exact kk _ _ _ _ _ _ _ _ _ _ _ _ hm2 hM2
set_option maxHeartbeats 1000000 in
set_option maxRecDepth 20000 in
theorem cs_8 (C : ZC G Y code "SameTuesdayLaw" nm ret room_1 4) (hX : ZX G Y b L xs) (hL : L ≤ 448) (ht : 7 * t + 7 ≤ L) (hm : crp S hA dA I Lw QH QD RI RL) (hM : mrp S F R) (kk : ∀ (S2 : ZA) (hA2 dA2 : Nat → Nat) (I2 : Nat → Int32) (L2 : Nat → Int64) (g2 : Option Nat) (QH2 QD2 : Nat → Option Nat) (RI2 : Nat → Nat → Int32) (RL2 : Nat → Nat → Int64) (F2 : Nat → Int32) (R2 : Nat → Nat → Int32), crp S2 hA2 dA2 I2 L2 QH2 QD2 RI2 RL2 → mrp S2 F2 R2 → ZV G Y (65 + 12 * (t + 1)) (15041 + 67 * (t + 1)) 1197 [(3, .int (nI (7 * t))), (2, .ref o), (1, .ref (ad 0)), (0, .ref b)] [] (cw G ad I2 L2 g2 none QH2 QD2 RI2 RL2 ++ pw hA2 dA2 (aT S2) (mw G o adm F2 R2))) : ZV G Y (65 + 12 * t) (15041 + 67 * t) 518 [(3, .int (nI (7 * t))), (2, .ref o), (1, .ref (ad 0)), (0, .ref b)] [] (cw G ad I Lw g none QH QD RI RL ++ pw hA dA (aT S) (mw G o adm F R)) := by
  refine zx_aload C d_LawX_law_518 rfl ?_
  refine zx_aload C d_LawX_law_519 rfl ?_
  refine zx_iload C d_LawX_law_520 rfl ?_
  refine zx_ic C d_LawX_law_521 ?_
  refine zx_iadd C d_LawX_law_522 ?_
  refine zx_sld C hX d_LawX_law_523 (7 * t + 1) (nI_add (7 * t) 1) (by omega) (by omega) ?_
  refine zx_aload C d_LawX_law_524 rfl ?_
  refine zx_iload C d_LawX_law_525 rfl ?_
  refine zx_ic C d_LawX_law_526 ?_
  refine zx_iadd C d_LawX_law_527 ?_
  refine zx_sld C hX d_LawX_law_528 (7 * t + 2) (nI_add (7 * t) 2) (by omega) (by omega) ?_
  refine zr_i (zr_V C l_LawX_49 d_LawX_law_529 (As := [_, _]) rfl rfl (Nat.le_of_ble_eq_true rfl) (c_Tue_can G ad I Lw g QH QD RI RL (mw G o adm F R) S hA dA hm (xs (7 * t + 1)) (xs (7 * t + 2))) 0 zcw_0 rfl ⟨(Nat.le_of_ble_eq_true rfl), (Nat.le_of_ble_eq_true rfl), (by show 65 + 12 * t + 0 ≤ 600000; omega), (by show 15041 + 67 * t + 0 ≤ 7302249; omega)⟩) (fun r1 w1 hw1 => ?_)
  obtain ⟨rfl, hA2, dA2, I2, L2, g2, QH2, QD2, RI2, RL2, rfl, hm2⟩ := hw1
  refine zx_perm wc_perm ?_
  refine zx_aload C d_LawX_law_532 rfl ?_
  refine zx_aload C d_LawX_law_533 rfl ?_
  refine zx_iload C d_LawX_law_534 rfl ?_
  refine zx_ic C d_LawX_law_535 ?_
  refine zx_iadd C d_LawX_law_536 ?_
  refine zx_sld C hX d_LawX_law_537 (7 * t + 1) (nI_add (7 * t) 1) (by omega) (by omega) ?_
  refine zx_aload C d_LawX_law_538 rfl ?_
  refine zx_iload C d_LawX_law_539 rfl ?_
  refine zx_ic C d_LawX_law_540 ?_
  refine zx_iadd C d_LawX_law_541 ?_
  refine zx_sld C hX d_LawX_law_542 (7 * t + 2) (nI_add (7 * t) 2) (by omega) (by omega) ?_
  refine zr_i (zr_V C l_LawX_52 d_LawX_law_543 (As := [_, _]) rfl rfl (Nat.le_of_ble_eq_true rfl) (c_Mod_can G o adm F R _ S hM _ _) 0 rfl rfl ⟨(Nat.le_of_ble_eq_true rfl), (Nat.le_of_ble_eq_true rfl), (by show 65 + 12 * t + 0 ≤ 600000; omega), (by show 15041 + 67 * t + 0 ≤ 7302249; omega)⟩) (fun r2 w2 hw2 => ?_)
  obtain ⟨rfl, F2, R2, rfl, hM2⟩ := hw2
  refine zx_perm wc_perm.symm ?_
  refine zx_ic_eq C d_LawX_law_546 (fun _ => ?_) (fun h => absurd (rfl) h)
  refine zx_widen (kc1 := 65 + 12 * (t + 1)) (ks1 := 15041 + 67 * (t + 1)) (by show 65 + 12 * t ≤ _; omega) (by show 15041 + 67 * t ≤ _; omega) ?_
  exact kk _ _ _ _ _ _ _ _ _ _ _ _ hm2 hM2
set_option maxHeartbeats 1000000 in
set_option maxRecDepth 20000 in
theorem cs_9 (C : ZC G Y code "SameTuesdayLaw" nm ret room_1 4) (hX : ZX G Y b L xs) (hL : L ≤ 448) (ht : 7 * t + 7 ≤ L) (hm : crp S hA dA I Lw QH QD RI RL) (hM : mrp S F R) (kk : ∀ (S2 : ZA) (hA2 dA2 : Nat → Nat) (I2 : Nat → Int32) (L2 : Nat → Int64) (g2 : Option Nat) (QH2 QD2 : Nat → Option Nat) (RI2 : Nat → Nat → Int32) (RL2 : Nat → Nat → Int64) (F2 : Nat → Int32) (R2 : Nat → Nat → Int32), crp S2 hA2 dA2 I2 L2 QH2 QD2 RI2 RL2 → mrp S2 F2 R2 → ZV G Y (65 + 12 * (t + 1)) (15041 + 67 * (t + 1)) 1197 [(3, .int (nI (7 * t))), (2, .ref o), (1, .ref (ad 0)), (0, .ref b)] [] (cw G ad I2 L2 g2 none QH2 QD2 RI2 RL2 ++ pw hA2 dA2 (aT S2) (mw G o adm F2 R2))) : ZV G Y (65 + 12 * t) (15041 + 67 * t) 551 [(3, .int (nI (7 * t))), (2, .ref o), (1, .ref (ad 0)), (0, .ref b)] [] (cw G ad I Lw g none QH QD RI RL ++ pw hA dA (aT S) (mw G o adm F R)) := by
  refine zx_aload C d_LawX_law_551 rfl ?_
  refine zx_aload C d_LawX_law_552 rfl ?_
  refine zx_iload C d_LawX_law_553 rfl ?_
  refine zx_ic C d_LawX_law_554 ?_
  refine zx_iadd C d_LawX_law_555 ?_
  refine zx_sld C hX d_LawX_law_556 (7 * t + 1) (nI_add (7 * t) 1) (by omega) (by omega) ?_
  refine zr_i (zr_V C l_LawX_53 d_LawX_law_557 (As := [_]) rfl rfl (Nat.le_of_ble_eq_true rfl) (c_Tue_soonest G ad I Lw g QH QD RI RL (mw G o adm F R) S hA dA hm (xs (7 * t + 1))) 0 zcw_0 rfl ⟨(Nat.le_of_ble_eq_true rfl), (Nat.le_of_ble_eq_true rfl), (by show 65 + 12 * t + 0 ≤ 600000; omega), (by show 15041 + 67 * t + 0 ≤ 7302249; omega)⟩) (fun r1 w1 hw1 => ?_)
  obtain ⟨rfl, hA2, dA2, I2, L2, g2, QH2, QD2, RI2, RL2, rfl, hm2⟩ := hw1
  refine zx_perm wc_perm ?_
  refine zx_aload C d_LawX_law_560 rfl ?_
  refine zx_aload C d_LawX_law_561 rfl ?_
  refine zx_iload C d_LawX_law_562 rfl ?_
  refine zx_ic C d_LawX_law_563 ?_
  refine zx_iadd C d_LawX_law_564 ?_
  refine zx_sld C hX d_LawX_law_565 (7 * t + 1) (nI_add (7 * t) 1) (by omega) (by omega) ?_
  refine zr_i (zr_V C l_LawX_56 d_LawX_law_566 (As := [_]) rfl rfl (Nat.le_of_ble_eq_true rfl) (c_Mod_soonest G o adm F R _ S hM _) 0 rfl rfl ⟨(Nat.le_of_ble_eq_true rfl), (Nat.le_of_ble_eq_true rfl), (by show 65 + 12 * t + 0 ≤ 600000; omega), (by show 15041 + 67 * t + 0 ≤ 7302249; omega)⟩) (fun r2 w2 hw2 => ?_)
  obtain ⟨rfl, F2, R2, rfl, hM2⟩ := hw2
  refine zx_perm wc_perm.symm ?_
  refine zx_ic_eq C d_LawX_law_569 (fun _ => ?_) (fun h => absurd (rfl) h)
  refine zx_widen (kc1 := 65 + 12 * (t + 1)) (ks1 := 15041 + 67 * (t + 1)) (by show 65 + 12 * t ≤ _; omega) (by show 15041 + 67 * t ≤ _; omega) ?_
  exact kk _ _ _ _ _ _ _ _ _ _ _ _ hm2 hM2
set_option maxHeartbeats 1000000 in
set_option maxRecDepth 20000 in
theorem cs_10 (C : ZC G Y code "SameTuesdayLaw" nm ret room_1 4) (hX : ZX G Y b L xs) (hL : L ≤ 448) (ht : 7 * t + 7 ≤ L) (hm : crp S hA dA I Lw QH QD RI RL) (hM : mrp S F R) (kk : ∀ (S2 : ZA) (hA2 dA2 : Nat → Nat) (I2 : Nat → Int32) (L2 : Nat → Int64) (g2 : Option Nat) (QH2 QD2 : Nat → Option Nat) (RI2 : Nat → Nat → Int32) (RL2 : Nat → Nat → Int64) (F2 : Nat → Int32) (R2 : Nat → Nat → Int32), crp S2 hA2 dA2 I2 L2 QH2 QD2 RI2 RL2 → mrp S2 F2 R2 → ZV G Y (65 + 12 * (t + 1)) (15041 + 67 * (t + 1)) 1197 [(3, .int (nI (7 * t))), (2, .ref o), (1, .ref (ad 0)), (0, .ref b)] [] (cw G ad I2 L2 g2 none QH2 QD2 RI2 RL2 ++ pw hA2 dA2 (aT S2) (mw G o adm F2 R2))) : ZV G Y (65 + 12 * t) (15041 + 67 * t) 574 [(3, .int (nI (7 * t))), (2, .ref o), (1, .ref (ad 0)), (0, .ref b)] [] (cw G ad I Lw g none QH QD RI RL ++ pw hA dA (aT S) (mw G o adm F R)) := by
  refine zx_aload C d_LawX_law_574 rfl ?_
  refine zx_aload C d_LawX_law_575 rfl ?_
  refine zx_iload C d_LawX_law_576 rfl ?_
  refine zx_ic C d_LawX_law_577 ?_
  refine zx_iadd C d_LawX_law_578 ?_
  refine zx_sld C hX d_LawX_law_579 (7 * t + 1) (nI_add (7 * t) 1) (by omega) (by omega) ?_
  refine zr_i (zr_V C l_LawX_57 d_LawX_law_580 (As := [_]) rfl rfl (Nat.le_of_ble_eq_true rfl) (c_Tue_bar G ad I Lw g QH QD RI RL (mw G o adm F R) S hA dA hm (xs (7 * t + 1))) 0 zcw_0 rfl ⟨(Nat.le_of_ble_eq_true rfl), (Nat.le_of_ble_eq_true rfl), (by show 65 + 12 * t + 0 ≤ 600000; omega), (by show 15041 + 67 * t + 0 ≤ 7302249; omega)⟩) (fun r1 w1 hw1 => ?_)
  obtain ⟨rfl, hA2, dA2, I2, L2, g2, QH2, QD2, RI2, RL2, rfl, hm2⟩ := hw1
  refine zx_perm wc_perm ?_
  refine zx_aload C d_LawX_law_583 rfl ?_
  refine zx_aload C d_LawX_law_584 rfl ?_
  refine zx_iload C d_LawX_law_585 rfl ?_
  refine zx_ic C d_LawX_law_586 ?_
  refine zx_iadd C d_LawX_law_587 ?_
  refine zx_sld C hX d_LawX_law_588 (7 * t + 1) (nI_add (7 * t) 1) (by omega) (by omega) ?_
  refine zr_i (zr_V C l_LawX_60 d_LawX_law_589 (As := [_]) rfl rfl (Nat.le_of_ble_eq_true rfl) (c_Mod_bar G o adm F R _ S hM _) 0 rfl rfl ⟨(Nat.le_of_ble_eq_true rfl), (Nat.le_of_ble_eq_true rfl), (by show 65 + 12 * t + 0 ≤ 600000; omega), (by show 15041 + 67 * t + 0 ≤ 7302249; omega)⟩) (fun r2 w2 hw2 => ?_)
  obtain ⟨rfl, F2, R2, rfl, hM2⟩ := hw2
  refine zx_perm wc_perm.symm ?_
  refine zx_ic_eq C d_LawX_law_592 (fun _ => ?_) (fun h => absurd (rfl) h)
  refine zx_widen (kc1 := 65 + 12 * (t + 1)) (ks1 := 15041 + 67 * (t + 1)) (by show 65 + 12 * t ≤ _; omega) (by show 15041 + 67 * t ≤ _; omega) ?_
  exact kk _ _ _ _ _ _ _ _ _ _ _ _ hm2 hM2
set_option maxHeartbeats 1000000 in
set_option maxRecDepth 20000 in
theorem cs_11 (C : ZC G Y code "SameTuesdayLaw" nm ret room_1 4) (hX : ZX G Y b L xs) (hL : L ≤ 448) (ht : 7 * t + 7 ≤ L) (hm : crp S hA dA I Lw QH QD RI RL) (hM : mrp S F R) (kk : ∀ (S2 : ZA) (hA2 dA2 : Nat → Nat) (I2 : Nat → Int32) (L2 : Nat → Int64) (g2 : Option Nat) (QH2 QD2 : Nat → Option Nat) (RI2 : Nat → Nat → Int32) (RL2 : Nat → Nat → Int64) (F2 : Nat → Int32) (R2 : Nat → Nat → Int32), crp S2 hA2 dA2 I2 L2 QH2 QD2 RI2 RL2 → mrp S2 F2 R2 → ZV G Y (65 + 12 * (t + 1)) (15041 + 67 * (t + 1)) 1197 [(3, .int (nI (7 * t))), (2, .ref o), (1, .ref (ad 0)), (0, .ref b)] [] (cw G ad I2 L2 g2 none QH2 QD2 RI2 RL2 ++ pw hA2 dA2 (aT S2) (mw G o adm F2 R2))) : ZV G Y (65 + 12 * t) (15041 + 67 * t) 597 [(3, .int (nI (7 * t))), (2, .ref o), (1, .ref (ad 0)), (0, .ref b)] [] (cw G ad I Lw g none QH QD RI RL ++ pw hA dA (aT S) (mw G o adm F R)) := by
  refine zx_aload C d_LawX_law_597 rfl ?_
  refine zx_aload C d_LawX_law_598 rfl ?_
  refine zx_iload C d_LawX_law_599 rfl ?_
  refine zx_ic C d_LawX_law_600 ?_
  refine zx_iadd C d_LawX_law_601 ?_
  refine zx_sld C hX d_LawX_law_602 (7 * t + 1) (nI_add (7 * t) 1) (by omega) (by omega) ?_
  refine zr_i (zr_V C l_LawX_61 d_LawX_law_603 (As := [_]) rfl rfl (Nat.le_of_ble_eq_true rfl) (c_Tue_day G ad I Lw g QH QD RI RL (mw G o adm F R) S hA dA hm (xs (7 * t + 1))) 0 zcw_0 rfl ⟨(Nat.le_of_ble_eq_true rfl), (Nat.le_of_ble_eq_true rfl), (by show 65 + 12 * t + 0 ≤ 600000; omega), (by show 15041 + 67 * t + 0 ≤ 7302249; omega)⟩) (fun r1 w1 hw1 => ?_)
  obtain ⟨rfl, hA2, dA2, I2, L2, g2, QH2, QD2, RI2, RL2, rfl, hm2⟩ := hw1
  refine zx_perm wc_perm ?_
  refine zx_aload C d_LawX_law_606 rfl ?_
  refine zx_aload C d_LawX_law_607 rfl ?_
  refine zx_iload C d_LawX_law_608 rfl ?_
  refine zx_ic C d_LawX_law_609 ?_
  refine zx_iadd C d_LawX_law_610 ?_
  refine zx_sld C hX d_LawX_law_611 (7 * t + 1) (nI_add (7 * t) 1) (by omega) (by omega) ?_
  refine zr_i (zr_V C l_LawX_64 d_LawX_law_612 (As := [_]) rfl rfl (Nat.le_of_ble_eq_true rfl) (c_Mod_day G o adm F R _ S hM _) 0 rfl rfl ⟨(Nat.le_of_ble_eq_true rfl), (Nat.le_of_ble_eq_true rfl), (by show 65 + 12 * t + 0 ≤ 600000; omega), (by show 15041 + 67 * t + 0 ≤ 7302249; omega)⟩) (fun r2 w2 hw2 => ?_)
  obtain ⟨rfl, F2, R2, rfl, hM2⟩ := hw2
  refine zx_perm wc_perm.symm ?_
  refine zx_ic_eq C d_LawX_law_615 (fun _ => ?_) (fun h => absurd (rfl) h)
  refine zx_widen (kc1 := 65 + 12 * (t + 1)) (ks1 := 15041 + 67 * (t + 1)) (by show 65 + 12 * t ≤ _; omega) (by show 15041 + 67 * t ≤ _; omega) ?_
  exact kk _ _ _ _ _ _ _ _ _ _ _ _ hm2 hM2
set_option maxHeartbeats 1000000 in
set_option maxRecDepth 20000 in
theorem cs_12 (C : ZC G Y code "SameTuesdayLaw" nm ret room_1 4) (hX : ZX G Y b L xs) (hL : L ≤ 448) (ht : 7 * t + 7 ≤ L) (hm : crp S hA dA I Lw QH QD RI RL) (hM : mrp S F R) (kk : ∀ (S2 : ZA) (hA2 dA2 : Nat → Nat) (I2 : Nat → Int32) (L2 : Nat → Int64) (g2 : Option Nat) (QH2 QD2 : Nat → Option Nat) (RI2 : Nat → Nat → Int32) (RL2 : Nat → Nat → Int64) (F2 : Nat → Int32) (R2 : Nat → Nat → Int32), crp S2 hA2 dA2 I2 L2 QH2 QD2 RI2 RL2 → mrp S2 F2 R2 → ZV G Y (65 + 12 * (t + 1)) (15041 + 67 * (t + 1)) 1197 [(3, .int (nI (7 * t))), (2, .ref o), (1, .ref (ad 0)), (0, .ref b)] [] (cw G ad I2 L2 g2 none QH2 QD2 RI2 RL2 ++ pw hA2 dA2 (aT S2) (mw G o adm F2 R2))) : ZV G Y (65 + 12 * t) (15041 + 67 * t) 620 [(3, .int (nI (7 * t))), (2, .ref o), (1, .ref (ad 0)), (0, .ref b)] [] (cw G ad I Lw g none QH QD RI RL ++ pw hA dA (aT S) (mw G o adm F R)) := by
  refine zx_aload C d_LawX_law_620 rfl ?_
  refine zx_aload C d_LawX_law_621 rfl ?_
  refine zx_iload C d_LawX_law_622 rfl ?_
  refine zx_ic C d_LawX_law_623 ?_
  refine zx_iadd C d_LawX_law_624 ?_
  refine zx_sld C hX d_LawX_law_625 (7 * t + 1) (nI_add (7 * t) 1) (by omega) (by omega) ?_
  refine zr_i (zr_V C l_LawX_65 d_LawX_law_626 (As := [_]) rfl rfl (Nat.le_of_ble_eq_true rfl) (c_Tue_forget G ad I Lw g QH QD RI RL (mw G o adm F R) S hA dA hm (xs (7 * t + 1))) 0 zcw_0 rfl ⟨(Nat.le_of_ble_eq_true rfl), (Nat.le_of_ble_eq_true rfl), (by show 65 + 12 * t + 0 ≤ 600000; omega), (by show 15041 + 67 * t + 0 ≤ 7302249; omega)⟩) (fun r1 w1 hw1 => ?_)
  obtain ⟨rfl, hA2, dA2, I2, L2, g2, QH2, QD2, RI2, RL2, rfl, hm2⟩ := hw1
  refine zx_perm wc_perm ?_
  refine zx_aload C d_LawX_law_629 rfl ?_
  refine zx_aload C d_LawX_law_630 rfl ?_
  refine zx_iload C d_LawX_law_631 rfl ?_
  refine zx_ic C d_LawX_law_632 ?_
  refine zx_iadd C d_LawX_law_633 ?_
  refine zx_sld C hX d_LawX_law_634 (7 * t + 1) (nI_add (7 * t) 1) (by omega) (by omega) ?_
  refine zr_i (zr_V C l_LawX_68 d_LawX_law_635 (As := [_]) rfl rfl (Nat.le_of_ble_eq_true rfl) (c_Mod_forget G o adm F R _ S hM _) 0 rfl rfl ⟨(Nat.le_of_ble_eq_true rfl), (Nat.le_of_ble_eq_true rfl), (by show 65 + 12 * t + 0 ≤ 600000; omega), (by show 15041 + 67 * t + 0 ≤ 7302249; omega)⟩) (fun r2 w2 hw2 => ?_)
  obtain ⟨rfl, F2, R2, rfl, hM2⟩ := hw2
  refine zx_perm wc_perm.symm ?_
  refine zx_ic_eq C d_LawX_law_638 (fun _ => ?_) (fun h => absurd (rfl) h)
  refine zx_widen (kc1 := 65 + 12 * (t + 1)) (ks1 := 15041 + 67 * (t + 1)) (by show 65 + 12 * t ≤ _; omega) (by show 15041 + 67 * t ≤ _; omega) ?_
  exact kk _ _ _ _ _ _ _ _ _ _ _ _ hm2 hM2
set_option maxHeartbeats 1000000 in
set_option maxRecDepth 20000 in
theorem cs_13 (C : ZC G Y code "SameTuesdayLaw" nm ret room_1 4) (hX : ZX G Y b L xs) (hL : L ≤ 448) (ht : 7 * t + 7 ≤ L) (hm : crp S hA dA I Lw QH QD RI RL) (hM : mrp S F R) (kk : ∀ (S2 : ZA) (hA2 dA2 : Nat → Nat) (I2 : Nat → Int32) (L2 : Nat → Int64) (g2 : Option Nat) (QH2 QD2 : Nat → Option Nat) (RI2 : Nat → Nat → Int32) (RL2 : Nat → Nat → Int64) (F2 : Nat → Int32) (R2 : Nat → Nat → Int32), crp S2 hA2 dA2 I2 L2 QH2 QD2 RI2 RL2 → mrp S2 F2 R2 → ZV G Y (65 + 12 * (t + 1)) (15041 + 67 * (t + 1)) 1197 [(3, .int (nI (7 * t))), (2, .ref o), (1, .ref (ad 0)), (0, .ref b)] [] (cw G ad I2 L2 g2 none QH2 QD2 RI2 RL2 ++ pw hA2 dA2 (aT S2) (mw G o adm F2 R2))) : ZV G Y (65 + 12 * t) (15041 + 67 * t) 643 [(3, .int (nI (7 * t))), (2, .ref o), (1, .ref (ad 0)), (0, .ref b)] [] (cw G ad I Lw g none QH QD RI RL ++ pw hA dA (aT S) (mw G o adm F R)) := by
  refine zx_aload C d_LawX_law_643 rfl ?_
  refine zx_aload C d_LawX_law_644 rfl ?_
  refine zx_iload C d_LawX_law_645 rfl ?_
  refine zx_ic C d_LawX_law_646 ?_
  refine zx_iadd C d_LawX_law_647 ?_
  refine zx_sld C hX d_LawX_law_648 (7 * t + 1) (nI_add (7 * t) 1) (by omega) (by omega) ?_
  refine zr_i (zr_V C l_LawX_69 d_LawX_law_649 (As := [_]) rfl rfl (Nat.le_of_ble_eq_true rfl) (c_Tue_laws G ad I Lw g QH QD RI RL (mw G o adm F R) S hA dA hm (xs (7 * t + 1))) 0 zcw_0 rfl ⟨(Nat.le_of_ble_eq_true rfl), (Nat.le_of_ble_eq_true rfl), (by show 65 + 12 * t + 0 ≤ 600000; omega), (by show 15041 + 67 * t + 0 ≤ 7302249; omega)⟩) (fun r1 w1 hw1 => ?_)
  obtain ⟨rfl, hA2, dA2, I2, L2, g2, QH2, QD2, RI2, RL2, rfl, hm2⟩ := hw1
  refine zx_perm wc_perm ?_
  refine zx_aload C d_LawX_law_652 rfl ?_
  refine zx_aload C d_LawX_law_653 rfl ?_
  refine zx_iload C d_LawX_law_654 rfl ?_
  refine zx_ic C d_LawX_law_655 ?_
  refine zx_iadd C d_LawX_law_656 ?_
  refine zx_sld C hX d_LawX_law_657 (7 * t + 1) (nI_add (7 * t) 1) (by omega) (by omega) ?_
  refine zr_i (zr_V C l_LawX_72 d_LawX_law_658 (As := [_]) rfl rfl (Nat.le_of_ble_eq_true rfl) (c_Mod_laws G o adm F R _ S hM _) 0 rfl rfl ⟨(Nat.le_of_ble_eq_true rfl), (Nat.le_of_ble_eq_true rfl), (by show 65 + 12 * t + 0 ≤ 600000; omega), (by show 15041 + 67 * t + 0 ≤ 7302249; omega)⟩) (fun r2 w2 hw2 => ?_)
  obtain ⟨rfl, F2, R2, rfl, hM2⟩ := hw2
  refine zx_perm wc_perm.symm ?_
  refine zx_ic_eq C d_LawX_law_661 (fun _ => ?_) (fun h => absurd (rfl) h)
  refine zx_widen (kc1 := 65 + 12 * (t + 1)) (ks1 := 15041 + 67 * (t + 1)) (by show 65 + 12 * t ≤ _; omega) (by show 15041 + 67 * t ≤ _; omega) ?_
  exact kk _ _ _ _ _ _ _ _ _ _ _ _ hm2 hM2
set_option maxHeartbeats 1000000 in
set_option maxRecDepth 20000 in
theorem cs_14 (C : ZC G Y code "SameTuesdayLaw" nm ret room_1 4) (hX : ZX G Y b L xs) (hL : L ≤ 448) (ht : 7 * t + 7 ≤ L) (hm : crp S hA dA I Lw QH QD RI RL) (hM : mrp S F R) (kk : ∀ (S2 : ZA) (hA2 dA2 : Nat → Nat) (I2 : Nat → Int32) (L2 : Nat → Int64) (g2 : Option Nat) (QH2 QD2 : Nat → Option Nat) (RI2 : Nat → Nat → Int32) (RL2 : Nat → Nat → Int64) (F2 : Nat → Int32) (R2 : Nat → Nat → Int32), crp S2 hA2 dA2 I2 L2 QH2 QD2 RI2 RL2 → mrp S2 F2 R2 → ZV G Y (65 + 12 * (t + 1)) (15041 + 67 * (t + 1)) 1197 [(3, .int (nI (7 * t))), (2, .ref o), (1, .ref (ad 0)), (0, .ref b)] [] (cw G ad I2 L2 g2 none QH2 QD2 RI2 RL2 ++ pw hA2 dA2 (aT S2) (mw G o adm F2 R2))) : ZV G Y (65 + 12 * t) (15041 + 67 * t) 666 [(3, .int (nI (7 * t))), (2, .ref o), (1, .ref (ad 0)), (0, .ref b)] [] (cw G ad I Lw g none QH QD RI RL ++ pw hA dA (aT S) (mw G o adm F R)) := by
  refine zx_aload C d_LawX_law_666 rfl ?_
  refine zr_i (zr_V C l_LawX_73 d_LawX_law_667 (As := []) rfl rfl (Nat.le_of_ble_eq_true rfl) (c_Tue_fewest G ad I Lw g QH QD RI RL (mw G o adm F R) S hA dA hm) 0 zcw_0 rfl ⟨(Nat.le_of_ble_eq_true rfl), (Nat.le_of_ble_eq_true rfl), (by show 65 + 12 * t + 0 ≤ 600000; omega), (by show 15041 + 67 * t + 0 ≤ 7302249; omega)⟩) (fun r1 w1 hw1 => ?_)
  obtain ⟨rfl, hA2, dA2, I2, L2, g2, QH2, QD2, RI2, RL2, rfl, hm2⟩ := hw1
  refine zx_perm wc_perm ?_
  refine zx_aload C d_LawX_law_670 rfl ?_
  refine zr_i (zr_V C l_LawX_77 d_LawX_law_671 (As := []) rfl rfl (Nat.le_of_ble_eq_true rfl) (c_Mod_fewest G o adm F R _ S hM) 0 rfl rfl ⟨(Nat.le_of_ble_eq_true rfl), (Nat.le_of_ble_eq_true rfl), (by show 65 + 12 * t + 0 ≤ 600000; omega), (by show 15041 + 67 * t + 0 ≤ 7302249; omega)⟩) (fun r2 w2 hw2 => ?_)
  obtain ⟨rfl, F2, R2, rfl, hM2⟩ := hw2
  refine zx_perm wc_perm.symm ?_
  refine zx_ic_eq C d_LawX_law_674 (fun _ => ?_) (fun h => absurd (rfl) h)
  refine zx_widen (kc1 := 65 + 12 * (t + 1)) (ks1 := 15041 + 67 * (t + 1)) (by show 65 + 12 * t ≤ _; omega) (by show 15041 + 67 * t ≤ _; omega) ?_
  exact kk _ _ _ _ _ _ _ _ _ _ _ _ hm2 hM2
set_option maxHeartbeats 1000000 in
set_option maxRecDepth 20000 in
theorem cs_15 (C : ZC G Y code "SameTuesdayLaw" nm ret room_1 4) (hX : ZX G Y b L xs) (hL : L ≤ 448) (ht : 7 * t + 7 ≤ L) (hm : crp S hA dA I Lw QH QD RI RL) (hM : mrp S F R) (kk : ∀ (S2 : ZA) (hA2 dA2 : Nat → Nat) (I2 : Nat → Int32) (L2 : Nat → Int64) (g2 : Option Nat) (QH2 QD2 : Nat → Option Nat) (RI2 : Nat → Nat → Int32) (RL2 : Nat → Nat → Int64) (F2 : Nat → Int32) (R2 : Nat → Nat → Int32), crp S2 hA2 dA2 I2 L2 QH2 QD2 RI2 RL2 → mrp S2 F2 R2 → ZV G Y (65 + 12 * (t + 1)) (15041 + 67 * (t + 1)) 1197 [(3, .int (nI (7 * t))), (2, .ref o), (1, .ref (ad 0)), (0, .ref b)] [] (cw G ad I2 L2 g2 none QH2 QD2 RI2 RL2 ++ pw hA2 dA2 (aT S2) (mw G o adm F2 R2))) : ZV G Y (65 + 12 * t) (15041 + 67 * t) 679 [(3, .int (nI (7 * t))), (2, .ref o), (1, .ref (ad 0)), (0, .ref b)] [] (cw G ad I Lw g none QH QD RI RL ++ pw hA dA (aT S) (mw G o adm F R)) := by
  refine zx_aload C d_LawX_law_679 rfl ?_
  refine zx_aload C d_LawX_law_680 rfl ?_
  refine zx_iload C d_LawX_law_681 rfl ?_
  refine zx_ic C d_LawX_law_682 ?_
  refine zx_iadd C d_LawX_law_683 ?_
  refine zx_sld C hX d_LawX_law_684 (7 * t + 1) (nI_add (7 * t) 1) (by omega) (by omega) ?_
  refine zr_i (zr_V C l_LawX_78 d_LawX_law_685 (As := [_]) rfl rfl (Nat.le_of_ble_eq_true rfl) (c_Tue_next G ad I Lw g QH QD RI RL (mw G o adm F R) S hA dA hm (xs (7 * t + 1))) 0 zcw_0 rfl ⟨(Nat.le_of_ble_eq_true rfl), (Nat.le_of_ble_eq_true rfl), (by show 65 + 12 * t + 0 ≤ 600000; omega), (by show 15041 + 67 * t + 0 ≤ 7302249; omega)⟩) (fun r1 w1 hw1 => ?_)
  obtain ⟨rfl, hA2, dA2, I2, L2, g2, QH2, QD2, RI2, RL2, rfl, hm2⟩ := hw1
  refine zx_perm wc_perm ?_
  refine zx_aload C d_LawX_law_688 rfl ?_
  refine zx_aload C d_LawX_law_689 rfl ?_
  refine zx_iload C d_LawX_law_690 rfl ?_
  refine zx_ic C d_LawX_law_691 ?_
  refine zx_iadd C d_LawX_law_692 ?_
  refine zx_sld C hX d_LawX_law_693 (7 * t + 1) (nI_add (7 * t) 1) (by omega) (by omega) ?_
  refine zr_i (zr_V C l_LawX_81 d_LawX_law_694 (As := [_]) rfl rfl (Nat.le_of_ble_eq_true rfl) (c_Mod_next G o adm F R _ S hM _) 0 rfl rfl ⟨(Nat.le_of_ble_eq_true rfl), (Nat.le_of_ble_eq_true rfl), (by show 65 + 12 * t + 0 ≤ 600000; omega), (by show 15041 + 67 * t + 0 ≤ 7302249; omega)⟩) (fun r2 w2 hw2 => ?_)
  obtain ⟨rfl, F2, R2, rfl, hM2⟩ := hw2
  refine zx_perm wc_perm.symm ?_
  refine zx_ic_eq C d_LawX_law_697 (fun _ => ?_) (fun h => absurd (rfl) h)
  refine zx_widen (kc1 := 65 + 12 * (t + 1)) (ks1 := 15041 + 67 * (t + 1)) (by show 65 + 12 * t ≤ _; omega) (by show 15041 + 67 * t ≤ _; omega) ?_
  exact kk _ _ _ _ _ _ _ _ _ _ _ _ hm2 hM2
set_option maxHeartbeats 1000000 in
set_option maxRecDepth 20000 in
theorem cs_16 (C : ZC G Y code "SameTuesdayLaw" nm ret room_1 4) (hX : ZX G Y b L xs) (hL : L ≤ 448) (ht : 7 * t + 7 ≤ L) (hm : crp S hA dA I Lw QH QD RI RL) (hM : mrp S F R) (kk : ∀ (S2 : ZA) (hA2 dA2 : Nat → Nat) (I2 : Nat → Int32) (L2 : Nat → Int64) (g2 : Option Nat) (QH2 QD2 : Nat → Option Nat) (RI2 : Nat → Nat → Int32) (RL2 : Nat → Nat → Int64) (F2 : Nat → Int32) (R2 : Nat → Nat → Int32), crp S2 hA2 dA2 I2 L2 QH2 QD2 RI2 RL2 → mrp S2 F2 R2 → ZV G Y (65 + 12 * (t + 1)) (15041 + 67 * (t + 1)) 1197 [(3, .int (nI (7 * t))), (2, .ref o), (1, .ref (ad 0)), (0, .ref b)] [] (cw G ad I2 L2 g2 none QH2 QD2 RI2 RL2 ++ pw hA2 dA2 (aT S2) (mw G o adm F2 R2))) : ZV G Y (65 + 12 * t) (15041 + 67 * t) 702 [(3, .int (nI (7 * t))), (2, .ref o), (1, .ref (ad 0)), (0, .ref b)] [] (cw G ad I Lw g none QH QD RI RL ++ pw hA dA (aT S) (mw G o adm F R)) := by
  refine zx_aload C d_LawX_law_702 rfl ?_
  refine zx_aload C d_LawX_law_703 rfl ?_
  refine zx_iload C d_LawX_law_704 rfl ?_
  refine zx_ic C d_LawX_law_705 ?_
  refine zx_iadd C d_LawX_law_706 ?_
  refine zx_sld C hX d_LawX_law_707 (7 * t + 1) (nI_add (7 * t) 1) (by omega) (by omega) ?_
  refine zx_aload C d_LawX_law_708 rfl ?_
  refine zx_iload C d_LawX_law_709 rfl ?_
  refine zx_ic C d_LawX_law_710 ?_
  refine zx_iadd C d_LawX_law_711 ?_
  refine zx_sld C hX d_LawX_law_712 (7 * t + 2) (nI_add (7 * t) 2) (by omega) (by omega) ?_
  refine zx_aload C d_LawX_law_713 rfl ?_
  refine zx_iload C d_LawX_law_714 rfl ?_
  refine zx_ic C d_LawX_law_715 ?_
  refine zx_iadd C d_LawX_law_716 ?_
  refine zx_sld C hX d_LawX_law_717 (7 * t + 3) (nI_add (7 * t) 3) (by omega) (by omega) ?_
  refine zx_aload C d_LawX_law_718 rfl ?_
  refine zx_iload C d_LawX_law_719 rfl ?_
  refine zx_ic C d_LawX_law_720 ?_
  refine zx_iadd C d_LawX_law_721 ?_
  refine zx_sld C hX d_LawX_law_722 (7 * t + 4) (nI_add (7 * t) 4) (by omega) (by omega) ?_
  refine zx_aload C d_LawX_law_723 rfl ?_
  refine zx_iload C d_LawX_law_724 rfl ?_
  refine zx_ic C d_LawX_law_725 ?_
  refine zx_iadd C d_LawX_law_726 ?_
  refine zx_sld C hX d_LawX_law_727 (7 * t + 5) (nI_add (7 * t) 5) (by omega) (by omega) ?_
  refine zx_aload C d_LawX_law_728 rfl ?_
  refine zx_iload C d_LawX_law_729 rfl ?_
  refine zx_ic C d_LawX_law_730 ?_
  refine zx_iadd C d_LawX_law_732 ?_
  refine zx_sld C hX d_LawX_law_733 (7 * t + 6) (nI_add (7 * t) 6) (by omega) (by omega) ?_
  refine zr_i (zr_V C l_LawX_82 d_LawX_law_734 (As := [_, _, _, _, _, _]) rfl rfl (Nat.le_of_ble_eq_true rfl) (c_Tue_others G ad I Lw g QH QD RI RL (mw G o adm F R) S hA dA hm (xs (7 * t + 1)) (xs (7 * t + 2)) (xs (7 * t + 3)) (xs (7 * t + 4)) (xs (7 * t + 5)) (xs (7 * t + 6))) 0 zcw_0 rfl ⟨(Nat.le_of_ble_eq_true rfl), (Nat.le_of_ble_eq_true rfl), (by show 65 + 12 * t + 0 ≤ 600000; omega), (by show 15041 + 67 * t + 0 ≤ 7302249; omega)⟩) (fun r1 w1 hw1 => ?_)
  obtain ⟨rfl, hA2, dA2, I2, L2, g2, QH2, QD2, RI2, RL2, rfl, hm2⟩ := hw1
  refine zx_perm wc_perm ?_
  refine zx_aload C d_LawX_law_737 rfl ?_
  refine zx_aload C d_LawX_law_738 rfl ?_
  refine zx_iload C d_LawX_law_739 rfl ?_
  refine zx_ic C d_LawX_law_740 ?_
  refine zx_iadd C d_LawX_law_741 ?_
  refine zx_sld C hX d_LawX_law_742 (7 * t + 1) (nI_add (7 * t) 1) (by omega) (by omega) ?_
  refine zx_aload C d_LawX_law_743 rfl ?_
  refine zx_iload C d_LawX_law_744 rfl ?_
  refine zx_ic C d_LawX_law_745 ?_
  refine zx_iadd C d_LawX_law_746 ?_
  refine zx_sld C hX d_LawX_law_747 (7 * t + 2) (nI_add (7 * t) 2) (by omega) (by omega) ?_
  refine zx_aload C d_LawX_law_748 rfl ?_
  refine zx_iload C d_LawX_law_749 rfl ?_
  refine zx_ic C d_LawX_law_750 ?_
  refine zx_iadd C d_LawX_law_751 ?_
  refine zx_sld C hX d_LawX_law_752 (7 * t + 3) (nI_add (7 * t) 3) (by omega) (by omega) ?_
  refine zx_aload C d_LawX_law_753 rfl ?_
  refine zx_iload C d_LawX_law_754 rfl ?_
  refine zx_ic C d_LawX_law_755 ?_
  refine zx_iadd C d_LawX_law_756 ?_
  refine zx_sld C hX d_LawX_law_757 (7 * t + 4) (nI_add (7 * t) 4) (by omega) (by omega) ?_
  refine zx_aload C d_LawX_law_758 rfl ?_
  refine zx_iload C d_LawX_law_759 rfl ?_
  refine zx_ic C d_LawX_law_760 ?_
  refine zx_iadd C d_LawX_law_761 ?_
  refine zx_sld C hX d_LawX_law_762 (7 * t + 5) (nI_add (7 * t) 5) (by omega) (by omega) ?_
  refine zx_aload C d_LawX_law_763 rfl ?_
  refine zx_iload C d_LawX_law_764 rfl ?_
  refine zx_ic C d_LawX_law_765 ?_
  refine zx_iadd C d_LawX_law_767 ?_
  refine zx_sld C hX d_LawX_law_768 (7 * t + 6) (nI_add (7 * t) 6) (by omega) (by omega) ?_
  refine zr_i (zr_V C l_LawX_86 d_LawX_law_769 (As := [_, _, _, _, _, _]) rfl rfl (Nat.le_of_ble_eq_true rfl) (c_Mod_others G o adm F R _ S hM _ _ _ _ _ _) 0 rfl rfl ⟨(Nat.le_of_ble_eq_true rfl), (Nat.le_of_ble_eq_true rfl), (by show 65 + 12 * t + 0 ≤ 600000; omega), (by show 15041 + 67 * t + 0 ≤ 7302249; omega)⟩) (fun r2 w2 hw2 => ?_)
  obtain ⟨rfl, F2, R2, rfl, hM2⟩ := hw2
  refine zx_perm wc_perm.symm ?_
  refine zx_ic_eq C d_LawX_law_772 (fun _ => ?_) (fun h => absurd (rfl) h)
  refine zx_widen (kc1 := 65 + 12 * (t + 1)) (ks1 := 15041 + 67 * (t + 1)) (by show 65 + 12 * t ≤ _; omega) (by show 15041 + 67 * t ≤ _; omega) ?_
  exact kk _ _ _ _ _ _ _ _ _ _ _ _ hm2 hM2
set_option maxHeartbeats 1000000 in
set_option maxRecDepth 20000 in
theorem cs_17 (C : ZC G Y code "SameTuesdayLaw" nm ret room_1 4) (hX : ZX G Y b L xs) (hL : L ≤ 448) (ht : 7 * t + 7 ≤ L) (hm : crp S hA dA I Lw QH QD RI RL) (hM : mrp S F R) (kk : ∀ (S2 : ZA) (hA2 dA2 : Nat → Nat) (I2 : Nat → Int32) (L2 : Nat → Int64) (g2 : Option Nat) (QH2 QD2 : Nat → Option Nat) (RI2 : Nat → Nat → Int32) (RL2 : Nat → Nat → Int64) (F2 : Nat → Int32) (R2 : Nat → Nat → Int32), crp S2 hA2 dA2 I2 L2 QH2 QD2 RI2 RL2 → mrp S2 F2 R2 → ZV G Y (65 + 12 * (t + 1)) (15041 + 67 * (t + 1)) 1197 [(3, .int (nI (7 * t))), (2, .ref o), (1, .ref (ad 0)), (0, .ref b)] [] (cw G ad I2 L2 g2 none QH2 QD2 RI2 RL2 ++ pw hA2 dA2 (aT S2) (mw G o adm F2 R2))) : ZV G Y (65 + 12 * t) (15041 + 67 * t) 777 [(3, .int (nI (7 * t))), (2, .ref o), (1, .ref (ad 0)), (0, .ref b)] [] (cw G ad I Lw g none QH QD RI RL ++ pw hA dA (aT S) (mw G o adm F R)) := by
  refine zx_aload C d_LawX_law_777 rfl ?_
  refine zx_aload C d_LawX_law_778 rfl ?_
  refine zx_iload C d_LawX_law_779 rfl ?_
  refine zx_ic C d_LawX_law_780 ?_
  refine zx_iadd C d_LawX_law_781 ?_
  refine zx_sld C hX d_LawX_law_782 (7 * t + 1) (nI_add (7 * t) 1) (by omega) (by omega) ?_
  refine zx_aload C d_LawX_law_783 rfl ?_
  refine zx_iload C d_LawX_law_784 rfl ?_
  refine zx_ic C d_LawX_law_785 ?_
  refine zx_iadd C d_LawX_law_786 ?_
  refine zx_sld C hX d_LawX_law_787 (7 * t + 2) (nI_add (7 * t) 2) (by omega) (by omega) ?_
  refine zx_aload C d_LawX_law_788 rfl ?_
  refine zx_iload C d_LawX_law_789 rfl ?_
  refine zx_ic C d_LawX_law_790 ?_
  refine zx_iadd C d_LawX_law_791 ?_
  refine zx_sld C hX d_LawX_law_792 (7 * t + 3) (nI_add (7 * t) 3) (by omega) (by omega) ?_
  refine zx_aload C d_LawX_law_793 rfl ?_
  refine zx_iload C d_LawX_law_794 rfl ?_
  refine zx_ic C d_LawX_law_795 ?_
  refine zx_iadd C d_LawX_law_796 ?_
  refine zx_sld C hX d_LawX_law_797 (7 * t + 4) (nI_add (7 * t) 4) (by omega) (by omega) ?_
  refine zx_aload C d_LawX_law_798 rfl ?_
  refine zx_iload C d_LawX_law_799 rfl ?_
  refine zx_ic C d_LawX_law_800 ?_
  refine zx_iadd C d_LawX_law_801 ?_
  refine zx_sld C hX d_LawX_law_802 (7 * t + 5) (nI_add (7 * t) 5) (by omega) (by omega) ?_
  refine zx_aload C d_LawX_law_803 rfl ?_
  refine zx_iload C d_LawX_law_804 rfl ?_
  refine zx_ic C d_LawX_law_805 ?_
  refine zx_iadd C d_LawX_law_807 ?_
  refine zx_sld C hX d_LawX_law_808 (7 * t + 6) (nI_add (7 * t) 6) (by omega) (by omega) ?_
  refine zr_l (zr_V C l_LawX_87 d_LawX_law_809 (As := [_, _, _, _, _, _]) rfl rfl (Nat.le_of_ble_eq_true rfl) (c_Tue_odds G ad I Lw g QH QD RI RL (mw G o adm F R) S hA dA hm (xs (7 * t + 1)) (xs (7 * t + 2)) (xs (7 * t + 3)) (xs (7 * t + 4)) (xs (7 * t + 5)) (xs (7 * t + 6))) 0 zcw_0 rfl ⟨(Nat.le_of_ble_eq_true rfl), (Nat.le_of_ble_eq_true rfl), (by show 65 + 12 * t + 0 ≤ 600000; omega), (by show 15041 + 67 * t + 0 ≤ 7302249; omega)⟩) (fun r1 w1 hw1 => ?_)
  obtain ⟨rfl, hA2, dA2, I2, L2, g2, QH2, QD2, RI2, RL2, rfl, hm2⟩ := hw1
  refine zx_perm wc_perm ?_
  refine zx_aload C d_LawX_law_812 rfl ?_
  refine zx_aload C d_LawX_law_813 rfl ?_
  refine zx_iload C d_LawX_law_814 rfl ?_
  refine zx_ic C d_LawX_law_815 ?_
  refine zx_iadd C d_LawX_law_816 ?_
  refine zx_sld C hX d_LawX_law_817 (7 * t + 1) (nI_add (7 * t) 1) (by omega) (by omega) ?_
  refine zx_aload C d_LawX_law_818 rfl ?_
  refine zx_iload C d_LawX_law_819 rfl ?_
  refine zx_ic C d_LawX_law_820 ?_
  refine zx_iadd C d_LawX_law_821 ?_
  refine zx_sld C hX d_LawX_law_822 (7 * t + 2) (nI_add (7 * t) 2) (by omega) (by omega) ?_
  refine zx_aload C d_LawX_law_823 rfl ?_
  refine zx_iload C d_LawX_law_824 rfl ?_
  refine zx_ic C d_LawX_law_825 ?_
  refine zx_iadd C d_LawX_law_826 ?_
  refine zx_sld C hX d_LawX_law_827 (7 * t + 3) (nI_add (7 * t) 3) (by omega) (by omega) ?_
  refine zx_aload C d_LawX_law_828 rfl ?_
  refine zx_iload C d_LawX_law_829 rfl ?_
  refine zx_ic C d_LawX_law_830 ?_
  refine zx_iadd C d_LawX_law_831 ?_
  refine zx_sld C hX d_LawX_law_832 (7 * t + 4) (nI_add (7 * t) 4) (by omega) (by omega) ?_
  refine zx_aload C d_LawX_law_833 rfl ?_
  refine zx_iload C d_LawX_law_834 rfl ?_
  refine zx_ic C d_LawX_law_835 ?_
  refine zx_iadd C d_LawX_law_836 ?_
  refine zx_sld C hX d_LawX_law_837 (7 * t + 5) (nI_add (7 * t) 5) (by omega) (by omega) ?_
  refine zx_aload C d_LawX_law_838 rfl ?_
  refine zx_iload C d_LawX_law_839 rfl ?_
  refine zx_ic C d_LawX_law_840 ?_
  refine zx_iadd C d_LawX_law_842 ?_
  refine zx_sld C hX d_LawX_law_843 (7 * t + 6) (nI_add (7 * t) 6) (by omega) (by omega) ?_
  refine zr_l (zr_V C l_LawX_91 d_LawX_law_844 (As := [_, _, _, _, _, _]) rfl rfl (Nat.le_of_ble_eq_true rfl) (c_Mod_odds G o adm F R _ S hM _ _ _ _ _ _) 0 rfl rfl ⟨(Nat.le_of_ble_eq_true rfl), (Nat.le_of_ble_eq_true rfl), (by show 65 + 12 * t + 0 ≤ 600000; omega), (by show 15041 + 67 * t + 0 ≤ 7302249; omega)⟩) (fun r2 w2 hw2 => ?_)
  obtain ⟨rfl, F2, R2, rfl, hM2⟩ := hw2
  refine zx_perm wc_perm.symm ?_
  refine zx_lcmp C d_LawX_law_847 ?_
  refine zx_if_eq C d_LawX_law_848 (fun _ => ?_) (fun h => absurd (lg_cmp0.mpr rfl) h)
  refine zx_widen (kc1 := 65 + 12 * (t + 1)) (ks1 := 15041 + 67 * (t + 1)) (by show 65 + 12 * t ≤ _; omega) (by show 15041 + 67 * t ≤ _; omega) ?_
  exact kk _ _ _ _ _ _ _ _ _ _ _ _ hm2 hM2
set_option maxHeartbeats 1000000 in
set_option maxRecDepth 20000 in
theorem cs_18 (C : ZC G Y code "SameTuesdayLaw" nm ret room_1 4) (hX : ZX G Y b L xs) (hL : L ≤ 448) (ht : 7 * t + 7 ≤ L) (hm : crp S hA dA I Lw QH QD RI RL) (hM : mrp S F R) (kk : ∀ (S2 : ZA) (hA2 dA2 : Nat → Nat) (I2 : Nat → Int32) (L2 : Nat → Int64) (g2 : Option Nat) (QH2 QD2 : Nat → Option Nat) (RI2 : Nat → Nat → Int32) (RL2 : Nat → Nat → Int64) (F2 : Nat → Int32) (R2 : Nat → Nat → Int32), crp S2 hA2 dA2 I2 L2 QH2 QD2 RI2 RL2 → mrp S2 F2 R2 → ZV G Y (65 + 12 * (t + 1)) (15041 + 67 * (t + 1)) 1197 [(3, .int (nI (7 * t))), (2, .ref o), (1, .ref (ad 0)), (0, .ref b)] [] (cw G ad I2 L2 g2 none QH2 QD2 RI2 RL2 ++ pw hA2 dA2 (aT S2) (mw G o adm F2 R2))) : ZV G Y (65 + 12 * t) (15041 + 67 * t) 853 [(3, .int (nI (7 * t))), (2, .ref o), (1, .ref (ad 0)), (0, .ref b)] [] (cw G ad I Lw g none QH QD RI RL ++ pw hA dA (aT S) (mw G o adm F R)) := by
  refine zx_aload C d_LawX_law_853 rfl ?_
  refine zx_aload C d_LawX_law_854 rfl ?_
  refine zx_iload C d_LawX_law_855 rfl ?_
  refine zx_ic C d_LawX_law_856 ?_
  refine zx_iadd C d_LawX_law_857 ?_
  refine zx_sld C hX d_LawX_law_858 (7 * t + 1) (nI_add (7 * t) 1) (by omega) (by omega) ?_
  refine zx_aload C d_LawX_law_859 rfl ?_
  refine zx_iload C d_LawX_law_860 rfl ?_
  refine zx_ic C d_LawX_law_861 ?_
  refine zx_iadd C d_LawX_law_862 ?_
  refine zx_sld C hX d_LawX_law_863 (7 * t + 2) (nI_add (7 * t) 2) (by omega) (by omega) ?_
  refine zx_aload C d_LawX_law_864 rfl ?_
  refine zx_iload C d_LawX_law_865 rfl ?_
  refine zx_ic C d_LawX_law_866 ?_
  refine zx_iadd C d_LawX_law_867 ?_
  refine zx_sld C hX d_LawX_law_868 (7 * t + 3) (nI_add (7 * t) 3) (by omega) (by omega) ?_
  refine zr_i (zr_V C l_LawX_92 d_LawX_law_869 (As := [_, _, _]) rfl rfl (Nat.le_of_ble_eq_true rfl) (c_Tue_sheet G ad I Lw g QH QD RI RL (mw G o adm F R) S hA dA hm (xs (7 * t + 1)) (xs (7 * t + 2)) (xs (7 * t + 3))) 0 zcw_0 rfl ⟨(Nat.le_of_ble_eq_true rfl), (Nat.le_of_ble_eq_true rfl), (by show 65 + 12 * t + 0 ≤ 600000; omega), (by show 15041 + 67 * t + 0 ≤ 7302249; omega)⟩) (fun r1 w1 hw1 => ?_)
  obtain ⟨rfl, hA2, dA2, I2, L2, g2, QH2, QD2, RI2, RL2, rfl, hm2⟩ := hw1
  refine zx_perm wc_perm ?_
  refine zx_aload C d_LawX_law_872 rfl ?_
  refine zx_aload C d_LawX_law_873 rfl ?_
  refine zx_iload C d_LawX_law_874 rfl ?_
  refine zx_ic C d_LawX_law_875 ?_
  refine zx_iadd C d_LawX_law_876 ?_
  refine zx_sld C hX d_LawX_law_877 (7 * t + 1) (nI_add (7 * t) 1) (by omega) (by omega) ?_
  refine zx_aload C d_LawX_law_878 rfl ?_
  refine zx_iload C d_LawX_law_879 rfl ?_
  refine zx_ic C d_LawX_law_880 ?_
  refine zx_iadd C d_LawX_law_881 ?_
  refine zx_sld C hX d_LawX_law_882 (7 * t + 2) (nI_add (7 * t) 2) (by omega) (by omega) ?_
  refine zx_aload C d_LawX_law_883 rfl ?_
  refine zx_iload C d_LawX_law_884 rfl ?_
  refine zx_ic C d_LawX_law_885 ?_
  refine zx_iadd C d_LawX_law_886 ?_
  refine zx_sld C hX d_LawX_law_887 (7 * t + 3) (nI_add (7 * t) 3) (by omega) (by omega) ?_
  refine zr_i (zr_V C l_LawX_96 d_LawX_law_888 (As := [_, _, _]) rfl rfl (Nat.le_of_ble_eq_true rfl) (c_Mod_sheet G o adm F R _ S hM _ _ _) 0 rfl rfl ⟨(Nat.le_of_ble_eq_true rfl), (Nat.le_of_ble_eq_true rfl), (by show 65 + 12 * t + 0 ≤ 600000; omega), (by show 15041 + 67 * t + 0 ≤ 7302249; omega)⟩) (fun r2 w2 hw2 => ?_)
  obtain ⟨rfl, F2, R2, rfl, hM2⟩ := hw2
  refine zx_perm wc_perm.symm ?_
  refine zx_ic_eq C d_LawX_law_891 (fun _ => ?_) (fun h => absurd (rfl) h)
  refine zx_widen (kc1 := 65 + 12 * (t + 1)) (ks1 := 15041 + 67 * (t + 1)) (by show 65 + 12 * t ≤ _; omega) (by show 15041 + 67 * t ≤ _; omega) ?_
  exact kk _ _ _ _ _ _ _ _ _ _ _ _ hm2 hM2
set_option maxHeartbeats 1000000 in
set_option maxRecDepth 20000 in
theorem cs_19 (C : ZC G Y code "SameTuesdayLaw" nm ret room_1 4) (hX : ZX G Y b L xs) (hL : L ≤ 448) (ht : 7 * t + 7 ≤ L) (hm : crp S hA dA I Lw QH QD RI RL) (hM : mrp S F R) (kk : ∀ (S2 : ZA) (hA2 dA2 : Nat → Nat) (I2 : Nat → Int32) (L2 : Nat → Int64) (g2 : Option Nat) (QH2 QD2 : Nat → Option Nat) (RI2 : Nat → Nat → Int32) (RL2 : Nat → Nat → Int64) (F2 : Nat → Int32) (R2 : Nat → Nat → Int32), crp S2 hA2 dA2 I2 L2 QH2 QD2 RI2 RL2 → mrp S2 F2 R2 → ZV G Y (65 + 12 * (t + 1)) (15041 + 67 * (t + 1)) 1197 [(3, .int (nI (7 * t))), (2, .ref o), (1, .ref (ad 0)), (0, .ref b)] [] (cw G ad I2 L2 g2 none QH2 QD2 RI2 RL2 ++ pw hA2 dA2 (aT S2) (mw G o adm F2 R2))) : ZV G Y (65 + 12 * t) (15041 + 67 * t) 896 [(3, .int (nI (7 * t))), (2, .ref o), (1, .ref (ad 0)), (0, .ref b)] [] (cw G ad I Lw g none QH QD RI RL ++ pw hA dA (aT S) (mw G o adm F R)) := by
  refine zx_aload C d_LawX_law_896 rfl ?_
  refine zx_aload C d_LawX_law_897 rfl ?_
  refine zx_iload C d_LawX_law_898 rfl ?_
  refine zx_ic C d_LawX_law_899 ?_
  refine zx_iadd C d_LawX_law_900 ?_
  refine zx_sld C hX d_LawX_law_901 (7 * t + 1) (nI_add (7 * t) 1) (by omega) (by omega) ?_
  refine zr_i (zr_V C l_LawX_97 d_LawX_law_902 (As := [_]) rfl rfl (Nat.le_of_ble_eq_true rfl) (c_Tue_lose G ad I Lw g QH QD RI RL (mw G o adm F R) S hA dA hm (xs (7 * t + 1))) 0 zcw_0 rfl ⟨(Nat.le_of_ble_eq_true rfl), (Nat.le_of_ble_eq_true rfl), (by show 65 + 12 * t + 0 ≤ 600000; omega), (by show 15041 + 67 * t + 0 ≤ 7302249; omega)⟩) (fun r1 w1 hw1 => ?_)
  obtain ⟨rfl, hA2, dA2, I2, L2, g2, QH2, QD2, RI2, RL2, rfl, hm2⟩ := hw1
  refine zx_perm wc_perm ?_
  refine zx_aload C d_LawX_law_905 rfl ?_
  refine zx_aload C d_LawX_law_906 rfl ?_
  refine zx_iload C d_LawX_law_907 rfl ?_
  refine zx_ic C d_LawX_law_908 ?_
  refine zx_iadd C d_LawX_law_909 ?_
  refine zx_sld C hX d_LawX_law_910 (7 * t + 1) (nI_add (7 * t) 1) (by omega) (by omega) ?_
  refine zr_i (zr_V C l_LawX_100 d_LawX_law_911 (As := [_]) rfl rfl (Nat.le_of_ble_eq_true rfl) (c_Mod_lose G o adm F R _ S hM _) 0 rfl rfl ⟨(Nat.le_of_ble_eq_true rfl), (Nat.le_of_ble_eq_true rfl), (by show 65 + 12 * t + 0 ≤ 600000; omega), (by show 15041 + 67 * t + 0 ≤ 7302249; omega)⟩) (fun r2 w2 hw2 => ?_)
  obtain ⟨rfl, F2, R2, rfl, hM2⟩ := hw2
  refine zx_perm wc_perm.symm ?_
  refine zx_ic_eq C d_LawX_law_914 (fun _ => ?_) (fun h => absurd (rfl) h)
  refine zx_widen (kc1 := 65 + 12 * (t + 1)) (ks1 := 15041 + 67 * (t + 1)) (by show 65 + 12 * t ≤ _; omega) (by show 15041 + 67 * t ≤ _; omega) ?_
  exact kk _ _ _ _ _ _ _ _ _ _ _ _ hm2 hM2
set_option maxHeartbeats 1000000 in
set_option maxRecDepth 20000 in
theorem cs_20 (C : ZC G Y code "SameTuesdayLaw" nm ret room_1 4) (hX : ZX G Y b L xs) (hL : L ≤ 448) (ht : 7 * t + 7 ≤ L) (hm : crp S hA dA I Lw QH QD RI RL) (hM : mrp S F R) (kk : ∀ (S2 : ZA) (hA2 dA2 : Nat → Nat) (I2 : Nat → Int32) (L2 : Nat → Int64) (g2 : Option Nat) (QH2 QD2 : Nat → Option Nat) (RI2 : Nat → Nat → Int32) (RL2 : Nat → Nat → Int64) (F2 : Nat → Int32) (R2 : Nat → Nat → Int32), crp S2 hA2 dA2 I2 L2 QH2 QD2 RI2 RL2 → mrp S2 F2 R2 → ZV G Y (65 + 12 * (t + 1)) (15041 + 67 * (t + 1)) 1197 [(3, .int (nI (7 * t))), (2, .ref o), (1, .ref (ad 0)), (0, .ref b)] [] (cw G ad I2 L2 g2 none QH2 QD2 RI2 RL2 ++ pw hA2 dA2 (aT S2) (mw G o adm F2 R2))) : ZV G Y (65 + 12 * t) (15041 + 67 * t) 919 [(3, .int (nI (7 * t))), (2, .ref o), (1, .ref (ad 0)), (0, .ref b)] [] (cw G ad I Lw g none QH QD RI RL ++ pw hA dA (aT S) (mw G o adm F R)) := by
  refine zx_aload C d_LawX_law_919 rfl ?_
  refine zx_aload C d_LawX_law_920 rfl ?_
  refine zx_iload C d_LawX_law_921 rfl ?_
  refine zx_ic C d_LawX_law_922 ?_
  refine zx_iadd C d_LawX_law_923 ?_
  refine zx_sld C hX d_LawX_law_924 (7 * t + 1) (nI_add (7 * t) 1) (by omega) (by omega) ?_
  refine zx_aload C d_LawX_law_925 rfl ?_
  refine zx_iload C d_LawX_law_926 rfl ?_
  refine zx_ic C d_LawX_law_927 ?_
  refine zx_iadd C d_LawX_law_928 ?_
  refine zx_sld C hX d_LawX_law_929 (7 * t + 2) (nI_add (7 * t) 2) (by omega) (by omega) ?_
  refine zx_aload C d_LawX_law_930 rfl ?_
  refine zx_iload C d_LawX_law_931 rfl ?_
  refine zx_ic C d_LawX_law_932 ?_
  refine zx_iadd C d_LawX_law_933 ?_
  refine zx_sld C hX d_LawX_law_934 (7 * t + 3) (nI_add (7 * t) 3) (by omega) (by omega) ?_
  refine zr_i (zr_V C l_LawX_101 d_LawX_law_935 (As := [_, _, _]) rfl rfl (Nat.le_of_ble_eq_true rfl) (c_Tue_put G ad I Lw g QH QD RI RL (mw G o adm F R) S hA dA hm (xs (7 * t + 1)) (xs (7 * t + 2)) (xs (7 * t + 3))) 0 zcw_0 rfl ⟨(Nat.le_of_ble_eq_true rfl), (Nat.le_of_ble_eq_true rfl), (by show 65 + 12 * t + 0 ≤ 600000; omega), (by show 15041 + 67 * t + 0 ≤ 7302249; omega)⟩) (fun r1 w1 hw1 => ?_)
  obtain ⟨rfl, hA2, dA2, I2, L2, g2, QH2, QD2, RI2, RL2, rfl, hm2⟩ := hw1
  refine zx_perm wc_perm ?_
  refine zx_aload C d_LawX_law_938 rfl ?_
  refine zx_aload C d_LawX_law_939 rfl ?_
  refine zx_iload C d_LawX_law_940 rfl ?_
  refine zx_ic C d_LawX_law_941 ?_
  refine zx_iadd C d_LawX_law_942 ?_
  refine zx_sld C hX d_LawX_law_943 (7 * t + 1) (nI_add (7 * t) 1) (by omega) (by omega) ?_
  refine zx_aload C d_LawX_law_944 rfl ?_
  refine zx_iload C d_LawX_law_945 rfl ?_
  refine zx_ic C d_LawX_law_946 ?_
  refine zx_iadd C d_LawX_law_947 ?_
  refine zx_sld C hX d_LawX_law_948 (7 * t + 2) (nI_add (7 * t) 2) (by omega) (by omega) ?_
  refine zx_aload C d_LawX_law_949 rfl ?_
  refine zx_iload C d_LawX_law_950 rfl ?_
  refine zx_ic C d_LawX_law_951 ?_
  refine zx_iadd C d_LawX_law_952 ?_
  refine zx_sld C hX d_LawX_law_953 (7 * t + 3) (nI_add (7 * t) 3) (by omega) (by omega) ?_
  refine zr_i (zr_V C l_LawX_104 d_LawX_law_954 (As := [_, _, _]) rfl rfl (Nat.le_of_ble_eq_true rfl) (c_Mod_put G o adm F R _ S hM _ _ _) 0 rfl rfl ⟨(Nat.le_of_ble_eq_true rfl), (Nat.le_of_ble_eq_true rfl), (by show 65 + 12 * t + 0 ≤ 600000; omega), (by show 15041 + 67 * t + 0 ≤ 7302249; omega)⟩) (fun r2 w2 hw2 => ?_)
  obtain ⟨rfl, F2, R2, rfl, hM2⟩ := hw2
  refine zx_perm wc_perm.symm ?_
  refine zx_ic_eq C d_LawX_law_957 (fun _ => ?_) (fun h => absurd (rfl) h)
  refine zx_widen (kc1 := 65 + 12 * (t + 1)) (ks1 := 15041 + 67 * (t + 1)) (by show 65 + 12 * t ≤ _; omega) (by show 15041 + 67 * t ≤ _; omega) ?_
  exact kk _ _ _ _ _ _ _ _ _ _ _ _ hm2 hM2
set_option maxHeartbeats 1000000 in
set_option maxRecDepth 20000 in
theorem cs_21 (C : ZC G Y code "SameTuesdayLaw" nm ret room_1 4) (hX : ZX G Y b L xs) (hL : L ≤ 448) (ht : 7 * t + 7 ≤ L) (hm : crp S hA dA I Lw QH QD RI RL) (hM : mrp S F R) (kk : ∀ (S2 : ZA) (hA2 dA2 : Nat → Nat) (I2 : Nat → Int32) (L2 : Nat → Int64) (g2 : Option Nat) (QH2 QD2 : Nat → Option Nat) (RI2 : Nat → Nat → Int32) (RL2 : Nat → Nat → Int64) (F2 : Nat → Int32) (R2 : Nat → Nat → Int32), crp S2 hA2 dA2 I2 L2 QH2 QD2 RI2 RL2 → mrp S2 F2 R2 → ZV G Y (65 + 12 * (t + 1)) (15041 + 67 * (t + 1)) 1197 [(3, .int (nI (7 * t))), (2, .ref o), (1, .ref (ad 0)), (0, .ref b)] [] (cw G ad I2 L2 g2 none QH2 QD2 RI2 RL2 ++ pw hA2 dA2 (aT S2) (mw G o adm F2 R2))) : ZV G Y (65 + 12 * t) (15041 + 67 * t) 962 [(3, .int (nI (7 * t))), (2, .ref o), (1, .ref (ad 0)), (0, .ref b)] [] (cw G ad I Lw g none QH QD RI RL ++ pw hA dA (aT S) (mw G o adm F R)) := by
  refine zx_aload C d_LawX_law_962 rfl ?_
  refine zx_aload C d_LawX_law_963 rfl ?_
  refine zx_iload C d_LawX_law_964 rfl ?_
  refine zx_ic C d_LawX_law_965 ?_
  refine zx_iadd C d_LawX_law_966 ?_
  refine zx_sld C hX d_LawX_law_967 (7 * t + 1) (nI_add (7 * t) 1) (by omega) (by omega) ?_
  refine zx_aload C d_LawX_law_968 rfl ?_
  refine zx_iload C d_LawX_law_969 rfl ?_
  refine zx_ic C d_LawX_law_970 ?_
  refine zx_iadd C d_LawX_law_971 ?_
  refine zx_sld C hX d_LawX_law_972 (7 * t + 2) (nI_add (7 * t) 2) (by omega) (by omega) ?_
  refine zx_aload C d_LawX_law_973 rfl ?_
  refine zx_iload C d_LawX_law_974 rfl ?_
  refine zx_ic C d_LawX_law_975 ?_
  refine zx_iadd C d_LawX_law_976 ?_
  refine zx_sld C hX d_LawX_law_977 (7 * t + 3) (nI_add (7 * t) 3) (by omega) (by omega) ?_
  refine zr_l (zr_V C l_LawX_105 d_LawX_law_978 (As := [_, _, _]) rfl rfl (Nat.le_of_ble_eq_true rfl) (c_Tue_cell G ad I Lw g QH QD RI RL (mw G o adm F R) S hA dA hm (xs (7 * t + 1)) (xs (7 * t + 2)) (xs (7 * t + 3))) 0 zcw_0 rfl ⟨(Nat.le_of_ble_eq_true rfl), (Nat.le_of_ble_eq_true rfl), (by show 65 + 12 * t + 0 ≤ 600000; omega), (by show 15041 + 67 * t + 0 ≤ 7302249; omega)⟩) (fun r1 w1 hw1 => ?_)
  obtain ⟨rfl, hA2, dA2, I2, L2, g2, QH2, QD2, RI2, RL2, rfl, hm2⟩ := hw1
  refine zx_perm wc_perm ?_
  refine zx_aload C d_LawX_law_981 rfl ?_
  refine zx_aload C d_LawX_law_982 rfl ?_
  refine zx_iload C d_LawX_law_983 rfl ?_
  refine zx_ic C d_LawX_law_984 ?_
  refine zx_iadd C d_LawX_law_985 ?_
  refine zx_sld C hX d_LawX_law_986 (7 * t + 1) (nI_add (7 * t) 1) (by omega) (by omega) ?_
  refine zx_aload C d_LawX_law_987 rfl ?_
  refine zx_iload C d_LawX_law_988 rfl ?_
  refine zx_ic C d_LawX_law_989 ?_
  refine zx_iadd C d_LawX_law_990 ?_
  refine zx_sld C hX d_LawX_law_991 (7 * t + 2) (nI_add (7 * t) 2) (by omega) (by omega) ?_
  refine zx_aload C d_LawX_law_992 rfl ?_
  refine zx_iload C d_LawX_law_993 rfl ?_
  refine zx_ic C d_LawX_law_994 ?_
  refine zx_iadd C d_LawX_law_995 ?_
  refine zx_sld C hX d_LawX_law_996 (7 * t + 3) (nI_add (7 * t) 3) (by omega) (by omega) ?_
  refine zr_l (zr_V C l_LawX_109 d_LawX_law_997 (As := [_, _, _]) rfl rfl (Nat.le_of_ble_eq_true rfl) (c_Mod_cell G o adm F R _ S hM _ _ _) 0 rfl rfl ⟨(Nat.le_of_ble_eq_true rfl), (Nat.le_of_ble_eq_true rfl), (by show 65 + 12 * t + 0 ≤ 600000; omega), (by show 15041 + 67 * t + 0 ≤ 7302249; omega)⟩) (fun r2 w2 hw2 => ?_)
  obtain ⟨rfl, F2, R2, rfl, hM2⟩ := hw2
  refine zx_perm wc_perm.symm ?_
  refine zx_lcmp C d_LawX_law_1000 ?_
  refine zx_if_eq C d_LawX_law_1001 (fun _ => ?_) (fun h => absurd (lg_cmp0.mpr rfl) h)
  refine zx_widen (kc1 := 65 + 12 * (t + 1)) (ks1 := 15041 + 67 * (t + 1)) (by show 65 + 12 * t ≤ _; omega) (by show 15041 + 67 * t ≤ _; omega) ?_
  exact kk _ _ _ _ _ _ _ _ _ _ _ _ hm2 hM2
set_option maxHeartbeats 1000000 in
set_option maxRecDepth 20000 in
theorem cs_22 (C : ZC G Y code "SameTuesdayLaw" nm ret room_1 4) (hX : ZX G Y b L xs) (hL : L ≤ 448) (ht : 7 * t + 7 ≤ L) (hm : crp S hA dA I Lw QH QD RI RL) (hM : mrp S F R) (kk : ∀ (S2 : ZA) (hA2 dA2 : Nat → Nat) (I2 : Nat → Int32) (L2 : Nat → Int64) (g2 : Option Nat) (QH2 QD2 : Nat → Option Nat) (RI2 : Nat → Nat → Int32) (RL2 : Nat → Nat → Int64) (F2 : Nat → Int32) (R2 : Nat → Nat → Int32), crp S2 hA2 dA2 I2 L2 QH2 QD2 RI2 RL2 → mrp S2 F2 R2 → ZV G Y (65 + 12 * (t + 1)) (15041 + 67 * (t + 1)) 1197 [(3, .int (nI (7 * t))), (2, .ref o), (1, .ref (ad 0)), (0, .ref b)] [] (cw G ad I2 L2 g2 none QH2 QD2 RI2 RL2 ++ pw hA2 dA2 (aT S2) (mw G o adm F2 R2))) : ZV G Y (65 + 12 * t) (15041 + 67 * t) 1006 [(3, .int (nI (7 * t))), (2, .ref o), (1, .ref (ad 0)), (0, .ref b)] [] (cw G ad I Lw g none QH QD RI RL ++ pw hA dA (aT S) (mw G o adm F R)) := by
  refine zx_aload C d_LawX_law_1006 rfl ?_
  refine zx_aload C d_LawX_law_1007 rfl ?_
  refine zx_iload C d_LawX_law_1008 rfl ?_
  refine zx_ic C d_LawX_law_1009 ?_
  refine zx_iadd C d_LawX_law_1010 ?_
  refine zx_sld C hX d_LawX_law_1011 (7 * t + 1) (nI_add (7 * t) 1) (by omega) (by omega) ?_
  refine zx_aload C d_LawX_law_1012 rfl ?_
  refine zx_iload C d_LawX_law_1013 rfl ?_
  refine zx_ic C d_LawX_law_1014 ?_
  refine zx_iadd C d_LawX_law_1015 ?_
  refine zx_sld C hX d_LawX_law_1016 (7 * t + 2) (nI_add (7 * t) 2) (by omega) (by omega) ?_
  refine zx_aload C d_LawX_law_1017 rfl ?_
  refine zx_iload C d_LawX_law_1018 rfl ?_
  refine zx_ic C d_LawX_law_1019 ?_
  refine zx_iadd C d_LawX_law_1020 ?_
  refine zx_sld C hX d_LawX_law_1021 (7 * t + 3) (nI_add (7 * t) 3) (by omega) (by omega) ?_
  refine zx_aload C d_LawX_law_1022 rfl ?_
  refine zx_iload C d_LawX_law_1023 rfl ?_
  refine zx_ic C d_LawX_law_1024 ?_
  refine zx_iadd C d_LawX_law_1025 ?_
  refine zx_sld C hX d_LawX_law_1026 (7 * t + 4) (nI_add (7 * t) 4) (by omega) (by omega) ?_
  refine zx_aload C d_LawX_law_1027 rfl ?_
  refine zx_iload C d_LawX_law_1028 rfl ?_
  refine zx_ic C d_LawX_law_1029 ?_
  refine zx_iadd C d_LawX_law_1030 ?_
  refine zx_sld C hX d_LawX_law_1031 (7 * t + 5) (nI_add (7 * t) 5) (by omega) (by omega) ?_
  refine zr_i (zr_V C l_LawX_110 d_LawX_law_1032 (As := [_, _, _, _, _]) rfl rfl (Nat.le_of_ble_eq_true rfl) (c_Tue_copy G ad I Lw g QH QD RI RL (mw G o adm F R) S hA dA hm (xs (7 * t + 1)) (xs (7 * t + 2)) (xs (7 * t + 3)) (xs (7 * t + 4)) (xs (7 * t + 5))) 0 zcw_0 rfl ⟨(Nat.le_of_ble_eq_true rfl), (Nat.le_of_ble_eq_true rfl), (by show 65 + 12 * t + 0 ≤ 600000; omega), (by show 15041 + 67 * t + 0 ≤ 7302249; omega)⟩) (fun r1 w1 hw1 => ?_)
  obtain ⟨rfl, hA2, dA2, I2, L2, g2, QH2, QD2, RI2, RL2, rfl, hm2⟩ := hw1
  refine zx_perm wc_perm ?_
  refine zx_aload C d_LawX_law_1035 rfl ?_
  refine zx_aload C d_LawX_law_1036 rfl ?_
  refine zx_iload C d_LawX_law_1037 rfl ?_
  refine zx_ic C d_LawX_law_1038 ?_
  refine zx_iadd C d_LawX_law_1039 ?_
  refine zx_sld C hX d_LawX_law_1040 (7 * t + 1) (nI_add (7 * t) 1) (by omega) (by omega) ?_
  refine zx_aload C d_LawX_law_1041 rfl ?_
  refine zx_iload C d_LawX_law_1042 rfl ?_
  refine zx_ic C d_LawX_law_1043 ?_
  refine zx_iadd C d_LawX_law_1044 ?_
  refine zx_sld C hX d_LawX_law_1045 (7 * t + 2) (nI_add (7 * t) 2) (by omega) (by omega) ?_
  refine zx_aload C d_LawX_law_1046 rfl ?_
  refine zx_iload C d_LawX_law_1047 rfl ?_
  refine zx_ic C d_LawX_law_1048 ?_
  refine zx_iadd C d_LawX_law_1049 ?_
  refine zx_sld C hX d_LawX_law_1050 (7 * t + 3) (nI_add (7 * t) 3) (by omega) (by omega) ?_
  refine zx_aload C d_LawX_law_1051 rfl ?_
  refine zx_iload C d_LawX_law_1052 rfl ?_
  refine zx_ic C d_LawX_law_1053 ?_
  refine zx_iadd C d_LawX_law_1054 ?_
  refine zx_sld C hX d_LawX_law_1055 (7 * t + 4) (nI_add (7 * t) 4) (by omega) (by omega) ?_
  refine zx_aload C d_LawX_law_1056 rfl ?_
  refine zx_iload C d_LawX_law_1057 rfl ?_
  refine zx_ic C d_LawX_law_1058 ?_
  refine zx_iadd C d_LawX_law_1059 ?_
  refine zx_sld C hX d_LawX_law_1060 (7 * t + 5) (nI_add (7 * t) 5) (by omega) (by omega) ?_
  refine zr_i (zr_V C l_LawX_113 d_LawX_law_1061 (As := [_, _, _, _, _]) rfl rfl (Nat.le_of_ble_eq_true rfl) (c_Mod_copy G o adm F R _ S hM _ _ _ _ _) 0 rfl rfl ⟨(Nat.le_of_ble_eq_true rfl), (Nat.le_of_ble_eq_true rfl), (by show 65 + 12 * t + 0 ≤ 600000; omega), (by show 15041 + 67 * t + 0 ≤ 7302249; omega)⟩) (fun r2 w2 hw2 => ?_)
  obtain ⟨rfl, F2, R2, rfl, hM2⟩ := hw2
  refine zx_perm wc_perm.symm ?_
  refine zx_ic_eq C d_LawX_law_1064 (fun _ => ?_) (fun h => absurd (rfl) h)
  refine zx_widen (kc1 := 65 + 12 * (t + 1)) (ks1 := 15041 + 67 * (t + 1)) (by show 65 + 12 * t ≤ _; omega) (by show 15041 + 67 * t ≤ _; omega) ?_
  exact kk _ _ _ _ _ _ _ _ _ _ _ _ hm2 hM2
set_option maxHeartbeats 1000000 in
set_option maxRecDepth 20000 in
theorem cs_23 (C : ZC G Y code "SameTuesdayLaw" nm ret room_1 4) (hX : ZX G Y b L xs) (hL : L ≤ 448) (ht : 7 * t + 7 ≤ L) (hm : crp S hA dA I Lw QH QD RI RL) (hM : mrp S F R) (kk : ∀ (S2 : ZA) (hA2 dA2 : Nat → Nat) (I2 : Nat → Int32) (L2 : Nat → Int64) (g2 : Option Nat) (QH2 QD2 : Nat → Option Nat) (RI2 : Nat → Nat → Int32) (RL2 : Nat → Nat → Int64) (F2 : Nat → Int32) (R2 : Nat → Nat → Int32), crp S2 hA2 dA2 I2 L2 QH2 QD2 RI2 RL2 → mrp S2 F2 R2 → ZV G Y (65 + 12 * (t + 1)) (15041 + 67 * (t + 1)) 1197 [(3, .int (nI (7 * t))), (2, .ref o), (1, .ref (ad 0)), (0, .ref b)] [] (cw G ad I2 L2 g2 none QH2 QD2 RI2 RL2 ++ pw hA2 dA2 (aT S2) (mw G o adm F2 R2))) : ZV G Y (65 + 12 * t) (15041 + 67 * t) 1069 [(3, .int (nI (7 * t))), (2, .ref o), (1, .ref (ad 0)), (0, .ref b)] [] (cw G ad I Lw g none QH QD RI RL ++ pw hA dA (aT S) (mw G o adm F R)) := by
  refine zx_aload C d_LawX_law_1069 rfl ?_
  refine zx_aload C d_LawX_law_1070 rfl ?_
  refine zx_iload C d_LawX_law_1071 rfl ?_
  refine zx_ic C d_LawX_law_1072 ?_
  refine zx_iadd C d_LawX_law_1073 ?_
  refine zx_sld C hX d_LawX_law_1074 (7 * t + 1) (nI_add (7 * t) 1) (by omega) (by omega) ?_
  refine zr_i (zr_V C l_LawX_114 d_LawX_law_1075 (As := [_]) rfl rfl (Nat.le_of_ble_eq_true rfl) (c_Tue_tell G ad I Lw g QH QD RI RL (mw G o adm F R) S hA dA hm (xs (7 * t + 1))) 0 zcw_0 rfl ⟨(Nat.le_of_ble_eq_true rfl), (Nat.le_of_ble_eq_true rfl), (by show 65 + 12 * t + 0 ≤ 600000; omega), (by show 15041 + 67 * t + 0 ≤ 7302249; omega)⟩) (fun r1 w1 hw1 => ?_)
  obtain ⟨rfl, hA2, dA2, I2, L2, g2, QH2, QD2, RI2, RL2, rfl, hm2⟩ := hw1
  refine zx_perm wc_perm ?_
  refine zx_aload C d_LawX_law_1078 rfl ?_
  refine zx_aload C d_LawX_law_1079 rfl ?_
  refine zx_iload C d_LawX_law_1080 rfl ?_
  refine zx_ic C d_LawX_law_1081 ?_
  refine zx_iadd C d_LawX_law_1082 ?_
  refine zx_sld C hX d_LawX_law_1083 (7 * t + 1) (nI_add (7 * t) 1) (by omega) (by omega) ?_
  refine zr_i (zr_V C l_LawX_117 d_LawX_law_1084 (As := [_]) rfl rfl (Nat.le_of_ble_eq_true rfl) (c_Mod_tell G o adm F R _ S hM _) 0 rfl rfl ⟨(Nat.le_of_ble_eq_true rfl), (Nat.le_of_ble_eq_true rfl), (by show 65 + 12 * t + 0 ≤ 600000; omega), (by show 15041 + 67 * t + 0 ≤ 7302249; omega)⟩) (fun r2 w2 hw2 => ?_)
  obtain ⟨rfl, F2, R2, rfl, hM2⟩ := hw2
  refine zx_perm wc_perm.symm ?_
  refine zx_ic_eq C d_LawX_law_1087 (fun _ => ?_) (fun h => absurd (rfl) h)
  refine zx_widen (kc1 := 65 + 12 * (t + 1)) (ks1 := 15041 + 67 * (t + 1)) (by show 65 + 12 * t ≤ _; omega) (by show 15041 + 67 * t ≤ _; omega) ?_
  exact kk _ _ _ _ _ _ _ _ _ _ _ _ hm2 hM2
set_option maxHeartbeats 1000000 in
set_option maxRecDepth 20000 in
theorem cs_24 (C : ZC G Y code "SameTuesdayLaw" nm ret room_1 4) (hX : ZX G Y b L xs) (hL : L ≤ 448) (ht : 7 * t + 7 ≤ L) (hm : crp S hA dA I Lw QH QD RI RL) (hM : mrp S F R) (kk : ∀ (S2 : ZA) (hA2 dA2 : Nat → Nat) (I2 : Nat → Int32) (L2 : Nat → Int64) (g2 : Option Nat) (QH2 QD2 : Nat → Option Nat) (RI2 : Nat → Nat → Int32) (RL2 : Nat → Nat → Int64) (F2 : Nat → Int32) (R2 : Nat → Nat → Int32), crp S2 hA2 dA2 I2 L2 QH2 QD2 RI2 RL2 → mrp S2 F2 R2 → ZV G Y (65 + 12 * (t + 1)) (15041 + 67 * (t + 1)) 1197 [(3, .int (nI (7 * t))), (2, .ref o), (1, .ref (ad 0)), (0, .ref b)] [] (cw G ad I2 L2 g2 none QH2 QD2 RI2 RL2 ++ pw hA2 dA2 (aT S2) (mw G o adm F2 R2))) : ZV G Y (65 + 12 * t) (15041 + 67 * t) 1092 [(3, .int (nI (7 * t))), (2, .ref o), (1, .ref (ad 0)), (0, .ref b)] [] (cw G ad I Lw g none QH QD RI RL ++ pw hA dA (aT S) (mw G o adm F R)) := by
  refine zx_aload C d_LawX_law_1092 rfl ?_
  refine zx_aload C d_LawX_law_1093 rfl ?_
  refine zx_iload C d_LawX_law_1094 rfl ?_
  refine zx_ic C d_LawX_law_1095 ?_
  refine zx_iadd C d_LawX_law_1096 ?_
  refine zx_sld C hX d_LawX_law_1097 (7 * t + 1) (nI_add (7 * t) 1) (by omega) (by omega) ?_
  refine zr_i (zr_V C l_LawX_118 d_LawX_law_1098 (As := [_]) rfl rfl (Nat.le_of_ble_eq_true rfl) (c_Tue_rhyme G ad I Lw g QH QD RI RL (mw G o adm F R) S hA dA hm (xs (7 * t + 1))) 0 zcw_0 rfl ⟨(Nat.le_of_ble_eq_true rfl), (Nat.le_of_ble_eq_true rfl), (by show 65 + 12 * t + 0 ≤ 600000; omega), (by show 15041 + 67 * t + 0 ≤ 7302249; omega)⟩) (fun r1 w1 hw1 => ?_)
  obtain ⟨rfl, hA2, dA2, I2, L2, g2, QH2, QD2, RI2, RL2, rfl, hm2⟩ := hw1
  refine zx_perm wc_perm ?_
  refine zx_aload C d_LawX_law_1101 rfl ?_
  refine zx_aload C d_LawX_law_1102 rfl ?_
  refine zx_iload C d_LawX_law_1103 rfl ?_
  refine zx_ic C d_LawX_law_1104 ?_
  refine zx_iadd C d_LawX_law_1105 ?_
  refine zx_sld C hX d_LawX_law_1106 (7 * t + 1) (nI_add (7 * t) 1) (by omega) (by omega) ?_
  refine zr_i (zr_V C l_LawX_121 d_LawX_law_1107 (As := [_]) rfl rfl (Nat.le_of_ble_eq_true rfl) (c_Mod_rhyme G o adm F R _ S hM _) 0 rfl rfl ⟨(Nat.le_of_ble_eq_true rfl), (Nat.le_of_ble_eq_true rfl), (by show 65 + 12 * t + 0 ≤ 600000; omega), (by show 15041 + 67 * t + 0 ≤ 7302249; omega)⟩) (fun r2 w2 hw2 => ?_)
  obtain ⟨rfl, F2, R2, rfl, hM2⟩ := hw2
  refine zx_perm wc_perm.symm ?_
  refine zx_ic_eq C d_LawX_law_1110 (fun _ => ?_) (fun h => absurd (rfl) h)
  refine zx_widen (kc1 := 65 + 12 * (t + 1)) (ks1 := 15041 + 67 * (t + 1)) (by show 65 + 12 * t ≤ _; omega) (by show 15041 + 67 * t ≤ _; omega) ?_
  exact kk _ _ _ _ _ _ _ _ _ _ _ _ hm2 hM2
set_option maxHeartbeats 1000000 in
set_option maxRecDepth 20000 in
theorem cs_25 (C : ZC G Y code "SameTuesdayLaw" nm ret room_1 4) (hX : ZX G Y b L xs) (hL : L ≤ 448) (ht : 7 * t + 7 ≤ L) (hm : crp S hA dA I Lw QH QD RI RL) (hM : mrp S F R) (kk : ∀ (S2 : ZA) (hA2 dA2 : Nat → Nat) (I2 : Nat → Int32) (L2 : Nat → Int64) (g2 : Option Nat) (QH2 QD2 : Nat → Option Nat) (RI2 : Nat → Nat → Int32) (RL2 : Nat → Nat → Int64) (F2 : Nat → Int32) (R2 : Nat → Nat → Int32), crp S2 hA2 dA2 I2 L2 QH2 QD2 RI2 RL2 → mrp S2 F2 R2 → ZV G Y (65 + 12 * (t + 1)) (15041 + 67 * (t + 1)) 1197 [(3, .int (nI (7 * t))), (2, .ref o), (1, .ref (ad 0)), (0, .ref b)] [] (cw G ad I2 L2 g2 none QH2 QD2 RI2 RL2 ++ pw hA2 dA2 (aT S2) (mw G o adm F2 R2))) : ZV G Y (65 + 12 * t) (15041 + 67 * t) 1115 [(3, .int (nI (7 * t))), (2, .ref o), (1, .ref (ad 0)), (0, .ref b)] [] (cw G ad I Lw g none QH QD RI RL ++ pw hA dA (aT S) (mw G o adm F R)) := by
  refine zx_aload C d_LawX_law_1115 rfl ?_
  refine zx_aload C d_LawX_law_1116 rfl ?_
  refine zx_iload C d_LawX_law_1117 rfl ?_
  refine zx_ic C d_LawX_law_1118 ?_
  refine zx_iadd C d_LawX_law_1119 ?_
  refine zx_sld C hX d_LawX_law_1120 (7 * t + 1) (nI_add (7 * t) 1) (by omega) (by omega) ?_
  refine zx_aload C d_LawX_law_1121 rfl ?_
  refine zx_iload C d_LawX_law_1122 rfl ?_
  refine zx_ic C d_LawX_law_1123 ?_
  refine zx_iadd C d_LawX_law_1124 ?_
  refine zx_sld C hX d_LawX_law_1125 (7 * t + 2) (nI_add (7 * t) 2) (by omega) (by omega) ?_
  refine zr_i (zr_V C l_LawX_122 d_LawX_law_1126 (As := [_, _]) rfl rfl (Nat.le_of_ble_eq_true rfl) (c_Tue_as G ad I Lw g QH QD RI RL (mw G o adm F R) S hA dA hm (xs (7 * t + 1)) (xs (7 * t + 2))) 0 zcw_0 rfl ⟨(Nat.le_of_ble_eq_true rfl), (Nat.le_of_ble_eq_true rfl), (by show 65 + 12 * t + 0 ≤ 600000; omega), (by show 15041 + 67 * t + 0 ≤ 7302249; omega)⟩) (fun r1 w1 hw1 => ?_)
  obtain ⟨rfl, hA2, dA2, I2, L2, g2, QH2, QD2, RI2, RL2, rfl, hm2⟩ := hw1
  refine zx_perm wc_perm ?_
  refine zx_aload C d_LawX_law_1129 rfl ?_
  refine zx_aload C d_LawX_law_1130 rfl ?_
  refine zx_iload C d_LawX_law_1131 rfl ?_
  refine zx_ic C d_LawX_law_1132 ?_
  refine zx_iadd C d_LawX_law_1133 ?_
  refine zx_sld C hX d_LawX_law_1134 (7 * t + 1) (nI_add (7 * t) 1) (by omega) (by omega) ?_
  refine zx_aload C d_LawX_law_1135 rfl ?_
  refine zx_iload C d_LawX_law_1136 rfl ?_
  refine zx_ic C d_LawX_law_1137 ?_
  refine zx_iadd C d_LawX_law_1138 ?_
  refine zx_sld C hX d_LawX_law_1139 (7 * t + 2) (nI_add (7 * t) 2) (by omega) (by omega) ?_
  refine zr_i (zr_V C l_LawX_125 d_LawX_law_1140 (As := [_, _]) rfl rfl (Nat.le_of_ble_eq_true rfl) (c_Mod_as G o adm F R _ S hM _ _) 0 rfl rfl ⟨(Nat.le_of_ble_eq_true rfl), (Nat.le_of_ble_eq_true rfl), (by show 65 + 12 * t + 0 ≤ 600000; omega), (by show 15041 + 67 * t + 0 ≤ 7302249; omega)⟩) (fun r2 w2 hw2 => ?_)
  obtain ⟨rfl, F2, R2, rfl, hM2⟩ := hw2
  refine zx_perm wc_perm.symm ?_
  refine zx_ic_eq C d_LawX_law_1143 (fun _ => ?_) (fun h => absurd (rfl) h)
  refine zx_widen (kc1 := 65 + 12 * (t + 1)) (ks1 := 15041 + 67 * (t + 1)) (by show 65 + 12 * t ≤ _; omega) (by show 15041 + 67 * t ≤ _; omega) ?_
  exact kk _ _ _ _ _ _ _ _ _ _ _ _ hm2 hM2
set_option maxHeartbeats 1000000 in
set_option maxRecDepth 20000 in
theorem cs_26 (C : ZC G Y code "SameTuesdayLaw" nm ret room_1 4) (hX : ZX G Y b L xs) (hL : L ≤ 448) (ht : 7 * t + 7 ≤ L) (hm : crp S hA dA I Lw QH QD RI RL) (hM : mrp S F R) (kk : ∀ (S2 : ZA) (hA2 dA2 : Nat → Nat) (I2 : Nat → Int32) (L2 : Nat → Int64) (g2 : Option Nat) (QH2 QD2 : Nat → Option Nat) (RI2 : Nat → Nat → Int32) (RL2 : Nat → Nat → Int64) (F2 : Nat → Int32) (R2 : Nat → Nat → Int32), crp S2 hA2 dA2 I2 L2 QH2 QD2 RI2 RL2 → mrp S2 F2 R2 → ZV G Y (65 + 12 * (t + 1)) (15041 + 67 * (t + 1)) 1197 [(3, .int (nI (7 * t))), (2, .ref o), (1, .ref (ad 0)), (0, .ref b)] [] (cw G ad I2 L2 g2 none QH2 QD2 RI2 RL2 ++ pw hA2 dA2 (aT S2) (mw G o adm F2 R2))) : ZV G Y (65 + 12 * t) (15041 + 67 * t) 1148 [(3, .int (nI (7 * t))), (2, .ref o), (1, .ref (ad 0)), (0, .ref b)] [] (cw G ad I Lw g none QH QD RI RL ++ pw hA dA (aT S) (mw G o adm F R)) := by
  refine zx_aload C d_LawX_law_1148 rfl ?_
  refine zr_i (zr_V C l_LawX_126 d_LawX_law_1149 (As := []) rfl rfl (Nat.le_of_ble_eq_true rfl) (c_Tue_trace G ad I Lw g QH QD RI RL (mw G o adm F R) S hA dA hm) 0 zcw_0 rfl ⟨(Nat.le_of_ble_eq_true rfl), (Nat.le_of_ble_eq_true rfl), (by show 65 + 12 * t + 0 ≤ 600000; omega), (by show 15041 + 67 * t + 0 ≤ 7302249; omega)⟩) (fun r1 w1 hw1 => ?_)
  obtain ⟨rfl, hA2, dA2, I2, L2, g2, QH2, QD2, RI2, RL2, rfl, hm2⟩ := hw1
  refine zx_perm wc_perm ?_
  refine zx_aload C d_LawX_law_1152 rfl ?_
  refine zr_di (zr_V C l_LawX_129 d_LawX_law_1153 (As := []) rfl rfl (Nat.le_of_ble_eq_true rfl) (c_Mod_trace G o adm F R _) 0 rfl rfl ⟨(Nat.le_of_ble_eq_true rfl), (Nat.le_of_ble_eq_true rfl), (by show 65 + 12 * t + 0 ≤ 600000; omega), (by show 15041 + 67 * t + 0 ≤ 7302249; omega)⟩) ?_
  refine zx_perm wc_perm.symm ?_
  refine zx_ic_eq C d_LawX_law_1156 (fun _ => ?_) (fun h => absurd (hM.2.2.1.symm) h)
  refine zx_widen (kc1 := 65 + 12 * (t + 1)) (ks1 := 15041 + 67 * (t + 1)) (by show 65 + 12 * t ≤ _; omega) (by show 15041 + 67 * t ≤ _; omega) ?_
  exact kk _ _ _ _ _ _ _ _ _ _ _ _ hm2 hM
set_option maxHeartbeats 1000000 in
set_option maxRecDepth 20000 in
theorem cs_27 (C : ZC G Y code "SameTuesdayLaw" nm ret room_1 4) (hX : ZX G Y b L xs) (hL : L ≤ 448) (ht : 7 * t + 7 ≤ L) (hm : crp S hA dA I Lw QH QD RI RL) (hM : mrp S F R) (kk : ∀ (S2 : ZA) (hA2 dA2 : Nat → Nat) (I2 : Nat → Int32) (L2 : Nat → Int64) (g2 : Option Nat) (QH2 QD2 : Nat → Option Nat) (RI2 : Nat → Nat → Int32) (RL2 : Nat → Nat → Int64) (F2 : Nat → Int32) (R2 : Nat → Nat → Int32), crp S2 hA2 dA2 I2 L2 QH2 QD2 RI2 RL2 → mrp S2 F2 R2 → ZV G Y (65 + 12 * (t + 1)) (15041 + 67 * (t + 1)) 1197 [(3, .int (nI (7 * t))), (2, .ref o), (1, .ref (ad 0)), (0, .ref b)] [] (cw G ad I2 L2 g2 none QH2 QD2 RI2 RL2 ++ pw hA2 dA2 (aT S2) (mw G o adm F2 R2))) : ZV G Y (65 + 12 * t) (15041 + 67 * t) 1161 [(3, .int (nI (7 * t))), (2, .ref o), (1, .ref (ad 0)), (0, .ref b)] [] (cw G ad I Lw g none QH QD RI RL ++ pw hA dA (aT S) (mw G o adm F R)) := by
  refine zx_aload C d_LawX_law_1161 rfl ?_
  refine zr_di (zr_V C l_LawX_130 d_LawX_law_1162 (As := []) rfl rfl (Nat.le_of_ble_eq_true rfl) (c_Tue_fault G _ _ _ _ _ _ _ _ _ _) 0 zcw_0 rfl ⟨(Nat.le_of_ble_eq_true rfl), (Nat.le_of_ble_eq_true rfl), (by show 65 + 12 * t + 0 ≤ 600000; omega), (by show 15041 + 67 * t + 0 ≤ 7302249; omega)⟩) ?_
  refine zx_perm wc_perm ?_
  refine zx_aload C d_LawX_law_1165 rfl ?_
  refine zr_di (zr_V C l_LawX_133 d_LawX_law_1166 (As := []) rfl rfl (Nat.le_of_ble_eq_true rfl) (c_Mod_fault G o adm F R _) 0 rfl rfl ⟨(Nat.le_of_ble_eq_true rfl), (Nat.le_of_ble_eq_true rfl), (by show 65 + 12 * t + 0 ≤ 600000; omega), (by show 15041 + 67 * t + 0 ≤ 7302249; omega)⟩) ?_
  refine zx_perm wc_perm.symm ?_
  refine zx_ic_eq C d_LawX_law_1169 (fun _ => ?_) (fun h => absurd (hm.2.1.trans hM.2.1.symm) h)
  refine zx_widen (kc1 := 65 + 12 * (t + 1)) (ks1 := 15041 + 67 * (t + 1)) (by show 65 + 12 * t ≤ _; omega) (by show 15041 + 67 * t ≤ _; omega) ?_
  exact kk _ _ _ _ _ _ _ _ _ _ _ _ hm hM
set_option maxHeartbeats 1000000 in
set_option maxRecDepth 20000 in
theorem cs_28 (C : ZC G Y code "SameTuesdayLaw" nm ret room_1 4) (hX : ZX G Y b L xs) (hL : L ≤ 448) (ht : 7 * t + 7 ≤ L) (hm : crp S hA dA I Lw QH QD RI RL) (hM : mrp S F R) (kk : ∀ (S2 : ZA) (hA2 dA2 : Nat → Nat) (I2 : Nat → Int32) (L2 : Nat → Int64) (g2 : Option Nat) (QH2 QD2 : Nat → Option Nat) (RI2 : Nat → Nat → Int32) (RL2 : Nat → Nat → Int64) (F2 : Nat → Int32) (R2 : Nat → Nat → Int32), crp S2 hA2 dA2 I2 L2 QH2 QD2 RI2 RL2 → mrp S2 F2 R2 → ZV G Y (65 + 12 * (t + 1)) (15041 + 67 * (t + 1)) 1197 [(3, .int (nI (7 * t))), (2, .ref o), (1, .ref (ad 0)), (0, .ref b)] [] (cw G ad I2 L2 g2 none QH2 QD2 RI2 RL2 ++ pw hA2 dA2 (aT S2) (mw G o adm F2 R2))) : ZV G Y (65 + 12 * t) (15041 + 67 * t) 1174 [(3, .int (nI (7 * t))), (2, .ref o), (1, .ref (ad 0)), (0, .ref b)] [] (cw G ad I Lw g none QH QD RI RL ++ pw hA dA (aT S) (mw G o adm F R)) := by
  refine zx_aload C d_LawX_law_1174 rfl ?_
  refine zx_aload C d_LawX_law_1175 rfl ?_
  refine zx_iload C d_LawX_law_1176 rfl ?_
  refine zx_ic C d_LawX_law_1177 ?_
  refine zx_iadd C d_LawX_law_1178 ?_
  refine zx_sld C hX d_LawX_law_1179 (7 * t + 1) (nI_add (7 * t) 1) (by omega) (by omega) ?_
  refine zr_i (zr_V C l_LawX_134 d_LawX_law_1180 (As := [_]) rfl rfl (Nat.le_of_ble_eq_true rfl) (c_Tue_many G ad I Lw g QH QD RI RL (mw G o adm F R) S hA dA hm (xs (7 * t + 1))) 0 zcw_0 rfl ⟨(Nat.le_of_ble_eq_true rfl), (Nat.le_of_ble_eq_true rfl), (by show 65 + 12 * t + 0 ≤ 600000; omega), (by show 15041 + 67 * t + 0 ≤ 7302249; omega)⟩) (fun r1 w1 hw1 => ?_)
  obtain ⟨rfl, hA2, dA2, I2, L2, g2, QH2, QD2, RI2, RL2, rfl, hm2⟩ := hw1
  refine zx_perm wc_perm ?_
  refine zx_aload C d_LawX_law_1183 rfl ?_
  refine zx_aload C d_LawX_law_1184 rfl ?_
  refine zx_iload C d_LawX_law_1185 rfl ?_
  refine zx_ic C d_LawX_law_1186 ?_
  refine zx_iadd C d_LawX_law_1187 ?_
  refine zx_sld C hX d_LawX_law_1188 (7 * t + 1) (nI_add (7 * t) 1) (by omega) (by omega) ?_
  refine zr_di (zr_V C l_LawX_137 d_LawX_law_1189 (As := [_]) rfl rfl (Nat.le_of_ble_eq_true rfl) (c_Mod_many G o adm F R _ _) 0 rfl rfl ⟨(Nat.le_of_ble_eq_true rfl), (Nat.le_of_ble_eq_true rfl), (by show 65 + 12 * t + 0 ≤ 600000; omega), (by show 15041 + 67 * t + 0 ≤ 7302249; omega)⟩) ?_
  refine zx_perm wc_perm.symm ?_
  refine zx_ic_eq C d_LawX_law_1192 (fun _ => ?_) (fun h => absurd ((many_eq hM).symm) h)
  refine zx_widen (kc1 := 65 + 12 * (t + 1)) (ks1 := 15041 + 67 * (t + 1)) (by show 65 + 12 * t ≤ _; omega) (by show 15041 + 67 * t ≤ _; omega) ?_
  exact kk _ _ _ _ _ _ _ _ _ _ _ _ hm2 hM
end ZLaw
